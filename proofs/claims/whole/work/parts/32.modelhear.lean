/-! the reference: what is heard and forgotten, the longest repeat, all phrases -/
/-- the state of the reference as far as letters go -/
def MdV (X : gX) (h : gH) (m pl : Nat) (L : List Int32) (I : Nat → Int32) (A : Nat → Nat → Int32) (V : Nat → Int64) : Prop := MdB X h m L.length pl I A V ∧ L.length ≤ 40 ∧ (∀ i, i < L.length → A 5 i = lt L i) ∧ (I 11 = 0 ∨ (I 11 = 1 ∧ MdC L A))
/-- the letters have changed to L: nothing else but the ranks, what is said and the row -/
def MdH (I I' : Nat → Int32) (A A' : Nat → Nat → Int32) : Prop := (∀ j, j ≠ 11 → I' j = I j) ∧ ∀ k, k ≠ 5 → k ≠ 7 → k ≠ 8 → k ≠ 10 → A' k = A k
theorem MdH.rf {I : Nat → Int32} {A : Nat → Nat → Int32} : MdH I I A A := ⟨fun _ _ => rfl, fun _ _ _ _ _ => rfl⟩
theorem MdH.trans {I I1 I2 : Nat → Int32} {A A1 A2 : Nat → Nat → Int32} (x : MdH I I1 A A1) (y : MdH I1 I2 A1 A2) : MdH I I2 A A2 := ⟨fun j hj => (y.1 j hj).trans (x.1 j hj), fun k a b c d => (y.2 k a b c d).trans (x.2 k a b c d)⟩
theorem MdE.toH {I I' : Nat → Int32} {A A' : Nat → Nat → Int32} (x : MdE I I' A A') : MdH I I' A A' := ⟨x.1, fun k _ a b _ => x.2 k a b⟩
/-- a call on the reference that answers nothing and leaves the letters L; what is said stays where q says so -/
abbrev mdVp (X : gX) (h : gH) (z m pl : Nat) (I : Nat → Int32) (A : Nat → Nat → Int32) (V : Nat → Int64) (L : List Int32) : Option Value → gH → Nat → Prop := fun r h' z' => r = none ∧ z' = z ∧ (∃ I' A', MdV X h' m pl L I' A' V ∧ MdH I I' A A' ∧ A' 10 = A 10 ∧ I' 11 = 0) ∧ OffM h h' m
set_option maxRecDepth 100000 in
set_option maxHeartbeats 4000000 in
theorem m12_forgets {X : gX} {h : gH} {z m pl : Nat} {I : Nat → Int32} {A : Nat → Nat → Int32} {V : Nat → Int64} {L : List Int32} (g : Nat) (hg : g ≤ L.length) (hV : MdV X h m pl L I A V) : gM X yX12_forgets cX12_forgets 3 none (1, 0, 0) [.ref m, .int (nI g)] h z (mdVp X h z m pl I A V (L.drop g)) gNoX := by
  obtain ⟨hM, hn, hA, -⟩ := hV
  refine gM.of px12 (Nat.le_of_ble_eq_true rfl) ?_
  intro F hE
  have hO : OffM h h m := OffM.rf
  have hup : ∀ (A : Nat → Nat → Int32) (f g : Nat → Int32), va_up (va_up A 5 f) 5 g = va_up A 5 g := fun A f g => by funext k; unfold va_up; split <;> rfl
  have hA0 : va_up A 5 (A 5) = A := by funext k; unfold va_up; split <;> simp [*]
  have hdl : (L.drop g).length = L.length - g := by simp
  have loop : ∀ (r j : Nat) (f : Nat → Int32), j + r = L.length - g → ∀ h1 : gH, MdB X h1 m (L.length - g) pl (upd I 11 (nI 0)) (va_up A 5 f) V → OffM h h1 m → (∀ i, i < j → f i = lt L (i + g)) → (∀ i, j ≤ i → i < L.length → f i = lt L i) → G X F cX12_forgets 3 yX12_forgets.cls (1, 0, 0) 0 0 17 [some (.ref m), some (.int (nI g)), some (.int (nI j))] [] h1 z := by
    intro r
    induction r with
    | zero =>
      intro j f hj h1 hM hO hf hf2
      refine g_iload_n dX12_forgets_17 rfl ?_
      refine g_aload_n dX12_forgets_18 rfl ?_
      refine g_getf fl12_61 hM.1 rfl dX12_forgets_19 ?_
      refine g_icmp_geN 45 dX12_forgets_22 (by decide) (by omega) (by omega) (fun c_22 => ?_) (fun c_22 => ?_)
      · exact g_vret hE (⟨rfl, rfl, ⟨_, _, ⟨hdl ▸ hM, by omega, fun i hi => by rw [vu_same, lt_drop]; exact hf i (by omega), Or.inl upd_same⟩, ⟨fun j hj => upd_ne hj, fun k a _ _ _ => vu_ne a⟩, vu_ne (by decide), upd_same⟩, hO⟩) dX12_forgets_45
      · exact absurd c_22 (by omega)
    | succ r ih =>
      intro j f hj h1 hM hO hf hf2
      refine g_iload_n dX12_forgets_17 rfl ?_
      refine g_aload_n dX12_forgets_18 rfl ?_
      refine g_getf fl12_61 hM.1 rfl dX12_forgets_19 ?_
      refine g_icmp_geN 45 dX12_forgets_22 (by decide) (by omega) (by omega) (fun c_22 => ?_) (fun c_22 => ?_)
      · exact absurd c_22 (by omega)
      · refine g_aload_n dX12_forgets_25 rfl ?_
        refine g_getf fl12_40 hM.1 rfl dX12_forgets_26 ?_
        refine g_iload_n dX12_forgets_29 rfl ?_
        refine g_aload_n dX12_forgets_30 rfl ?_
        refine g_getf fl12_40 hM.1 rfl dX12_forgets_31 ?_
        refine g_iload_n dX12_forgets_34 rfl ?_
        refine g_iload_n dX12_forgets_35 rfl ?_
        first | refine g_iaddN dX12_forgets_36 ?_ | refine g_iadd dX12_forgets_36 ?_
        refine g_ialdN (hM.2.1 5 (by decide)) (by show _ < 40; omega) (by decide) dX12_forgets_37 ?_
        refine md_ast (q := 5) (by decide) (by show _ < 40; omega) hM hO dX12_forgets_38 (fun h hM hO => ?_)
        refine g_iincN dX12_forgets_39 rfl (by decide) rfl ?_
        refine g_goto 17 dX12_forgets_42 (by decide) ?_
        rw [hup, vu_same] at hM
        refine ih (j + 1) _ (by omega) h hM hO (fun i hi => ?_) (fun i h1 h2 => ?_)
        · by_cases e : i = j
          · subst e; rw [upd_same]; exact hf2 _ (by omega) (by omega)
          · rw [upd_ne e]; exact hf i (by omega)
        · rw [upd_ne (by omega)]; exact hf2 i (by omega) h2
  refine g_aload_n dX12_forgets_0 rfl ?_
  refine g_iconst (nI 0) dX12_forgets_1 (by decide) ?_
  refine md_put11 rfl rfl fl12_71 hM hO dX12_forgets_2 (fun h hM hO => ?_)
  refine g_aload_n dX12_forgets_5 rfl ?_
  refine g_dup dX12_forgets_6 rfl ?_
  refine g_getf fl12_61 hM.1 rfl dX12_forgets_7 ?_
  refine g_iload_n dX12_forgets_10 rfl ?_
  first | refine g_isubN dX12_forgets_11 (by omega) ?_ | refine g_isub dX12_forgets_11 ?_
  refine md_putn fl12_61 hM hO dX12_forgets_12 (fun h hM hO => ?_)
  refine g_iconst (nI 0) dX12_forgets_15 (by decide) ?_
  refine g_istore_n dX12_forgets_16 (by decide) rfl ?_
  exact loop (L.length - g) 0 (A 5) (by omega) h (by rw [hA0]; exact hM) hO (fun i hi => absurd hi (Nat.not_lt_zero _)) (fun i _ h2 => hA i h2)
set_option maxRecDepth 100000 in
set_option maxHeartbeats 4000000 in
theorem m12_hears {X : gX} {h : gH} {z m pl : Nat} {I : Nat → Int32} {A : Nat → Nat → Int32} {V : Nat → Int64} {L : List Int32} (x : Int32) (hV : MdV X h m pl L I A V) : gM X yX12_hears cX12_hears 2 none (2, 0, 0) [.ref m, .int x] h z (mdVp X h z m pl I A V (hearL L x)) gNoX := by
  obtain ⟨hM, hn, hA, -⟩ := hV
  refine gM.of px12 (Nat.le_of_ble_eq_true rfl) ?_
  intro F hE
  have hO : OffM h h m := OffM.rf
  have join : ∀ (L1 : List Int32) (I1 : Nat → Int32) (A1 : Nat → Nat → Int32) (h1 : gH), MdB X h1 m L1.length pl I1 A1 V → L1.length < 40 → (∀ i, i < L1.length → A1 5 i = lt L1 i) → I1 11 = 0 → MdH I I1 A A1 → A1 10 = A 10 → hearL L x = L1 ++ [x] → OffM h h1 m → G X F cX12_hears 2 yX12_hears.cls (2, 0, 0) 0 0 19 [some (.ref m), some (.int x)] [] h1 z := by
    intro L1 I1 A1 h hM hn hA hI1 hH h10 hx hO
    refine g_aload_n dX12_hears_19 rfl ?_
    refine g_getf fl12_40 hM.1 rfl dX12_hears_20 ?_
    refine g_aload_n dX12_hears_23 rfl ?_
    refine g_getf fl12_61 hM.1 rfl dX12_hears_24 ?_
    refine g_iload_n dX12_hears_27 rfl ?_
    refine md_ast (q := 5) (by decide) (by show _ < 40; omega) hM hO dX12_hears_28 (fun h hM hO => ?_)
    refine g_aload_n dX12_hears_29 rfl ?_
    refine g_dup dX12_hears_30 rfl ?_
    refine g_getf fl12_61 hM.1 rfl dX12_hears_31 ?_
    refine g_iconst (nI 1) dX12_hears_34 (by decide) ?_
    first | refine g_iaddN dX12_hears_35 ?_ | refine g_iadd dX12_hears_35 ?_
    refine md_putn fl12_61 hM hO dX12_hears_36 (fun h hM hO => ?_)
    refine g_vret hE (⟨rfl, rfl, ⟨I1, va_up A1 5 (upd (A1 5) L1.length x), ⟨?_, ?_, fun i hi => ?_, Or.inl hI1⟩, hH.trans ⟨fun _ _ => rfl, fun k a _ _ _ => vu_ne a⟩, (vu_ne (by decide)).trans h10, hI1⟩, hO⟩) dX12_hears_39
    · rw [hx, List.length_append]; exact hM
    · rw [hx, List.length_append]; show L1.length + 1 ≤ 40; omega
    · rw [hx, List.length_append] at hi
      rw [vu_same, hx]
      by_cases e : i = L1.length
      · subst e; rw [upd_same, lt_app2]
      · have hi2 : i < L1.length := by have : i < L1.length + 1 := hi; omega
        rw [upd_ne e, hA i hi2, lt_app1 hi2]
  refine g_aload_n dX12_hears_0 rfl ?_
  refine g_iconst (nI 0) dX12_hears_1 (by decide) ?_
  refine md_put11 rfl rfl fl12_71 hM hO dX12_hears_2 (fun h hM hO => ?_)
  refine g_aload_n dX12_hears_5 rfl ?_
  refine g_getf fl12_61 hM.1 rfl dX12_hears_6 ?_
  refine g_bipush (nI 40) dX12_hears_9 (by decide) ?_
  refine g_icmp_neN 19 dX12_hears_11 (by decide) (by omega) (by omega) (fun c_11 => ?_) (fun c_11 => ?_)
  · exact join L _ A h hM (by omega) hA upd_same ⟨fun j hj => upd_ne hj, fun _ _ _ _ _ => rfl⟩ rfl (by unfold hearL; rw [if_neg (by omega)]) hO
  · refine g_aload_n dX12_hears_14 rfl ?_
    refine g_iconst (nI 1) dX12_hears_15 (by decide) ?_
    refine g_callV0 kX12_75 (m12_forgets 1 (by omega) ⟨hM, hn, hA, Or.inl upd_same⟩) hM.1 rfl rfl rfl (Nat.le_of_ble_eq_true rfl) (by decide) (by decide) (by decide) (by decide) dX12_hears_16 ?_
    rintro v1 h1 z1 ⟨rfl, rfl, ⟨I1, A1, ⟨hM1, hn1, hA1, hC1⟩, hH1, h10, h11⟩, hO1⟩
    exact join (L.drop 1) I1 A1 h1 hM1 (by have : (L.drop 1).length = L.length - 1 := by simp
                                           omega) hA1 h11 ⟨fun j hj => (hH1.1 j hj).trans (upd_ne hj), hH1.2⟩ h10 (by unfold hearL; rw [if_pos (by omega)]) (hO.trans hO1)
