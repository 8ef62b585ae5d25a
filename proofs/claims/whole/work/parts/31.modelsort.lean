/-! the reference: sorting, hearing, forgetting, counting squawks -/
/-- the ranks of the reference are up -/
def MdC (L : List Int32) (A : Nat → Nat → Int32) : Prop := (∀ p, p < L.length → A 7 p = nI (rk L p)) ∧ ∀ r, r < L.length → A 8 r = nI (plc L r)
/-- the same but for the ranks -/
def MdE (I I' : Nat → Int32) (A A' : Nat → Nat → Int32) : Prop := (∀ j, j ≠ 11 → I' j = I j) ∧ ∀ k, k ≠ 7 → k ≠ 8 → A' k = A k
theorem MdE.rf {I : Nat → Int32} {A : Nat → Nat → Int32} : MdE I I A A := ⟨fun _ _ => rfl, fun _ _ _ => rfl⟩
theorem MdE.trans {I I1 I2 : Nat → Int32} {A A1 A2 : Nat → Nat → Int32} (x : MdE I I1 A A1) (y : MdE I1 I2 A1 A2) : MdE I I2 A A2 := ⟨fun j hj => (y.1 j hj).trans (x.1 j hj), fun k h7 h8 => (y.2 k h7 h8).trans (x.2 k h7 h8)⟩
set_option maxRecDepth 100000 in
set_option maxHeartbeats 4000000 in
theorem m12_sort {X : gX} {h : gH} {z m pl : Nat} {I : Nat → Int32} {A : Nat → Nat → Int32} {V : Nat → Int64} {L : List Int32} (hM : MdB X h m L.length pl I A V) (hn : L.length ≤ 40) (hA : ∀ i, i < L.length → A 5 i = lt L i) (hC : I 11 = 0 ∨ (I 11 = 1 ∧ MdC L A)) : gM X yX12_sort cX12_sort 4 none (3, 0, 0) [.ref m] h z (fun r h' z' => r = none ∧ z' = z ∧ (∃ I' A', MdB X h' m L.length pl I' A' V ∧ MdE I I' A A' ∧ I' 11 = 1 ∧ MdC L A') ∧ OffM h h' m) gNoX := by
  refine gM.of px12 (Nat.le_of_ble_eq_true rfl) ?_
  intro F hE
  obtain ⟨h9, e9⟩ : ∃ x, x = h := ⟨_, rfl⟩
  rw [← e9] at hE
  have hO : OffM h9 h m := by rw [e9]; exact OffM.rf
  clear e9
  have inner : ∀ (r j p : Nat) (h1 : gH) (I : Nat → Int32) (A : Nat → Nat → Int32), j + r = L.length → p < L.length → MdB X h1 m L.length pl I A V → (∀ i, i < L.length → A 5 i = lt L i) → G X F cX12_sort 4 yX12_sort.cls (3, 0, 0) 0 0 63 [some (.ref m), some (.int (nI p)), some (.int (nI (rk L p))), none] [] h1 z → G X F cX12_sort 4 yX12_sort.cls (3, 0, 0) 0 0 27 [some (.ref m), some (.int (nI p)), some (.int (nI (cnt (rkP L p) j))), some (.int (nI j))] [] h1 z := by
    intro r
    induction r with
    | zero =>
      intro j p h1 I A hj hp hM hA K
      refine g_iload_n dX12_sort_27 rfl ?_
      refine g_aload_n dX12_sort_28 rfl ?_
      refine g_getf fl12_61 hM.1 rfl dX12_sort_29 ?_
      refine g_icmp_geN 63 dX12_sort_32 (by decide) (by omega) (by omega) (fun c_32 => ?_) (fun c_32 => ?_)
      · rw [show j = L.length by omega]
        exact G.kill 3 K
      · exact absurd c_32 (by omega)
    | succ r ih =>
      intro j p h1 I A hj hp hM hA K
      have hb := cnt_le (rkP L p) j
      have hstep : cnt (rkP L p) (j + 1) = cnt (rkP L p) j + if rkP L p j = true then 1 else 0 := rfl
      have j55 : ∀ v : Nat, (v = if rkP L p j = true then 1 else 0) → G X F cX12_sort 4 yX12_sort.cls (3, 0, 0) 0 0 55 [some (.ref m), some (.int (nI p)), some (.int (nI (cnt (rkP L p) j))), some (.int (nI j))] [.int (nI v), .int (nI (cnt (rkP L p) j))] h1 z := by
        intro v hv
        first | refine g_iaddN dX12_sort_55 ?_ | refine g_iadd dX12_sort_55 ?_
        refine g_istore_n dX12_sort_56 (by decide) rfl ?_
        refine g_iincN dX12_sort_57 rfl (by decide) rfl ?_
        refine g_goto 27 dX12_sort_60 (by decide) ?_
        rw [hv, ← hstep]
        exact ih (j + 1) p h1 I A (by omega) hp hM hA K
      refine g_iload_n dX12_sort_27 rfl ?_
      refine g_aload_n dX12_sort_28 rfl ?_
      refine g_getf fl12_61 hM.1 rfl dX12_sort_29 ?_
      refine g_icmp_geN 63 dX12_sort_32 (by decide) (by omega) (by omega) (fun c_32 => ?_) (fun c_32 => ?_)
      · exact absurd c_32 (by omega)
      · refine g_iload_n dX12_sort_35 rfl ?_
        refine g_iload_n dX12_sort_36 rfl ?_
        refine g_iload_n dX12_sort_37 rfl ?_
        refine g_icmp_eqN 54 dX12_sort_38 (by decide) (by omega) (by omega) (fun c_38 => ?_) (fun c_38 => ?_)
        · refine g_iconst (nI 0) dX12_sort_54 (by decide) ?_
          exact j55 0 (by rw [if_neg]; unfold rkP; simp [c_38])
        · refine g_aload_n dX12_sort_41 rfl ?_
          refine g_iload_n dX12_sort_42 rfl ?_
          refine g_iload_n dX12_sort_43 rfl ?_
          refine g_callV0 kX12_113 (m12_goesAhead j p (by omega) hp hM hn hA) hM.1 rfl rfl rfl (Nat.le_of_ble_eq_true rfl) (by decide) (by decide) (by decide) (by decide) dX12_sort_44 ?_
          rintro v1 h2 z1 ⟨rfl, rfl, rfl⟩
          refine g_if_eqB 54 dX12_sort_47 (by decide) (fun c_47 => ?_) (fun c_47 => ?_)
          · refine g_iconst (nI 0) dX12_sort_54 (by decide) ?_
            exact j55 0 (by rw [if_neg]; unfold rkP; simp [c_47])
          · refine g_iconst (nI 1) dX12_sort_50 (by decide) ?_
            refine g_goto 55 dX12_sort_51 (by decide) ?_
            exact j55 1 (by rw [if_pos]; unfold rkP; simp [c_38, c_47])
  have outer : ∀ (r p : Nat), p + r = L.length → ∀ (h1 : gH) (I1 : Nat → Int32) (A1 : Nat → Nat → Int32), MdB X h1 m L.length pl I1 A1 V → (∀ i, i < L.length → A1 5 i = lt L i) → MdE I I1 A A1 → I1 11 = 1 → OffM h9 h1 m → (∀ i, i < p → A1 7 i = nI (rk L i)) → (∀ i, i < p → A1 8 (rk L i) = nI i) → G X F cX12_sort 4 yX12_sort.cls (3, 0, 0) 0 0 15 [some (.ref m), some (.int (nI p)), none, none] [] h1 z := by
    intro r
    induction r with
    | zero =>
      intro p hp h1 I1 A1 hM hA hE1 hI1 hO g7 g8
      refine g_iload_n dX12_sort_15 rfl ?_
      refine g_aload_n dX12_sort_16 rfl ?_
      refine g_getf fl12_61 hM.1 rfl dX12_sort_17 ?_
      refine g_icmp_geN 83 dX12_sort_20 (by decide) (by omega) (by omega) (fun c_20 => ?_) (fun c_20 => ?_)
      · exact g_vret hE (⟨rfl, rfl, ⟨I1, A1, hM, hE1, hI1, fun i hi => g7 i (by omega), fun r hr => by have := plc_spec hr; have q := g8 (plc L r) (by omega); rw [this.2] at q; exact q⟩, hO⟩) dX12_sort_83
      · exact absurd c_20 (by omega)
    | succ r ih =>
      intro p hp h1 I1 A1 hM hA hE1 hI1 hO g7 g8
      have hlt := rk_lt (L := L) (p := p) (by omega)
      refine g_iload_n dX12_sort_15 rfl ?_
      refine g_aload_n dX12_sort_16 rfl ?_
      refine g_getf fl12_61 hM.1 rfl dX12_sort_17 ?_
      refine g_icmp_geN 83 dX12_sort_20 (by decide) (by omega) (by omega) (fun c_20 => ?_) (fun c_20 => ?_)
      · exact absurd c_20 (by omega)
      · refine g_iconst (nI 0) dX12_sort_23 (by decide) ?_
        refine g_istore_n dX12_sort_24 (by decide) rfl ?_
        refine g_iconst (nI 0) dX12_sort_25 (by decide) ?_
        refine g_istore_n dX12_sort_26 (by decide) rfl ?_
        refine inner L.length 0 p h1 I1 A1 (by omega) (by omega) hM hA ?_
        refine g_aload_n dX12_sort_63 rfl ?_
        refine g_getf fl12_46 hM.1 rfl dX12_sort_64 ?_
        refine g_iload_n dX12_sort_67 rfl ?_
        refine g_iload_n dX12_sort_68 rfl ?_
        refine md_ast (q := 7) (by decide) (by show _ < 40; omega) hM hO dX12_sort_69 (fun h hM hO => ?_)
        refine g_aload_n dX12_sort_70 rfl ?_
        refine g_getf fl12_49 hM.1 rfl dX12_sort_71 ?_
        refine g_iload_n dX12_sort_74 rfl ?_
        refine g_iload_n dX12_sort_75 rfl ?_
        refine md_ast (q := 8) (by decide) (by show _ < 40; omega) hM hO dX12_sort_76 (fun h hM hO => ?_)
        refine g_iincN dX12_sort_77 rfl (by decide) rfl ?_
        refine g_goto 15 dX12_sort_80 (by decide) ?_
        refine G.kill 2 ?_
        refine ih (p + 1) (by omega) h _ _ hM (fun i hi => by rw [vu_ne (by decide), vu_ne (by decide)]; exact hA i hi) (hE1.trans ⟨fun _ _ => rfl, fun k a b => by rw [vu_ne b, vu_ne a]⟩) hI1 hO (fun i hi => ?_) (fun i hi => ?_)
        · rw [vu_ne (by decide), vu_same]
          by_cases e : i = p
          · subst e; rw [upd_same]
          · rw [upd_ne e]; exact g7 i (by omega)
        · rw [vu_same, vu_ne (by decide)]
          by_cases e : i = p
          · subst e; rw [upd_same]
          · rw [upd_ne (fun q => e (rk_inj (by omega) (by omega) q))]; exact g8 i (by omega)
  refine g_aload_n dX12_sort_0 rfl ?_
  refine g_getf fl12_71 hM.1 rfl dX12_sort_1 ?_
  refine g_if_eq 8 dX12_sort_4 (by decide) (fun c_4 => ?_) (fun c_4 => ?_)
  · refine g_aload_n dX12_sort_8 rfl ?_
    refine g_iconst (nI 1) dX12_sort_9 (by decide) ?_
    refine md_put11 rfl rfl fl12_71 hM hO dX12_sort_10 (fun h hM hO => ?_)
    refine g_iconst (nI 0) dX12_sort_13 (by decide) ?_
    refine g_istore_n dX12_sort_14 (by decide) rfl ?_
    exact outer L.length 0 (by omega) h _ A hM hA ⟨fun j hj => upd_ne hj, fun _ _ _ => rfl⟩ upd_same hO (fun i hi => absurd hi (Nat.not_lt_zero _)) (fun i hi => absurd hi (Nat.not_lt_zero _))
  · exact g_vret hE (⟨rfl, rfl, ⟨_, _, hM, MdE.rf, (hC.resolve_left c_4).1, (hC.resolve_left c_4).2⟩, hO⟩) dX12_sort_7
/-- the phrase of the first k letters of the squawk of p stands at no earlier place -/
def isF (L : List Int32) (p k : Nat) : Bool := (fstA (fun q => decide (k ≤ lcp L q p)) p 0).isNone
def stP (L : List Int32) (p k : Nat) : Nat → Bool := fun q => decide (k ≤ lcp L q p)
set_option maxRecDepth 100000 in
set_option maxHeartbeats 4000000 in
theorem m12_isFirst {X : gX} {h : gH} {z m pl : Nat} {I : Nat → Int32} {A : Nat → Nat → Int32} {V : Nat → Int64} {L : List Int32} (p k : Nat) (hp : p ≤ L.length) (hk : k < 2 ^ 31) (hM : MdB X h m L.length pl I A V) (hn : L.length ≤ 40) (hA : ∀ i, i < L.length → A 5 i = lt L i) : gM X yX12_isFirst cX12_isFirst 4 (some .boolean) (2, 0, 0) [.ref m, .int (nI p), .int (nI k)] h z (pR h z (b2i (isF L p k))) gNoX := by
  refine gM.of px12 (Nat.le_of_ble_eq_true rfl) ?_
  intro F hE
  have loop : ∀ (r j : Nat), j + r = p → fstA (stP L p k) p 0 = fstA (stP L p k) r j → G X F cX12_isFirst 4 yX12_isFirst.cls (2, 0, 0) 0 0 2 [some (.ref m), some (.int (nI p)), some (.int (nI k)), some (.int (nI j))] [] h z := by
    intro r
    induction r with
    | zero =>
      intro j hj hf
      refine g_iload_n dX12_isFirst_2 rfl ?_
      refine g_iload_n dX12_isFirst_3 rfl ?_
      refine g_icmp_geN 25 dX12_isFirst_4 (by decide) (by omega) (by omega) (fun c_4 => ?_) (fun c_4 => ?_)
      · refine g_iconst (nI 1) dX12_isFirst_25 (by decide) ?_
        exact g_iret hE rfl (⟨by rw [b2i_t (show isF L p k = true from by show (fstA (stP L p k) p 0).isNone = true; rw [hf]; rfl)]; rfl, rfl, rfl⟩) dX12_isFirst_26
      · exact absurd c_4 (by omega)
    | succ r ih =>
      intro j hj hf
      have b1 := lcp_le (L := L) (p := j) (q := p) (by omega)
      have hf2 : fstA (stP L p k) p 0 = if stP L p k j = true then some j else fstA (stP L p k) r (j + 1) := hf
      refine g_iload_n dX12_isFirst_2 rfl ?_
      refine g_iload_n dX12_isFirst_3 rfl ?_
      refine g_icmp_geN 25 dX12_isFirst_4 (by decide) (by omega) (by omega) (fun c_4 => ?_) (fun c_4 => ?_)
      · exact absurd c_4 (by omega)
      · refine g_aload_n dX12_isFirst_7 rfl ?_
        refine g_iload_n dX12_isFirst_8 rfl ?_
        refine g_iload_n dX12_isFirst_9 rfl ?_
        refine g_callV0 kX12_109 (m12_same j p (by omega) (by omega) hM hn hA) hM.1 rfl rfl rfl (Nat.le_of_ble_eq_true rfl) (by decide) (by decide) (by decide) (by decide) dX12_isFirst_10 ?_
        rintro v1 h2 z1 ⟨rfl, rfl, rfl⟩
        refine g_iload_n dX12_isFirst_13 rfl ?_
        refine g_icmp_ltN 19 dX12_isFirst_14 (by decide) (by omega) (by omega) (fun c_14 => ?_) (fun c_14 => ?_)
        · refine g_iincN dX12_isFirst_19 rfl (by decide) rfl ?_
          refine g_goto 2 dX12_isFirst_22 (by decide) ?_
          exact ih (j + 1) (by omega) (by rw [hf2, if_neg (by unfold stP; simp; omega)])
        · refine g_iconst (nI 0) dX12_isFirst_17 (by decide) ?_
          exact g_iret hE rfl (⟨by rw [b2i_f (show isF L p k = false from by show (fstA (stP L p k) p 0).isNone = false; rw [hf2, if_pos (by unfold stP; simp; omega)]; rfl)]; rfl, rfl, rfl⟩) dX12_isFirst_18
  refine g_iconst (nI 0) dX12_isFirst_0 (by decide) ?_
  refine g_istore_n dX12_isFirst_1 (by decide) rfl ?_
  exact loop p 0 (by omega) rfl
set_option maxRecDepth 100000 in
set_option maxHeartbeats 4000000 in
theorem m12_standing {X : gX} {h : gH} {z m pl : Nat} {I : Nat → Int32} {A : Nat → Nat → Int32} {V : Nat → Int64} {L : List Int32} (p k : Nat) (hp : p ≤ L.length) (hk : k < 2 ^ 31) (hM : MdB X h m L.length pl I A V) (hn : L.length ≤ 40) (hA : ∀ i, i < L.length → A 5 i = lt L i) : gM X yX12_standing cX12_standing 5 (some .int) (2, 0, 0) [.ref m, .int (nI p), .int (nI k)] h z (pR h z (nI (cnt (stP L p k) L.length))) gNoX := by
  refine gM.of px12 (Nat.le_of_ble_eq_true rfl) ?_
  intro F hE
  have loop : ∀ (r j : Nat), j + r = L.length → G X F cX12_standing 5 yX12_standing.cls (2, 0, 0) 0 0 5 [some (.ref m), some (.int (nI p)), some (.int (nI k)), some (.int (nI (cnt (stP L p k) j))), some (.int (nI j))] [] h z := by
    intro r
    induction r with
    | zero =>
      intro j hj
      refine g_iload dX12_standing_5 rfl ?_
      refine g_aload_n dX12_standing_7 rfl ?_
      refine g_getf fl12_61 hM.1 rfl dX12_standing_8 ?_
      refine g_icmp_geN 39 dX12_standing_11 (by decide) (by omega) (by omega) (fun c_11 => ?_) (fun c_11 => ?_)
      · refine g_iload_n dX12_standing_39 rfl ?_
        exact g_iret hE rfl (⟨by rw [show j = L.length by omega], rfl, rfl⟩) dX12_standing_40
      · exact absurd c_11 (by omega)
    | succ r ih =>
      intro j hj
      have b1 := lcp_le (L := L) (p := j) (q := p) (by omega)
      have hb := cnt_le (stP L p k) j
      have hstep : cnt (stP L p k) (j + 1) = cnt (stP L p k) j + if stP L p k j = true then 1 else 0 := rfl
      refine g_iload dX12_standing_5 rfl ?_
      refine g_aload_n dX12_standing_7 rfl ?_
      refine g_getf fl12_61 hM.1 rfl dX12_standing_8 ?_
      refine g_icmp_geN 39 dX12_standing_11 (by decide) (by omega) (by omega) (fun c_11 => ?_) (fun c_11 => ?_)
      · exact absurd c_11 (by omega)
      · refine g_iload_n dX12_standing_14 rfl ?_
        refine g_aload_n dX12_standing_15 rfl ?_
        refine g_iload dX12_standing_16 rfl ?_
        refine g_iload_n dX12_standing_18 rfl ?_
        refine g_callV0 kX12_109 (m12_same j p (by omega) (by omega) hM hn hA) hM.1 rfl rfl rfl (Nat.le_of_ble_eq_true rfl) (by decide) (by decide) (by decide) (by decide) dX12_standing_19 ?_
        rintro v1 h2 z1 ⟨rfl, rfl, rfl⟩
        refine g_iload_n dX12_standing_22 rfl ?_
        refine g_icmp_ltN 30 dX12_standing_23 (by decide) (by omega) (by omega) (fun c_23 => ?_) (fun c_23 => ?_)
        · refine g_iconst (nI 0) dX12_standing_30 (by decide) ?_
          first | refine g_iaddN dX12_standing_31 ?_ | refine g_iadd dX12_standing_31 ?_
          refine g_istore_n dX12_standing_32 (by decide) rfl ?_
          refine g_iincN dX12_standing_33 rfl (by decide) rfl ?_
          refine g_goto 5 dX12_standing_36 (by decide) ?_
          rw [show cnt (stP L p k) j + 0 = cnt (stP L p k) (j + 1) from by rw [hstep, if_neg (by unfold stP; simp; omega)]]
          exact ih (j + 1) (by omega)
        · refine g_iconst (nI 1) dX12_standing_26 (by decide) ?_
          refine g_goto 31 dX12_standing_27 (by decide) ?_
          first | refine g_iaddN dX12_standing_31 ?_ | refine g_iadd dX12_standing_31 ?_
          refine g_istore_n dX12_standing_32 (by decide) rfl ?_
          refine g_iincN dX12_standing_33 rfl (by decide) rfl ?_
          refine g_goto 5 dX12_standing_36 (by decide) ?_
          rw [show cnt (stP L p k) j + 1 = cnt (stP L p k) (j + 1) from by rw [hstep, if_pos (by unfold stP; simp; omega)]]
          exact ih (j + 1) (by omega)
  refine g_iconst (nI 0) dX12_standing_0 (by decide) ?_
  refine g_istore_n dX12_standing_1 (by decide) rfl ?_
  refine g_iconst (nI 0) dX12_standing_2 (by decide) ?_
  refine g_istore dX12_standing_3 (by decide) rfl ?_
  exact loop L.length 0 (by omega)
