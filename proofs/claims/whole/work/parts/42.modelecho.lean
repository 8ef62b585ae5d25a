/-! the reference: the insult said most, echoing, mocking -/
def msU (c : Nat → Nat) : Nat → Option Nat
  | 0 => none
  | n + 1 => match msU c n with
    | none => some n
    | some b => if c b < c n then some n else some b
theorem msU_lt {c : Nat → Nat} : ∀ {n b : Nat}, msU c n = some b → b < n := by
  intro n
  induction n with
  | zero => intro b h; cases h
  | succ n ih =>
    intro b h
    cases e : msU c n with
    | none => simp only [msU, e] at h; cases h; omega
    | some b0 =>
      have := ih e
      simp only [msU, e] at h
      split at h <;> cases h <;> omega
abbrev mdQp (X : gX) (h : gH) (z m pl : Nat) (I : Nat → Int32) (A : Nat → Nat → Int32) (V : Nat → Int64) (L : List Int32) : Option Value → gH → Nat → Prop := fun r h' z' => r = none ∧ z' = z ∧ (∃ I' A', MdV X h' m pl L I' A' V ∧ MdH I I' A A') ∧ OffM h h' m
set_option maxRecDepth 100000 in
set_option maxHeartbeats 4000000 in
theorem m12_most {X : gX} {h : gH} {z m pl : Nat} {I : Nat → Int32} {A : Nat → Nat → Int32} {V : Nat → Int64} {L : List Int32} {J : Nat → Int32} {B : Nat → Nat → Int32} {U1 U2 : Nat → Int64} (Ws : Nat → List Int32) (nw : Nat) (hP : MpB X h pl J B U1 U2) (hJ : J 0 = nI nw) (hn8 : nw ≤ 8) (hWs : ∀ i, i < nw → MpW B i (Ws i)) (hM : MdB X h m L.length pl I A V) (hn : L.length ≤ 40) (hA : ∀ i, i < L.length → A 5 i = lt L i) : gM X yX12_most cX12_most 3 (some .int) (3, 0, 0) [.ref m] h z (pR h z (oI (msU (fun i => cnt (stands L (Ws i)) L.length) nw))) gNoX := by
  refine gM.of px12 (Nat.le_of_ble_eq_true rfl) ?_
  intro F hE
  generalize hc : (fun i => cnt (stands L (Ws i)) L.length) = c at hE
  have hci : ∀ i, cnt (stands L (Ws i)) L.length = c i := fun i => by rw [← hc]
  have hcl : ∀ i, c i ≤ L.length := fun i => by rw [← hci]; exact cnt_le _ _
  have loop : ∀ (r i : Nat), i + r = nw → G X F cX12_most 3 yX12_most.cls (3, 0, 0) 0 0 4 [some (.ref m), some (.int (oI (msU c i))), some (.int (nI i))] [] h z := by
    intro r
    induction r with
    | zero =>
      intro i hi
      refine g_iload_n dX12_most_4 rfl ?_
      refine g_aload_n dX12_most_5 rfl ?_
      refine g_getf fl12_20 hM.1 rfl dX12_most_6 ?_
      refine g_getfN fl12_68 hP.1 rfl dX12_most_9 ?_
      rw [hJ]
      refine g_icmp_geN 41 dX12_most_12 (by decide) (by omega) (by omega) (fun c_12 => ?_) (fun c_12 => ?_)
      · refine g_iload_n dX12_most_41 rfl ?_
        exact g_iret hE rfl (⟨by rw [show i = nw by omega], rfl, rfl⟩) dX12_most_42
      · exact absurd c_12 (by omega)
    | succ r ih =>
      intro i hi
      have no : msU c (i + 1) = msU c i → G X F cX12_most 3 yX12_most.cls (3, 0, 0) 0 0 35 [some (.ref m), some (.int (oI (msU c i))), some (.int (nI i))] [] h z := by
        intro e
        refine g_iincN dX12_most_35 rfl (by decide) rfl ?_
        refine g_goto 4 dX12_most_38 (by decide) ?_
        rw [← e]
        exact ih (i + 1) (by omega)
      have yes : msU c (i + 1) = some i → ∀ v, G X F cX12_most 3 yX12_most.cls (3, 0, 0) 0 0 33 [some (.ref m), v, some (.int (nI i))] [] h z := by
        intro e v
        refine g_iload_n dX12_most_33 rfl ?_
        refine g_istore_n dX12_most_34 (by decide) rfl ?_
        refine g_iincN dX12_most_35 rfl (by decide) rfl ?_
        refine g_goto 4 dX12_most_38 (by decide) ?_
        have := ih (i + 1) (by omega)
        rw [e] at this
        exact this
      refine g_iload_n dX12_most_4 rfl ?_
      refine g_aload_n dX12_most_5 rfl ?_
      refine g_getf fl12_20 hM.1 rfl dX12_most_6 ?_
      refine g_getfN fl12_68 hP.1 rfl dX12_most_9 ?_
      rw [hJ]
      refine g_icmp_geN 41 dX12_most_12 (by decide) (by omega) (by omega) (fun c_12 => ?_) (fun c_12 => ?_)
      · exact absurd c_12 (by omega)
      · cases hb : msU c i with
        | none =>
          refine g_iload_n dX12_most_15 rfl ?_
          refine g_iconst (-1) dX12_most_16 (by decide) ?_
          refine g_icmp_eq 33 dX12_most_17 (by decide) (fun c_17 => ?_) (fun c_17 => absurd rfl c_17)
          exact yes (by simp only [msU, hb]) _
        | some b =>
          have hbi := msU_lt hb
          have b1 := hcl b
          have b2 := hcl i
          rw [hb] at no
          refine g_iload_n dX12_most_15 rfl ?_
          refine g_iconst (-1) dX12_most_16 (by decide) ?_
          refine g_icmp_eq 33 dX12_most_17 (by decide) (fun c_17 => absurd c_17 (nI_m1 (by omega))) (fun c_17 => ?_)
          refine g_aload_n dX12_most_20 rfl ?_
          refine g_iload_n dX12_most_21 rfl ?_
          refine g_callV0 kX12_148 (m12_count i hP (hWs i (by omega)) hM hn hA) hM.1 rfl rfl rfl (Nat.le_of_ble_eq_true rfl) (by decide) (by decide) (by decide) (by decide) dX12_most_22 ?_
          rintro v3 h4 z4 ⟨rfl, rfl, rfl⟩
          refine g_aload_n dX12_most_25 rfl ?_
          refine g_iload_n dX12_most_26 rfl ?_
          refine g_callV0 kX12_148 (m12_count b hP (hWs b (by omega)) hM hn hA) hM.1 rfl rfl rfl (Nat.le_of_ble_eq_true rfl) (by decide) (by decide) (by decide) (by decide) dX12_most_27 ?_
          rintro v5 h6 z6 ⟨rfl, rfl, rfl⟩
          rw [hci, hci]
          refine g_icmp_leN 35 dX12_most_30 (by decide) (by omega) (by omega) (fun c_30 => ?_) (fun c_30 => ?_)
          · exact no (by simp only [msU, hb]; rw [if_neg (by omega)])
          · exact yes (by simp only [msU, hb]; rw [if_pos (by omega)]) _
  refine g_iconst (-1) dX12_most_0 (by decide) ?_
  refine g_istore_n dX12_most_1 (by decide) rfl ?_
  refine g_iconst (nI 0) dX12_most_2 (by decide) ?_
  refine g_istore_n dX12_most_3 (by decide) rfl ?_
  exact loop nw 0 (by omega)
set_option maxRecDepth 100000 in
set_option maxHeartbeats 4000000 in
theorem m12_echoes {X : gX} {h : gH} {z m pl : Nat} {I : Nat → Int32} {A : Nat → Nat → Int32} {V : Nat → Int64} {L : List Int32} (g : Nat) (hg : g ≤ L.length) (hV : MdV X h m pl L I A V) : gM X yX12_echoes cX12_echoes 3 none (3, 0, 0) [.ref m, .int (nI g)] h z (mdQp X h z m pl I A V ((L.drop (L.length - g)).foldl hearL L)) gNoX := by
  obtain ⟨hM, hn, hA, hC⟩ := hV
  generalize hW : L.drop (L.length - g) = W
  have hWl : W.length = g := by rw [← hW]; simp; omega
  have hWi : ∀ i, lt W i = lt L (i + (L.length - g)) := fun i => by rw [← hW, lt_drop]
  refine gM.of px12 (Nat.le_of_ble_eq_true rfl) ?_
  intro F hE
  have hO : OffM h h m := OffM.rf
  have loop2 : ∀ (r j : Nat), j + r = g → ∀ (h1 : gH) (I1 : Nat → Int32) (A1 : Nat → Nat → Int32), (∀ i, i < g → A1 10 i = lt W i) → MdV X h1 m pl ((W.take j).foldl hearL L) I1 A1 V → MdH I I1 A A1 → OffM h h1 m → G X F cX12_echoes 3 yX12_echoes.cls (3, 0, 0) 0 0 34 [some (.ref m), some (.int (nI g)), some (.int (nI j))] [] h1 z := by
    intro r
    induction r with
    | zero =>
      intro j hj h1 I1 A1 hf hV hH hO
      refine g_iload_n dX12_echoes_34 rfl ?_
      refine g_iload_n dX12_echoes_35 rfl ?_
      refine g_icmp_geN 55 dX12_echoes_36 (by decide) (by omega) (by omega) (fun c_36 => ?_) (fun c_36 => ?_)
      · exact g_vret hE (⟨rfl, rfl, ⟨I1, A1, by rw [show j = W.length by omega, List.take_length] at hV; exact hV, hH⟩, hO⟩) dX12_echoes_55
      · exact absurd c_36 (by omega)
    | succ r ih =>
      intro j hj h1 I1 A1 hf hV hH hO
      refine g_iload_n dX12_echoes_34 rfl ?_
      refine g_iload_n dX12_echoes_35 rfl ?_
      refine g_icmp_geN 55 dX12_echoes_36 (by decide) (by omega) (by omega) (fun c_36 => ?_) (fun c_36 => ?_)
      · exact absurd c_36 (by omega)
      · refine g_aload_n dX12_echoes_39 rfl ?_
        refine g_aload_n dX12_echoes_40 rfl ?_
        refine g_getf fl12_55 hV.1.1 rfl dX12_echoes_41 ?_
        refine g_iload_n dX12_echoes_44 rfl ?_
        refine g_ialdN (hV.1.2.1 10 (by decide)) (by show _ < 40; omega) (by decide) dX12_echoes_45 ?_
        rw [hf j (by omega)]
        refine g_callV0 kX12_79 (m12_hears _ hV) hV.1.1 rfl rfl rfl (Nat.le_of_ble_eq_true rfl) (by decide) (by decide) (by decide) (by decide) dX12_echoes_46 ?_
        rintro v1 h2 z1 ⟨rfl, rfl, ⟨I2, A2, hV2, hH2, h10, -⟩, hO2⟩
        refine g_iincN dX12_echoes_49 rfl (by decide) rfl ?_
        refine g_goto 34 dX12_echoes_52 (by decide) ?_
        exact ih (j + 1) (by omega) h2 I2 A2 (fun i hi => by rw [h10]; exact hf i hi) (by rw [fold_take (by omega)]; exact hV2) (hH.trans hH2) (hO.trans hO2)
  have loop1 : ∀ (r j : Nat), j + r = g → ∀ (h1 : gH) (A1 : Nat → Nat → Int32), MdB X h1 m L.length pl I A1 V → (∀ k, k ≠ 10 → A1 k = A k) → (∀ i, i < j → A1 10 i = lt W i) → OffM h h1 m → G X F cX12_echoes 3 yX12_echoes.cls (3, 0, 0) 0 0 2 [some (.ref m), some (.int (nI g)), some (.int (nI j))] [] h1 z := by
    intro r
    induction r with
    | zero =>
      intro j hj h1 A1 hM hk hf hO
      refine g_iload_n dX12_echoes_2 rfl ?_
      refine g_iload_n dX12_echoes_3 rfl ?_
      refine g_icmp_geN 32 dX12_echoes_4 (by decide) (by omega) (by omega) (fun c_4 => ?_) (fun c_4 => ?_)
      · refine g_iconst (nI 0) dX12_echoes_32 (by decide) ?_
        refine g_istore_n dX12_echoes_33 (by decide) rfl ?_
        exact loop2 g 0 (by omega) h1 I A1 (fun i hi => hf i (by omega)) ⟨hM, hn, fun i hi => by rw [hk 5 (by decide)]; exact hA i hi, hC.imp id (fun q => ⟨q.1, fun p hp => by rw [hk 7 (by decide)]; exact q.2.1 p hp, fun p hp => by rw [hk 8 (by decide)]; exact q.2.2 p hp⟩)⟩ ⟨fun _ _ => rfl, fun k _ _ _ d => hk k d⟩ hO
      · exact absurd c_4 (by omega)
    | succ r ih =>
      intro j hj h1 A1 hM hk hf hO
      refine g_iload_n dX12_echoes_2 rfl ?_
      refine g_iload_n dX12_echoes_3 rfl ?_
      refine g_icmp_geN 32 dX12_echoes_4 (by decide) (by omega) (by omega) (fun c_4 => ?_) (fun c_4 => ?_)
      · exact absurd c_4 (by omega)
      · refine g_aload_n dX12_echoes_7 rfl ?_
        refine g_getf fl12_55 hM.1 rfl dX12_echoes_8 ?_
        refine g_iload_n dX12_echoes_11 rfl ?_
        refine g_aload_n dX12_echoes_12 rfl ?_
        refine g_getf fl12_40 hM.1 rfl dX12_echoes_13 ?_
        refine g_aload_n dX12_echoes_16 rfl ?_
        refine g_getf fl12_61 hM.1 rfl dX12_echoes_17 ?_
        refine g_iload_n dX12_echoes_20 rfl ?_
        first | refine g_isubN dX12_echoes_21 (by omega) ?_ | refine g_isub dX12_echoes_21 ?_
        refine g_iload_n dX12_echoes_22 rfl ?_
        first | refine g_iaddN dX12_echoes_23 ?_ | refine g_iadd dX12_echoes_23 ?_
        refine g_ialdN (hM.2.1 5 (by decide)) (by show _ < 40; omega) (by decide) dX12_echoes_24 ?_
        refine md_ast (q := 10) (by decide) (by show _ < 40; omega) hM hO dX12_echoes_25 (fun h hM hO => ?_)
        refine g_iincN dX12_echoes_26 rfl (by decide) rfl ?_
        refine g_goto 2 dX12_echoes_29 (by decide) ?_
        refine ih (j + 1) (by omega) h _ hM (fun k hk10 => by rw [vu_ne hk10]; exact hk k hk10) (fun i hi => ?_) hO
        rw [vu_same]
        by_cases e : i = j
        · subst e; rw [upd_same, hk 5 (by decide), hA _ (by omega), hWi, Nat.add_comm]
        · rw [upd_ne e]; exact hf i (by omega)
  refine g_iconst (nI 0) dX12_echoes_0 (by decide) ?_
  refine g_istore_n dX12_echoes_1 (by decide) rfl ?_
  exact loop1 g 0 (by omega) h A hM (fun _ _ => rfl) (fun i hi => absurd hi (Nat.not_lt_zero _)) hO
