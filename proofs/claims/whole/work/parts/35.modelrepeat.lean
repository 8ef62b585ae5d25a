/-! the reference: where the longest repeat stands -/
def rbU (L : List Int32) (k : Nat) : Nat → Option Nat
  | 0 => none
  | p + 1 => if isF L p k = true ∧ 1 < cnt (stP L p k) L.length ∧ (match rbU L k p with
    | none => true
    | some b => ahd L p b) = true then some p else rbU L k p
theorem rbU_s (L : List Int32) (k p : Nat) : rbU L k (p + 1) = if isF L p k = true ∧ 1 < cnt (stP L p k) L.length ∧ (match rbU L k p with
    | none => true
    | some b => ahd L p b) = true then some p else rbU L k p := rfl
theorem rbU_lt {L : List Int32} {k : Nat} : ∀ {p b : Nat}, rbU L k p = some b → b < p := by
  intro p
  induction p with
  | zero => intro b h; cases h
  | succ p ih =>
    intro b h
    rw [rbU_s] at h
    by_cases hc : isF L p k = true ∧ 1 < cnt (stP L p k) L.length ∧ (match rbU L k p with
      | none => true
      | some b => ahd L p b) = true
    · rw [if_pos hc] at h; cases h; omega
    · rw [if_neg hc] at h; have := ih h; omega
def rpB (L : List Int32) : Option Nat := if loU L L.length = 0 then none else rbU L (loU L L.length) L.length
theorem nI_m1 {b : Nat} (h : b < 2 ^ 31) : ¬ nI b = -1 := fun q => nI_pos h (by rw [q]; decide)
set_option maxRecDepth 100000 in
set_option maxHeartbeats 4000000 in
theorem m12_repeat {X : gX} {h : gH} {z m pl : Nat} {I : Nat → Int32} {A : Nat → Nat → Int32} {V : Nat → Int64} {L : List Int32} (hM : MdB X h m L.length pl I A V) (hn : L.length ≤ 40) (hA : ∀ i, i < L.length → A 5 i = lt L i) : gM X yX12_repeat cX12_repeat 4 (some .int) (3, 0, 0) [.ref m] h z (pR h z (oI (rpB L))) gNoX := by
  have hk := loU_le (L := L) (p := L.length) (Nat.le_refl _)
  refine gM.of px12 (Nat.le_of_ble_eq_true rfl) ?_
  intro F hE
  refine g_aload_n dX12_repeat_0 rfl ?_
  refine g_callV0 kX12_125 (m12_longest hM hn hA) hM.1 rfl rfl rfl (Nat.le_of_ble_eq_true rfl) (by decide) (by decide) (by decide) (by decide) dX12_repeat_1 ?_
  rintro v1 h2 z1 ⟨rfl, rfl, rfl⟩
  generalize hke : loU L L.length = k at hk ⊢
  have loop : ∀ (r p : Nat), p + r = L.length → (k = 0 → p = 0) → G X F cX12_repeat 4 yX12_repeat.cls (3, 0, 0) 0 0 9 [some (.ref m), some (.int (nI k)), some (.int (oI (rbU L k p))), some (.int (nI p))] [] h2 z1 := by
    intro r
    induction r with
    | zero =>
      intro p hp hk0
      refine g_iload_n dX12_repeat_9 rfl ?_
      refine g_aload_n dX12_repeat_10 rfl ?_
      refine g_getf fl12_61 hM.1 rfl dX12_repeat_11 ?_
      refine g_icmp_geN 62 dX12_repeat_14 (by decide) (by omega) (by omega) (fun c_14 => ?_) (fun c_14 => ?_)
      · have hv : rpB L = rbU L k p := by
          unfold rpB
          rw [hke]
          by_cases e : k = 0
          · rw [if_pos e, hk0 e]; rfl
          · rw [if_neg e, show p = L.length by omega]
        refine g_iload_n dX12_repeat_62 rfl ?_
        exact g_iret hE rfl (⟨by rw [hv], rfl, rfl⟩) dX12_repeat_63
      · exact absurd c_14 (by omega)
    | succ r ih =>
      intro p hp hk0
      have hb3 := cnt_le (stP L p k) L.length
      have no : rbU L k (p + 1) = rbU L k p → ¬ k = 0 → G X F cX12_repeat 4 yX12_repeat.cls (3, 0, 0) 0 0 56 [some (.ref m), some (.int (nI k)), some (.int (oI (rbU L k p))), some (.int (nI p))] [] h2 z1 := by
        intro e hk1
        refine g_iincN dX12_repeat_56 rfl (by decide) rfl ?_
        refine g_goto 9 dX12_repeat_59 (by decide) ?_
        rw [← e]
        exact ih (p + 1) (by omega) (fun q => absurd q hk1)
      have yes : rbU L k (p + 1) = some p → ¬ k = 0 → ∀ v, G X F cX12_repeat 4 yX12_repeat.cls (3, 0, 0) 0 0 54 [some (.ref m), some (.int (nI k)), v, some (.int (nI p))] [] h2 z1 := by
        intro e hk1 v
        refine g_iload_n dX12_repeat_54 rfl ?_
        refine g_istore_n dX12_repeat_55 (by decide) rfl ?_
        refine g_iincN dX12_repeat_56 rfl (by decide) rfl ?_
        refine g_goto 9 dX12_repeat_59 (by decide) ?_
        have := ih (p + 1) (by omega) (fun q => absurd q hk1)
        rw [e] at this
        exact this
      refine g_iload_n dX12_repeat_9 rfl ?_
      refine g_aload_n dX12_repeat_10 rfl ?_
      refine g_getf fl12_61 hM.1 rfl dX12_repeat_11 ?_
      refine g_icmp_geN 62 dX12_repeat_14 (by decide) (by omega) (by omega) (fun c_14 => ?_) (fun c_14 => ?_)
      · exact absurd c_14 (by omega)
      · refine g_iload_n dX12_repeat_17 rfl ?_
        refine g_if_leN 62 dX12_repeat_18 (by decide) (by omega) (fun c_18 => ?_) (fun c_18 => ?_)
        · have hp0 := hk0 c_18
          have hv : rpB L = rbU L k p := by
            unfold rpB
            rw [hke, if_pos c_18, hp0]; rfl
          refine g_iload_n dX12_repeat_62 rfl ?_
          exact g_iret hE rfl (⟨by rw [hv], rfl, rfl⟩) dX12_repeat_63
        · refine g_aload_n dX12_repeat_21 rfl ?_
          refine g_iload_n dX12_repeat_22 rfl ?_
          refine g_iload_n dX12_repeat_23 rfl ?_
          refine g_callV0 kX12_129 (m12_isFirst p k (by omega) (by omega) hM hn hA) hM.1 rfl rfl rfl (Nat.le_of_ble_eq_true rfl) (by decide) (by decide) (by decide) (by decide) dX12_repeat_24 ?_
          rintro v3 h4 z4 ⟨rfl, rfl, rfl⟩
          refine g_if_eqB 56 dX12_repeat_27 (by decide) (fun c_27 => ?_) (fun c_27 => ?_)
          · exact no (by rw [rbU_s, if_neg (fun x => by have := x.1; rw [c_27] at this; cases this)]) (by omega)
          · refine g_aload_n dX12_repeat_30 rfl ?_
            refine g_iload_n dX12_repeat_31 rfl ?_
            refine g_iload_n dX12_repeat_32 rfl ?_
            refine g_callV0 kX12_132 (m12_standing p k (by omega) (by omega) hM hn hA) hM.1 rfl rfl rfl (Nat.le_of_ble_eq_true rfl) (by decide) (by decide) (by decide) (by decide) dX12_repeat_33 ?_
            rintro v5 h6 z6 ⟨rfl, rfl, rfl⟩
            refine g_iconst (nI 1) dX12_repeat_36 (by decide) ?_
            refine g_icmp_leN 56 dX12_repeat_37 (by decide) (by omega) (by omega) (fun c_37 => ?_) (fun c_37 => ?_)
            · exact no (by rw [rbU_s, if_neg (fun x => by have := x.2.1; omega)]) (by omega)
            · cases hb : rbU L k p with
              | none =>
                refine g_iload_n dX12_repeat_40 rfl ?_
                refine g_iconst (-1) dX12_repeat_41 (by decide) ?_
                refine g_icmp_eq 54 dX12_repeat_42 (by decide) (fun c_42 => ?_) (fun c_42 => absurd rfl c_42)
                exact yes (by rw [rbU_s, if_pos ⟨c_27, by omega, by rw [hb]⟩]) (by omega) _
              | some b =>
                have hbp := rbU_lt hb
                rw [hb] at no
                refine g_iload_n dX12_repeat_40 rfl ?_
                refine g_iconst (-1) dX12_repeat_41 (by decide) ?_
                refine g_icmp_eq 54 dX12_repeat_42 (by decide) (fun c_42 => absurd c_42 (nI_m1 (by omega))) (fun c_42 => ?_)
                refine g_aload_n dX12_repeat_45 rfl ?_
                refine g_iload_n dX12_repeat_46 rfl ?_
                refine g_iload_n dX12_repeat_47 rfl ?_
                refine g_callV0 kX12_113 (m12_goesAhead p b (by omega) (by omega) hM hn hA) hM.1 rfl rfl rfl (Nat.le_of_ble_eq_true rfl) (by decide) (by decide) (by decide) (by decide) dX12_repeat_48 ?_
                rintro v7 h8 z8 ⟨rfl, rfl, rfl⟩
                refine g_if_eqB 56 dX12_repeat_51 (by decide) (fun c_51 => ?_) (fun c_51 => ?_)
                · exact no (by rw [rbU_s, if_neg (fun x => by have := x.2.2; rw [hb] at this; have q : ahd L p b = true := this; rw [c_51] at q; cases q), hb]) (by omega)
                · exact yes (by rw [rbU_s, if_pos ⟨c_27, by omega, by rw [hb]; exact c_51⟩]) (by omega) _
  refine g_istore_n dX12_repeat_4 (by decide) rfl ?_
  refine g_iconst (-1) dX12_repeat_5 (by decide) ?_
  refine g_istore_n dX12_repeat_6 (by decide) rfl ?_
  refine g_iconst (nI 0) dX12_repeat_7 (by decide) ?_
  refine g_istore_n dX12_repeat_8 (by decide) rfl ?_
  exact loop L.length 0 (by omega) (fun _ => rfl)
set_option maxRecDepth 100000 in
set_option maxHeartbeats 4000000 in
theorem m12_repeats {X : gX} {h : gH} {z m pl : Nat} {I : Nat → Int32} {A : Nat → Nat → Int32} {V : Nat → Int64} {L : List Int32} (hM : MdB X h m L.length pl I A V) (hn : L.length ≤ 40) (hA : ∀ i, i < L.length → A 5 i = lt L i) : gM X yX12_repeats cX12_repeats 2 (some .int) (4, 0, 0) [.ref m] h z (pR h z (match rpB L with | none => 0 | some p => nI (cnt (stP L p (loU L L.length)) L.length))) gNoX := by
  have hk := loU_le (L := L) (p := L.length) (Nat.le_refl _)
  refine gM.of px12 (Nat.le_of_ble_eq_true rfl) ?_
  intro F hE
  refine g_aload_n dX12_repeats_0 rfl ?_
  refine g_callV0 kX12_135 (m12_repeat hM hn hA) hM.1 rfl rfl rfl (Nat.le_of_ble_eq_true rfl) (by decide) (by decide) (by decide) (by decide) dX12_repeats_1 ?_
  rintro v1 h2 z1 ⟨rfl, rfl, rfl⟩
  cases hr : rpB L with
  | none =>
    rw [hr] at hE
    show G X F _ _ _ _ _ _ _ _ (.int (-1) :: []) _ _
    refine g_istore_n dX12_repeats_4 (by decide) rfl ?_
    refine g_iload_n dX12_repeats_5 rfl ?_
    refine g_iconst (-1) dX12_repeats_6 (by decide) ?_
    refine g_icmp_ne 14 dX12_repeats_7 (by decide) (fun c_7 => absurd rfl c_7) (fun c_7 => ?_)
    refine g_iconst (nI 0) dX12_repeats_10 (by decide) ?_
    refine g_goto 23 dX12_repeats_11 (by decide) ?_
    exact g_iret hE rfl (⟨rfl, rfl, rfl⟩) dX12_repeats_23
  | some p =>
    have hp : p < L.length := by
      unfold rpB at hr
      split at hr
      · cases hr
      · exact rbU_lt hr
    rw [hr] at hE
    show G X F _ _ _ _ _ _ _ _ (.int (nI p) :: []) _ _
    refine g_istore_n dX12_repeats_4 (by decide) rfl ?_
    refine g_iload_n dX12_repeats_5 rfl ?_
    refine g_iconst (-1) dX12_repeats_6 (by decide) ?_
    refine g_icmp_ne 14 dX12_repeats_7 (by decide) (fun c_7 => ?_) (fun c_7 => absurd c_7 (nI_m1 (by omega)))
    refine g_aload_n dX12_repeats_14 rfl ?_
    refine g_iload_n dX12_repeats_15 rfl ?_
    refine g_aload_n dX12_repeats_16 rfl ?_
    refine g_callV0 kX12_125 (m12_longest hM hn hA) hM.1 rfl rfl rfl (Nat.le_of_ble_eq_true rfl) (by decide) (by decide) (by decide) (by decide) dX12_repeats_17 ?_
    rintro v3 h4 z4 ⟨rfl, rfl, rfl⟩
    refine g_callV0 kX12_132 (m12_standing p (loU L L.length) (by omega) (by omega) hM hn hA) hM.1 rfl rfl rfl (Nat.le_of_ble_eq_true rfl) (by decide) (by decide) (by decide) (by decide) dX12_repeats_20 ?_
    rintro v5 h6 z6 ⟨rfl, rfl, rfl⟩
    exact g_iret hE rfl (⟨rfl, rfl, rfl⟩) dX12_repeats_23
