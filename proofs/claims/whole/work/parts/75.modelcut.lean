/-! the reference: tokens are cut -/
theorem isLe_ne {x : Int32} (h : isLe x = true) : isDi x = false ∧ x ≠ nI 60 ∧ x ≠ nI 62 ∧ x ≠ -1 := by
  obtain ⟨h1, h2, h3⟩ := isLe_nat h
  generalize x.toNatClampNeg = b at h1 h2 h3
  subst h3
  refine ⟨?_, fun q => ?_, fun q => ?_, fun q => ?_⟩
  · cases e : isDi (nI b) with
    | false => rfl
    | true => have := isDi_nat e; have h9 := (isLe_nat h); omega
  · have := (nI_eq (by omega) (by omega)).mp q; omega
  · have := (nI_eq (by omega) (by omega)).mp q; omega
  · rw [q] at h; exact absurd h (by decide)
theorem isDi_ne {x : Int32} (h : isDi x = true) : isLe x = false ∧ x ≠ nI 60 ∧ x ≠ nI 62 ∧ x ≠ -1 := by
  obtain ⟨h1, h2, h3⟩ := isDi_nat h
  generalize x.toNatClampNeg = b at h1 h2 h3
  subst h3
  refine ⟨?_, fun q => ?_, fun q => ?_, fun q => ?_⟩
  · cases e : isLe (nI b) with
    | false => rfl
    | true => have := isLe_nat e; have h9 := (isDi_nat h); omega
  · have := (nI_eq (by omega) (by omega)).mp q; omega
  · have := (nI_eq (by omega) (by omega)).mp q; omega
  · rw [q] at h; exact absurd h (by decide)
theorem byt_lt {n p : Nat} {f : Nat → Int32} (h : byt n f p ≠ -1) : p < n ∧ byt n f p = f p := by
  unfold byt at h ⊢
  by_cases e : p < n
  · exact ⟨e, if_pos e⟩
  · rw [if_neg e] at h; exact absurd rfl h
/-- where the token ends that starts at p -/
def eoM (n : Nat) (f : Nat → Int32) (p : Nat) : Nat := if isLe (byt n f p) = true then sce bLD n f (p + 1) else if isDi (byt n f p) = true then sce isDi n f (p + 1) else if (byt n f p = nI 60 ∨ byt n f p = nI 62) ∧ byt n f (p + 1) = nI 61 then p + 2 else p + 1
set_option maxRecDepth 100000 in
set_option maxHeartbeats 4000000 in
theorem m12_byteOf {X : gX} {h : gH} {z m c pl n : Nat} {I : Nat → Int32} {A : Nat → Nat → Int32} {V : Nat → Int64} (p : Nat) (hM : MdB X h m c pl I A V) (hI1 : I 1 = nI n) (hn : n ≤ 2000) (hp : p < 2 ^ 31) : gM X yX12_byteOf cX12_byteOf 2 (some .int) (0, 0, 0) [.ref m, .int (nI p)] h z (pR h z (byt n (A 0) p)) gNoX := by
  refine gM.of px12 (Nat.le_of_ble_eq_true rfl) ?_
  intro F hE
  refine g_iload_n dX12_byteOf_0 rfl ?_
  refine g_aload_n dX12_byteOf_1 rfl ?_
  refine g_getf fl12_221 hM.1 rfl dX12_byteOf_2 ?_
  rw [hI1]
  refine g_icmp_geN 17 dX12_byteOf_5 (by decide) (by omega) (by omega) (fun c_5 => ?_) (fun c_5 => ?_)
  · refine g_iconst (-1) dX12_byteOf_17 (by decide) ?_
    exact g_iret hE rfl (⟨by unfold byt; rw [if_neg (by omega)], rfl, rfl⟩) dX12_byteOf_18
  · refine g_aload_n dX12_byteOf_8 rfl ?_
    refine g_getf fl12_9 hM.1 rfl dX12_byteOf_9 ?_
    refine g_iload_n dX12_byteOf_12 rfl ?_
    refine g_ialdN (hM.2.1 0 (by decide)) (by show p < 2000; omega) (by decide) dX12_byteOf_13 ?_
    refine g_goto 18 dX12_byteOf_14 (by decide) ?_
    exact g_iret hE rfl (⟨by unfold byt; rw [if_pos (by omega)], rfl, rfl⟩) dX12_byteOf_18
set_option maxRecDepth 100000 in
set_option maxHeartbeats 4000000 in
theorem m12_endOf {X : gX} {h : gH} {z m c pl n : Nat} {I : Nat → Int32} {A : Nat → Nat → Int32} {V : Nat → Int64} (p : Nat) (hM : MdB X h m c pl I A V) (hI1 : I 1 = nI n) (hn : n ≤ 2000) (hp : p ≤ n) : gM X yX12_endOf cX12_endOf 4 (some .int) (2, 0, 0) [.ref m, .int (nI p)] h z (pR h z (nI (eoM n (A 0) p))) gNoX := by
  refine gM.of px12 (Nat.le_of_ble_eq_true rfl) ?_
  intro F hE
  have fin45 : ∀ q : Nat, isLe (byt n (A 0) p) = true → q = eoM n (A 0) p → G X F cX12_endOf 4 yX12_endOf.cls (2, 0, 0) 0 0 45 [some (.ref m), some (.int (nI p)), some (.int (byt n (A 0) p)), some (.int (nI q))] [] h z := by
    intro q hb hq
    obtain ⟨b1, b2, b3, -⟩ := isLe_ne hb
    refine g_iload_n dX12_endOf_45 rfl ?_
    refine g_callS0 kX12_230 (m12_isDigit (byt n (A 0) p)) rfl rfl (Nat.le_of_ble_eq_true rfl) (by decide) (by decide) (by decide) (by decide) dX12_endOf_46 ?_
    rintro v1 h2 z1 ⟨rfl, rfl, rfl⟩
    refine g_if_eqB 69 dX12_endOf_49 (by decide) (fun c_49 => ?_) (fun c_49 => ?_)
    · refine g_iload_n dX12_endOf_69 rfl ?_
      refine g_bipush (nI 60) dX12_endOf_70 (by decide) ?_
      refine g_icmp_eq 81 dX12_endOf_72 (by decide) (fun c_72 => ?_) (fun c_72 => ?_)
      · exact absurd c_72 b2
      · refine g_iload_n dX12_endOf_75 rfl ?_
        refine g_bipush (nI 62) dX12_endOf_76 (by decide) ?_
        refine g_icmp_ne 94 dX12_endOf_78 (by decide) (fun c_78 => ?_) (fun c_78 => ?_)
        · refine g_iload_n dX12_endOf_94 rfl ?_
          exact g_iret hE rfl (⟨by rw [hq], rfl, rfl⟩) dX12_endOf_95
        · exact absurd c_78 (fun q => b3 q)
    · rw [b1] at c_49; cases c_49
  have loop1 : ∀ (r q : Nat), n + 1 ≤ q + r → p + 1 ≤ q → q ≤ n + 1 → isLe (byt n (A 0) p) = true → sce bLD n (A 0) q = sce bLD n (A 0) (p + 1) → G X F cX12_endOf 4 yX12_endOf.cls (2, 0, 0) 0 0 17 [some (.ref m), some (.int (nI p)), some (.int (byt n (A 0) p)), some (.int (nI q))] [] h z := by
    intro r
    induction r with
    | zero =>
      intro q h1 h2 h3 hb hs
      have hq : byt n (A 0) q = -1 := by unfold byt; rw [if_neg (by omega)]
      refine g_aload_n dX12_endOf_17 rfl ?_
      refine g_iload_n dX12_endOf_18 rfl ?_
      refine g_callV0 kX12_224 (m12_byteOf q hM hI1 hn (by omega)) hM.1 rfl rfl rfl (Nat.le_of_ble_eq_true rfl) (by decide) (by decide) (by decide) (by decide) dX12_endOf_19 ?_
      rintro v1 h2 z1 ⟨rfl, rfl, rfl⟩
      refine g_callS0 kX12_227 (m12_isSmall (byt n (A 0) q)) rfl rfl (Nat.le_of_ble_eq_true rfl) (by decide) (by decide) (by decide) (by decide) dX12_endOf_22 ?_
      rintro v1 h2 z1 ⟨rfl, rfl, rfl⟩
      refine g_if_neB 39 dX12_endOf_25 (by decide) (fun c_25 => ?_) (fun c_25 => ?_)
      · rw [hq] at c_25; exact absurd c_25 (by decide)
      · refine g_aload_n dX12_endOf_28 rfl ?_
        refine g_iload_n dX12_endOf_29 rfl ?_
        refine g_callV0 kX12_224 (m12_byteOf q hM hI1 hn (by omega)) hM.1 rfl rfl rfl (Nat.le_of_ble_eq_true rfl) (by decide) (by decide) (by decide) (by decide) dX12_endOf_30 ?_
        rintro v1 h2 z1 ⟨rfl, rfl, rfl⟩
        refine g_callS0 kX12_230 (m12_isDigit (byt n (A 0) q)) rfl rfl (Nat.le_of_ble_eq_true rfl) (by decide) (by decide) (by decide) (by decide) dX12_endOf_33 ?_
        rintro v1 h2 z1 ⟨rfl, rfl, rfl⟩
        refine g_if_eqB 45 dX12_endOf_36 (by decide) (fun c_36 => ?_) (fun c_36 => ?_)
        · exact fin45 q hb (by unfold eoM; rw [if_pos hb, ← hs, sce_stop (fun q9 => absurd q9 (by omega))])
        · rw [hq] at c_36; exact absurd c_36 (by decide)
    | succ r ih =>
      intro q h1 h2 h3 hb hs
      refine g_aload_n dX12_endOf_17 rfl ?_
      refine g_iload_n dX12_endOf_18 rfl ?_
      refine g_callV0 kX12_224 (m12_byteOf q hM hI1 hn (by omega)) hM.1 rfl rfl rfl (Nat.le_of_ble_eq_true rfl) (by decide) (by decide) (by decide) (by decide) dX12_endOf_19 ?_
      rintro v1 h2 z1 ⟨rfl, rfl, rfl⟩
      refine g_callS0 kX12_227 (m12_isSmall (byt n (A 0) q)) rfl rfl (Nat.le_of_ble_eq_true rfl) (by decide) (by decide) (by decide) (by decide) dX12_endOf_22 ?_
      rintro v1 h2 z1 ⟨rfl, rfl, rfl⟩
      refine g_if_neB 39 dX12_endOf_25 (by decide) (fun c_25 => ?_) (fun c_25 => ?_)
      · refine g_iincN dX12_endOf_39 rfl (by decide) rfl ?_
        refine g_goto 17 dX12_endOf_42 (by decide) ?_
        have hq := byt_lt (n := n) (f := A 0) (p := q) (fun e => by rw [e] at c_25; exact absurd c_25 (by decide))
        refine ih (q + 1) (by omega) (by omega) (by omega) hb ?_
        rw [← sce_step hq.1 (show bLD (A 0 q) = true by rw [← hq.2]; unfold bLD; rw [c_25]; rfl), hs]
      · refine g_aload_n dX12_endOf_28 rfl ?_
        refine g_iload_n dX12_endOf_29 rfl ?_
        refine g_callV0 kX12_224 (m12_byteOf q hM hI1 hn (by omega)) hM.1 rfl rfl rfl (Nat.le_of_ble_eq_true rfl) (by decide) (by decide) (by decide) (by decide) dX12_endOf_30 ?_
        rintro v1 h2 z1 ⟨rfl, rfl, rfl⟩
        refine g_callS0 kX12_230 (m12_isDigit (byt n (A 0) q)) rfl rfl (Nat.le_of_ble_eq_true rfl) (by decide) (by decide) (by decide) (by decide) dX12_endOf_33 ?_
        rintro v1 h2 z1 ⟨rfl, rfl, rfl⟩
        refine g_if_eqB 45 dX12_endOf_36 (by decide) (fun c_36 => ?_) (fun c_36 => ?_)
        · exact fin45 q hb (by unfold eoM; rw [if_pos hb, ← hs, sce_stop (fun q9 => by have e9 : byt n (A 0) q = A 0 q := if_pos q9; rw [e9] at c_25 c_36; unfold bLD; rw [c_25, c_36]; rfl)])
        · refine g_iincN dX12_endOf_39 rfl (by decide) rfl ?_
          refine g_goto 17 dX12_endOf_42 (by decide) ?_
          have hq := byt_lt (n := n) (f := A 0) (p := q) (fun e => by rw [e] at c_36; exact absurd c_36 (by decide))
          refine ih (q + 1) (by omega) (by omega) (by omega) hb ?_
          rw [← sce_step hq.1 (show bLD (A 0 q) = true by rw [← hq.2]; unfold bLD; rw [c_36]; rw [Bool.or_true]), hs]
  have loop2 : ∀ (r q : Nat), n + 1 ≤ q + r → p + 1 ≤ q → q ≤ n + 1 → isDi (byt n (A 0) p) = true → sce isDi n (A 0) q = sce isDi n (A 0) (p + 1) → G X F cX12_endOf 4 yX12_endOf.cls (2, 0, 0) 0 0 52 [some (.ref m), some (.int (nI p)), some (.int (byt n (A 0) p)), some (.int (nI q))] [] h z := by
    intro r
    induction r with
    | zero =>
      intro q h1 h2 h3 hb hs
      obtain ⟨b1, b2, b3, -⟩ := isDi_ne hb
      have hq : byt n (A 0) q = -1 := by unfold byt; rw [if_neg (by omega)]
      have hqe : q = eoM n (A 0) p := by unfold eoM; rw [if_neg (by rw [b1]; decide), if_pos hb, ← hs, sce_stop (fun q9 => absurd q9 (by omega))]
      refine g_aload_n dX12_endOf_52 rfl ?_
      refine g_iload_n dX12_endOf_53 rfl ?_
      refine g_callV0 kX12_224 (m12_byteOf q hM hI1 hn (by omega)) hM.1 rfl rfl rfl (Nat.le_of_ble_eq_true rfl) (by decide) (by decide) (by decide) (by decide) dX12_endOf_54 ?_
      rintro v1 h2 z1 ⟨rfl, rfl, rfl⟩
      refine g_callS0 kX12_230 (m12_isDigit (byt n (A 0) q)) rfl rfl (Nat.le_of_ble_eq_true rfl) (by decide) (by decide) (by decide) (by decide) dX12_endOf_57 ?_
      rintro v1 h2 z1 ⟨rfl, rfl, rfl⟩
      refine g_if_eqB 69 dX12_endOf_60 (by decide) (fun c_60 => ?_) (fun c_60 => ?_)
      · refine g_iload_n dX12_endOf_69 rfl ?_
        refine g_bipush (nI 60) dX12_endOf_70 (by decide) ?_
        refine g_icmp_eq 81 dX12_endOf_72 (by decide) (fun c_72 => ?_) (fun c_72 => ?_)
        · exact absurd c_72 b2
        · refine g_iload_n dX12_endOf_75 rfl ?_
          refine g_bipush (nI 62) dX12_endOf_76 (by decide) ?_
          refine g_icmp_ne 94 dX12_endOf_78 (by decide) (fun c_78 => ?_) (fun c_78 => ?_)
          · refine g_iload_n dX12_endOf_94 rfl ?_
            exact g_iret hE rfl (⟨by rw [hqe], rfl, rfl⟩) dX12_endOf_95
          · exact absurd c_78 (fun q => b3 q)
      · rw [hq] at c_60; exact absurd c_60 (by decide)
    | succ r ih =>
      intro q h1 h2 h3 hb hs
      obtain ⟨b1, b2, b3, -⟩ := isDi_ne hb
      refine g_aload_n dX12_endOf_52 rfl ?_
      refine g_iload_n dX12_endOf_53 rfl ?_
      refine g_callV0 kX12_224 (m12_byteOf q hM hI1 hn (by omega)) hM.1 rfl rfl rfl (Nat.le_of_ble_eq_true rfl) (by decide) (by decide) (by decide) (by decide) dX12_endOf_54 ?_
      rintro v1 h2 z1 ⟨rfl, rfl, rfl⟩
      refine g_callS0 kX12_230 (m12_isDigit (byt n (A 0) q)) rfl rfl (Nat.le_of_ble_eq_true rfl) (by decide) (by decide) (by decide) (by decide) dX12_endOf_57 ?_
      rintro v1 h2 z1 ⟨rfl, rfl, rfl⟩
      refine g_if_eqB 69 dX12_endOf_60 (by decide) (fun c_60 => ?_) (fun c_60 => ?_)
      · have hqe : q = eoM n (A 0) p := by unfold eoM; rw [if_neg (by rw [b1]; decide), if_pos hb, ← hs, sce_stop (fun q9 => by have e9 : byt n (A 0) q = A 0 q := if_pos q9; rw [e9] at c_60; exact c_60)]
        refine g_iload_n dX12_endOf_69 rfl ?_
        refine g_bipush (nI 60) dX12_endOf_70 (by decide) ?_
        refine g_icmp_eq 81 dX12_endOf_72 (by decide) (fun c_72 => ?_) (fun c_72 => ?_)
        · exact absurd c_72 b2
        · refine g_iload_n dX12_endOf_75 rfl ?_
          refine g_bipush (nI 62) dX12_endOf_76 (by decide) ?_
          refine g_icmp_ne 94 dX12_endOf_78 (by decide) (fun c_78 => ?_) (fun c_78 => ?_)
          · refine g_iload_n dX12_endOf_94 rfl ?_
            exact g_iret hE rfl (⟨by rw [hqe], rfl, rfl⟩) dX12_endOf_95
          · exact absurd c_78 (fun q => b3 q)
      · refine g_iincN dX12_endOf_63 rfl (by decide) rfl ?_
        refine g_goto 52 dX12_endOf_66 (by decide) ?_
        have hq := byt_lt (n := n) (f := A 0) (p := q) (fun e => by rw [e] at c_60; exact absurd c_60 (by decide))
        refine ih (q + 1) (by omega) (by omega) (by omega) hb ?_
        rw [← sce_step hq.1 (show isDi (A 0 q) = true by rw [← hq.2]; exact c_60), hs]
  refine g_aload_n dX12_endOf_0 rfl ?_
  refine g_iload_n dX12_endOf_1 rfl ?_
  refine g_callV0 kX12_224 (m12_byteOf p hM hI1 hn (by omega)) hM.1 rfl rfl rfl (Nat.le_of_ble_eq_true rfl) (by decide) (by decide) (by decide) (by decide) dX12_endOf_2 ?_
  rintro v1 h2 z1 ⟨rfl, rfl, rfl⟩
  refine g_istore_n dX12_endOf_5 (by decide) rfl ?_
  refine g_iload_n dX12_endOf_6 rfl ?_
  refine g_iconst (nI 1) dX12_endOf_7 (by decide) ?_
  first | refine g_iaddN dX12_endOf_8 ?_ | refine g_iadd dX12_endOf_8 ?_
  refine g_istore_n dX12_endOf_9 (by decide) rfl ?_
  refine g_iload_n dX12_endOf_10 rfl ?_
  refine g_callS0 kX12_227 (m12_isSmall (byt n (A 0) p)) rfl rfl (Nat.le_of_ble_eq_true rfl) (by decide) (by decide) (by decide) (by decide) dX12_endOf_11 ?_
  rintro v1 h2 z1 ⟨rfl, rfl, rfl⟩
  refine g_if_eqB 45 dX12_endOf_14 (by decide) (fun c_14 => ?_) (fun c_14 => ?_)
  · refine g_iload_n dX12_endOf_45 rfl ?_
    refine g_callS0 kX12_230 (m12_isDigit (byt n (A 0) p)) rfl rfl (Nat.le_of_ble_eq_true rfl) (by decide) (by decide) (by decide) (by decide) dX12_endOf_46 ?_
    rintro v1 h2 z1 ⟨rfl, rfl, rfl⟩
    refine g_if_eqB 69 dX12_endOf_49 (by decide) (fun c_49 => ?_) (fun c_49 => ?_)
    · refine g_iload_n dX12_endOf_69 rfl ?_
      refine g_bipush (nI 60) dX12_endOf_70 (by decide) ?_
      refine g_icmp_eq 81 dX12_endOf_72 (by decide) (fun c_72 => ?_) (fun c_72 => ?_)
      · refine g_aload_n dX12_endOf_81 rfl ?_
        refine g_iload_n dX12_endOf_82 rfl ?_
        refine g_callV0 kX12_224 (m12_byteOf (p + 1) hM hI1 hn (by omega)) hM.1 rfl rfl rfl (Nat.le_of_ble_eq_true rfl) (by decide) (by decide) (by decide) (by decide) dX12_endOf_83 ?_
        rintro v1 h2 z1 ⟨rfl, rfl, rfl⟩
        refine g_bipush (nI 61) dX12_endOf_86 (by decide) ?_
        refine g_icmp_ne 94 dX12_endOf_88 (by decide) (fun c_88 => ?_) (fun c_88 => ?_)
        · refine g_iload_n dX12_endOf_94 rfl ?_
          exact g_iret hE rfl (⟨by unfold eoM; rw [if_neg (by rw [c_14]; decide), if_neg (by rw [c_49]; decide)]; first | (rw [if_pos ⟨by first | exact Or.inl c_72 | exact Or.inr c_78 | exact Or.inr (Classical.not_not.mp c_78), by first | exact c_88 | exact Classical.not_not.mp c_88⟩]) | (rw [if_neg (fun q => c_88 q.2)]) | (rw [if_neg (fun q => q.1.elim c_72 c_78)]), rfl, rfl⟩) dX12_endOf_95
        · refine g_iincN dX12_endOf_91 rfl (by decide) rfl ?_
          refine g_iload_n dX12_endOf_94 rfl ?_
          exact g_iret hE rfl (⟨by unfold eoM; rw [if_neg (by rw [c_14]; decide), if_neg (by rw [c_49]; decide)]; first | (rw [if_pos ⟨by first | exact Or.inl c_72 | exact Or.inr c_78 | exact Or.inr (Classical.not_not.mp c_78), by first | exact c_88 | exact Classical.not_not.mp c_88⟩]) | (rw [if_neg (fun q => c_88 q.2)]) | (rw [if_neg (fun q => q.1.elim c_72 c_78)]), rfl, rfl⟩) dX12_endOf_95
      · refine g_iload_n dX12_endOf_75 rfl ?_
        refine g_bipush (nI 62) dX12_endOf_76 (by decide) ?_
        refine g_icmp_ne 94 dX12_endOf_78 (by decide) (fun c_78 => ?_) (fun c_78 => ?_)
        · refine g_iload_n dX12_endOf_94 rfl ?_
          exact g_iret hE rfl (⟨by unfold eoM; rw [if_neg (by rw [c_14]; decide), if_neg (by rw [c_49]; decide)]; first | (rw [if_pos ⟨by first | exact Or.inl c_72 | exact Or.inr c_78 | exact Or.inr (Classical.not_not.mp c_78), by first | exact c_88 | exact Classical.not_not.mp c_88⟩]) | (rw [if_neg (fun q => c_88 q.2)]) | (rw [if_neg (fun q => q.1.elim c_72 c_78)]), rfl, rfl⟩) dX12_endOf_95
        · refine g_aload_n dX12_endOf_81 rfl ?_
          refine g_iload_n dX12_endOf_82 rfl ?_
          refine g_callV0 kX12_224 (m12_byteOf (p + 1) hM hI1 hn (by omega)) hM.1 rfl rfl rfl (Nat.le_of_ble_eq_true rfl) (by decide) (by decide) (by decide) (by decide) dX12_endOf_83 ?_
          rintro v1 h2 z1 ⟨rfl, rfl, rfl⟩
          refine g_bipush (nI 61) dX12_endOf_86 (by decide) ?_
          refine g_icmp_ne 94 dX12_endOf_88 (by decide) (fun c_88 => ?_) (fun c_88 => ?_)
          · refine g_iload_n dX12_endOf_94 rfl ?_
            exact g_iret hE rfl (⟨by unfold eoM; rw [if_neg (by rw [c_14]; decide), if_neg (by rw [c_49]; decide)]; first | (rw [if_pos ⟨by first | exact Or.inl c_72 | exact Or.inr c_78 | exact Or.inr (Classical.not_not.mp c_78), by first | exact c_88 | exact Classical.not_not.mp c_88⟩]) | (rw [if_neg (fun q => c_88 q.2)]) | (rw [if_neg (fun q => q.1.elim c_72 c_78)]), rfl, rfl⟩) dX12_endOf_95
          · refine g_iincN dX12_endOf_91 rfl (by decide) rfl ?_
            refine g_iload_n dX12_endOf_94 rfl ?_
            exact g_iret hE rfl (⟨by unfold eoM; rw [if_neg (by rw [c_14]; decide), if_neg (by rw [c_49]; decide)]; first | (rw [if_pos ⟨by first | exact Or.inl c_72 | exact Or.inr c_78 | exact Or.inr (Classical.not_not.mp c_78), by first | exact c_88 | exact Classical.not_not.mp c_88⟩]) | (rw [if_neg (fun q => c_88 q.2)]) | (rw [if_neg (fun q => q.1.elim c_72 c_78)]), rfl, rfl⟩) dX12_endOf_95
    · exact loop2 n (p + 1) (by omega) (by omega) (by omega) c_49 rfl
  · exact loop1 n (p + 1) (by omega) (by omega) (by omega) c_14 rfl
