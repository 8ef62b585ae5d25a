/-! the reference: what a step asks, sums and tests reckoned -/
/-- the plan P of the reference at q -/
def MpP (X : gX) (h : gH) (q : Nat) (P : PlM) : Prop := ∃ (J : Nat → Int32) (B : Nat → Nat → Int32) (U W : Nat → Int64), MpB X h q J B U W ∧ (J 0 = nI P.1.1 ∧ J 1 = nI P.2.1.1 ∧ J 2 = nI P.2.2.1) ∧ (∀ i, i < P.1.1 → MpW B i (wl (P.1.2 i))) ∧ (∀ k, k < P.2.1.1 → B 2 k = nI ((P.2.1.2 k).1.1 - 5) ∧ ((P.2.1.2 k).1.1 = 6 → W k = lN (nm (P.2.1.2 k).1.2.2)) ∧ ((P.2.1.2 k).1.1 = 7 → B 3 k = nI (P.2.1.2 k).1.2.1) ∧ B 4 k = nI (P.2.1.2 k).2.1 ∧ B 5 k = nI (P.2.1.2 k).2.2.1 ∧ B 6 k = nI (P.2.1.2 k).2.2.2) ∧ (∀ j, j < P.2.2.1 → B 7 j = nI (rc (P.2.2.2 j).1) ∧ B 8 j = (P.2.2.2 j).2)
theorem MpP.off {X : gX} {h h' : gH} {q m : Nat} {P : PlM} (hP : MpP X h q P) (hO : OffM h h' m) (hd : q + 12 ≤ m ∨ q = m + 2 ∨ m + 25 ≤ q) : MpP X h' q P := by
  obtain ⟨J, B, U, W, h1, h2⟩ := hP
  exact ⟨J, B, U, W, h1.off hO hd, h2⟩
/-- is it an atom, by the number of the reference -/
def asked (n : Nat) : Bool := n == 100 || (Nat.ble 6 n && Nat.ble n 11) || n == 13
theorem code_facts : ∀ c, c < 39 → (isAt c || c == 4 || c == 19 || isBi c) = true → asked (rc c) = isAt c ∧ (rc c = 105 ↔ c = 4) ∧ (rc c = 14 ↔ c = 19) ∧ rc c < 200 := by decide +kernel
theorem code_lt {c : Nat} (h : (isAt c || c == 4 || c == 19 || isBi c) = true) : c < 39 := by
  unfold isAt isBi at h
  simp only [Bool.or_eq_true, Bool.and_eq_true, beq_iff_eq, Nat.ble_eq] at h
  omega
theorem stp_ok {a : Nat → Int32 → Int32} {c : Nat} {x : Int32} {st st' : List Int32} (h : stp a c x st = some st') : (isAt c || c == 4 || c == 19 || isBi c) = true := by
  unfold stp at h
  by_cases h1 : isAt c = true
  · simp [h1]
  · by_cases h2 : c = 4
    · simp [h2]
    · by_cases h3 : c = 19
      · simp [h3]
      · by_cases h4 : isBi c = true
        · simp [h4]
        · rw [if_neg h1, if_neg h2, if_neg h3, if_neg h4] at h; cases h
theorem stp_at {a : Nat → Int32 → Int32} {c : Nat} {x : Int32} {st st' : List Int32} (h : stp a c x st = some st') (hc : isAt c = true) : st.length < 64 ∧ st' = a c x :: st := by
  unfold stp at h
  rw [if_pos hc] at h
  split at h
  · cases h; exact ⟨by assumption, rfl⟩
  · cases h
theorem stp_neg {a : Nat → Int32 → Int32} {c : Nat} {x : Int32} {st st' : List Int32} (h : stp a c x st = some st') (hc : c = 4) : ∃ v r, st = v :: r ∧ st' = -v :: r := by
  subst hc
  cases st with
  | nil => cases h
  | cons v r => cases h; exact ⟨v, r, rfl, rfl⟩
theorem stp_not {a : Nat → Int32 → Int32} {c : Nat} {x : Int32} {st st' : List Int32} (h : stp a c x st = some st') (hc : c = 19) : ∃ v r, st = v :: r ∧ (v = 0 ∨ v = 1) ∧ st' = b2i (decide (v = 0)) :: r := by
  subst hc
  cases st with
  | nil => cases h
  | cons v r =>
    unfold stp at h
    rw [if_neg (by decide), if_neg (by decide), if_pos rfl] at h
    simp only at h
    split at h
    · cases h; exact ⟨v, r, rfl, by assumption, rfl⟩
    · cases h
theorem stp_bi {a : Nat → Int32 → Int32} {c : Nat} {x : Int32} {st st' : List Int32} (h : stp a c x st = some st') (h1 : isAt c = false) (h2 : ¬ c = 4) (h3 : ¬ c = 19) : ∃ p q r, isBi c = true ∧ st = q :: p :: r ∧ st' = bop c p q :: r := by
  unfold stp at h
  rw [if_neg (by simp [h1]), if_neg h2, if_neg h3] at h
  split at h
  · cases st with
    | nil => cases h
    | cons q r =>
      cases r with
      | nil => cases h
      | cons p r => cases h; exact ⟨p, q, r, by assumption, rfl, rfl⟩
  · cases h
set_option maxRecDepth 100000 in
set_option maxHeartbeats 4000000 in
theorem m12_isAsked {X : gX} {h : gH} {z : Nat} (n : Nat) (hn : n < 200) : gM X yX12_isAsked cX12_isAsked 1 (some .boolean) (2, 0, 0) [.int (nI n)] h z (pR h z (b2i (asked n))) gNoX := by
  refine gM.of px12 (Nat.le_of_ble_eq_true rfl) ?_
  intro F hE
  refine g_iload_n dX12_isAsked_0 rfl ?_
  refine g_bipush (nI 100) dX12_isAsked_1 (by decide) ?_
  refine g_icmp_eqN 23 dX12_isAsked_3 (by decide) (by omega) (by omega) (fun c_3 => ?_) (fun c_3 => ?_)
  · refine g_iconst (nI 1) dX12_isAsked_23 (by decide) ?_
    refine g_goto 28 dX12_isAsked_24 (by decide) ?_
    exact g_iret hE rfl (⟨by first | (rw [b2i_t (show asked n = true from by unfold asked; simp only [Bool.or_eq_true, Bool.and_eq_true, beq_iff_eq, Nat.ble_eq]; omega)]; rfl) | (rw [b2i_f (show asked n = false from by rw [← Bool.not_eq_true]; unfold asked; simp only [Bool.or_eq_true, Bool.and_eq_true, beq_iff_eq, Nat.ble_eq]; omega)]; rfl), rfl, rfl⟩) dX12_isAsked_28
  · have hi : (nI 6 ≤ nI n ↔ 6 ≤ n) ∧ (nI n ≤ nI 11 ↔ n ≤ 11) := ⟨nI_leI (by decide) (by omega), nI_leI (by omega) (by decide)⟩
    refine g_iload_n dX12_isAsked_6 rfl ?_
    refine g_bipush (nI 6) dX12_isAsked_7 (by decide) ?_
    refine g_bipush (nI 11) dX12_isAsked_9 (by decide) ?_
    refine g_callS0 kX12_64 (m12_isIn (nI n) (nI 6) (nI 11)) rfl rfl (Nat.le_of_ble_eq_true rfl) (by decide) (by decide) (by decide) (by decide) dX12_isAsked_11 ?_
    rintro v1 h1 z1 ⟨rfl, rfl, rfl⟩
    refine g_if_neB 23 dX12_isAsked_14 (by decide) (fun c_14 => ?_) (fun c_14 => ?_)
    all_goals simp only [decide_eq_true_eq, decide_eq_false_iff_not, hi.1, hi.2] at c_14
    · refine g_iconst (nI 1) dX12_isAsked_23 (by decide) ?_
      refine g_goto 28 dX12_isAsked_24 (by decide) ?_
      exact g_iret hE rfl (⟨by first | (rw [b2i_t (show asked n = true from by unfold asked; simp only [Bool.or_eq_true, Bool.and_eq_true, beq_iff_eq, Nat.ble_eq]; omega)]; rfl) | (rw [b2i_f (show asked n = false from by rw [← Bool.not_eq_true]; unfold asked; simp only [Bool.or_eq_true, Bool.and_eq_true, beq_iff_eq, Nat.ble_eq]; omega)]; rfl), rfl, rfl⟩) dX12_isAsked_28
    · refine g_iload_n dX12_isAsked_17 rfl ?_
      refine g_bipush (nI 13) dX12_isAsked_18 (by decide) ?_
      refine g_icmp_neN 27 dX12_isAsked_20 (by decide) (by omega) (by omega) (fun c_20 => ?_) (fun c_20 => ?_)
      · refine g_iconst (nI 0) dX12_isAsked_27 (by decide) ?_
        exact g_iret hE rfl (⟨by first | (rw [b2i_t (show asked n = true from by unfold asked; simp only [Bool.or_eq_true, Bool.and_eq_true, beq_iff_eq, Nat.ble_eq]; omega)]; rfl) | (rw [b2i_f (show asked n = false from by rw [← Bool.not_eq_true]; unfold asked; simp only [Bool.or_eq_true, Bool.and_eq_true, beq_iff_eq, Nat.ble_eq]; omega)]; rfl), rfl, rfl⟩) dX12_isAsked_28
      · refine g_iconst (nI 1) dX12_isAsked_23 (by decide) ?_
        refine g_goto 28 dX12_isAsked_24 (by decide) ?_
        exact g_iret hE rfl (⟨by first | (rw [b2i_t (show asked n = true from by unfold asked; simp only [Bool.or_eq_true, Bool.and_eq_true, beq_iff_eq, Nat.ble_eq]; omega)]; rfl) | (rw [b2i_f (show asked n = false from by rw [← Bool.not_eq_true]; unfold asked; simp only [Bool.or_eq_true, Bool.and_eq_true, beq_iff_eq, Nat.ble_eq]; omega)]; rfl), rfl, rfl⟩) dX12_isAsked_28
set_option maxRecDepth 100000 in
set_option maxHeartbeats 4000000 in
theorem m12_reckon_add {X : gX} {h : gH} {z : Nat} (a b : Int32) : gM X yX12_reckon cX12_reckon 3 (some .int) (2, 0, 0) [.int (nI 101), .int a, .int b] h z (pR h z (bop 30 a b)) gNoX := by
  refine gM.of px12 (Nat.le_of_ble_eq_true rfl) ?_
  intro F hE
  refine g_iload_n dX12_reckon_0 rfl ?_
  refine g_lookup (107) 108 dX12_reckon_1 (by decide) (by decide) (by decide) ?_
  refine g_iload_n dX12_reckon_108 rfl ?_
  refine g_iload_n dX12_reckon_109 rfl ?_
  first | refine g_iaddN dX12_reckon_110 ?_ | refine g_iadd dX12_reckon_110 ?_
  exact g_iret hE rfl (⟨rfl, rfl, rfl⟩) dX12_reckon_111
set_option maxRecDepth 100000 in
set_option maxHeartbeats 4000000 in
theorem m12_reckon_sub {X : gX} {h : gH} {z : Nat} (a b : Int32) : gM X yX12_reckon cX12_reckon 3 (some .int) (2, 0, 0) [.int (nI 102), .int a, .int b] h z (pR h z (bop 31 a b)) gNoX := by
  refine gM.of px12 (Nat.le_of_ble_eq_true rfl) ?_
  intro F hE
  refine g_iload_n dX12_reckon_0 rfl ?_
  refine g_lookup (111) 112 dX12_reckon_1 (by decide) (by decide) (by decide) ?_
  refine g_iload_n dX12_reckon_112 rfl ?_
  refine g_iload_n dX12_reckon_113 rfl ?_
  first | refine g_isubN dX12_reckon_114 (by omega) ?_ | refine g_isub dX12_reckon_114 ?_
  exact g_iret hE rfl (⟨rfl, rfl, rfl⟩) dX12_reckon_115
set_option maxRecDepth 100000 in
set_option maxHeartbeats 4000000 in
theorem m12_reckon_mul {X : gX} {h : gH} {z : Nat} (a b : Int32) : gM X yX12_reckon cX12_reckon 3 (some .int) (2, 0, 0) [.int (nI 103), .int a, .int b] h z (pR h z (bop 32 a b)) gNoX := by
  refine gM.of px12 (Nat.le_of_ble_eq_true rfl) ?_
  intro F hE
  refine g_iload_n dX12_reckon_0 rfl ?_
  refine g_lookup (115) 116 dX12_reckon_1 (by decide) (by decide) (by decide) ?_
  refine g_iload_n dX12_reckon_116 rfl ?_
  refine g_iload_n dX12_reckon_117 rfl ?_
  first | refine g_imulN dX12_reckon_118 ?_ | refine g_imul dX12_reckon_118 ?_
  exact g_iret hE rfl (⟨rfl, rfl, rfl⟩) dX12_reckon_119
set_option maxRecDepth 100000 in
set_option maxHeartbeats 4000000 in
theorem m12_reckon_div {X : gX} {h : gH} {z : Nat} (a b : Int32) : gM X yX12_reckon cX12_reckon 3 (some .int) (2, 0, 0) [.int (nI 104), .int a, .int b] h z (pR h z (bop 33 a b)) gNoX := by
  refine gM.of px12 (Nat.le_of_ble_eq_true rfl) ?_
  intro F hE
  refine g_iload_n dX12_reckon_0 rfl ?_
  refine g_lookup (119) 120 dX12_reckon_1 (by decide) (by decide) (by decide) ?_
  refine g_iload_n dX12_reckon_120 rfl ?_
  refine g_if_ne 128 dX12_reckon_121 (by decide) (fun c_121 => ?_) (fun c_121 => ?_)
  · refine g_iload_n dX12_reckon_128 rfl ?_
    refine g_iload_n dX12_reckon_129 rfl ?_
    refine g_idiv dX12_reckon_130 c_121 ?_
    exact g_iret hE rfl (⟨by rw [show bop 33 a b = (if b = 0 then 0 else a / b) from rfl, if_neg c_121], rfl, rfl⟩) dX12_reckon_131
  · refine g_iconst (nI 0) dX12_reckon_124 (by decide) ?_
    refine g_goto 131 dX12_reckon_125 (by decide) ?_
    exact g_iret hE rfl (⟨by rw [show bop 33 a b = (if b = 0 then 0 else a / b) from rfl, if_pos c_121]; rfl, rfl, rfl⟩) dX12_reckon_131
set_option maxRecDepth 100000 in
set_option maxHeartbeats 4000000 in
theorem m12_reckon_min {X : gX} {h : gH} {z : Nat} (a b : Int32) : gM X yX12_reckon cX12_reckon 3 (some .int) (2, 0, 0) [.int (nI 17), .int a, .int b] h z (pR h z (bop 22 a b)) gNoX := by
  refine gM.of px12 (Nat.le_of_ble_eq_true rfl) ?_
  intro F hE
  refine g_iload_n dX12_reckon_0 rfl ?_
  refine g_lookup (131) 132 dX12_reckon_1 (by decide) (by decide) (by decide) ?_
  refine g_iload_n dX12_reckon_132 rfl ?_
  refine g_iload_n dX12_reckon_133 rfl ?_
  refine gmin wmath_min wlX12_176 (by decide) (Nat.le_of_ble_eq_true rfl) (by decide) (by decide) dX12_reckon_134 ?_
  exact g_iret hE rfl (⟨rfl, rfl, rfl⟩) dX12_reckon_137
set_option maxRecDepth 100000 in
set_option maxHeartbeats 4000000 in
theorem m12_reckon_max {X : gX} {h : gH} {z : Nat} (a b : Int32) : gM X yX12_reckon cX12_reckon 3 (some .int) (2, 0, 0) [.int (nI 18), .int a, .int b] h z (pR h z (bop 23 a b)) gNoX := by
  refine gM.of px12 (Nat.le_of_ble_eq_true rfl) ?_
  intro F hE
  refine g_iload_n dX12_reckon_0 rfl ?_
  refine g_lookup (137) 138 dX12_reckon_1 (by decide) (by decide) (by decide) ?_
  refine g_iload_n dX12_reckon_138 rfl ?_
  refine g_iload_n dX12_reckon_139 rfl ?_
  refine gmax wmath_max wlX12_120 (by decide) (Nat.le_of_ble_eq_true rfl) (by decide) (by decide) dX12_reckon_140 ?_
  exact g_iret hE rfl (⟨rfl, rfl, rfl⟩) dX12_reckon_143
set_option maxRecDepth 100000 in
set_option maxHeartbeats 4000000 in
theorem m12_reckon_lss {X : gX} {h : gH} {z : Nat} (a b : Int32) : gM X yX12_reckon cX12_reckon 3 (some .int) (2, 0, 0) [.int (nI 106), .int a, .int b] h z (pR h z (bop 34 a b)) gNoX := by
  refine gM.of px12 (Nat.le_of_ble_eq_true rfl) ?_
  intro F hE
  refine g_iload_n dX12_reckon_0 rfl ?_
  refine g_lookup (143) 144 dX12_reckon_1 (by decide) (by decide) (by decide) ?_
  refine g_iload_n dX12_reckon_144 rfl ?_
  refine g_iload_n dX12_reckon_145 rfl ?_
  refine g_icmp_ge 153 dX12_reckon_146 (by decide) (fun c_146 => ?_) (fun c_146 => ?_)
  · refine g_iconst (nI 0) dX12_reckon_153 (by decide) ?_
    refine g_callS0 kX12_201 (m12_one false) rfl rfl (Nat.le_of_ble_eq_true rfl) (by decide) (by decide) (by decide) (by decide) dX12_reckon_154 ?_
    rintro v1 h1 z1 ⟨rfl, rfl, rfl⟩
    exact g_iret hE rfl (⟨by rw [show bop 34 a b = b2i (decide (a < b)) from rfl, decide_eq_false (show ¬ (a < b) from by simp only [Int32.lt_iff_toInt_lt, Int32.le_iff_toInt_le, ← Int32.toInt_inj] at *; omega)], rfl, rfl⟩) dX12_reckon_157
  · refine g_iconst (nI 1) dX12_reckon_149 (by decide) ?_
    refine g_goto 154 dX12_reckon_150 (by decide) ?_
    refine g_callS0 kX12_201 (m12_one true) rfl rfl (Nat.le_of_ble_eq_true rfl) (by decide) (by decide) (by decide) (by decide) dX12_reckon_154 ?_
    rintro v1 h1 z1 ⟨rfl, rfl, rfl⟩
    exact g_iret hE rfl (⟨by rw [show bop 34 a b = b2i (decide (a < b)) from rfl, decide_eq_true (show a < b from by simp only [Int32.lt_iff_toInt_lt, Int32.le_iff_toInt_le, ← Int32.toInt_inj] at *; omega)], rfl, rfl⟩) dX12_reckon_157
set_option maxRecDepth 100000 in
set_option maxHeartbeats 4000000 in
theorem m12_reckon_mor {X : gX} {h : gH} {z : Nat} (a b : Int32) : gM X yX12_reckon cX12_reckon 3 (some .int) (2, 0, 0) [.int (nI 107), .int a, .int b] h z (pR h z (bop 35 a b)) gNoX := by
  refine gM.of px12 (Nat.le_of_ble_eq_true rfl) ?_
  intro F hE
  refine g_iload_n dX12_reckon_0 rfl ?_
  refine g_lookup (157) 158 dX12_reckon_1 (by decide) (by decide) (by decide) ?_
  refine g_iload_n dX12_reckon_158 rfl ?_
  refine g_iload_n dX12_reckon_159 rfl ?_
  refine g_icmp_le 167 dX12_reckon_160 (by decide) (fun c_160 => ?_) (fun c_160 => ?_)
  · refine g_iconst (nI 0) dX12_reckon_167 (by decide) ?_
    refine g_callS0 kX12_201 (m12_one false) rfl rfl (Nat.le_of_ble_eq_true rfl) (by decide) (by decide) (by decide) (by decide) dX12_reckon_168 ?_
    rintro v1 h1 z1 ⟨rfl, rfl, rfl⟩
    exact g_iret hE rfl (⟨by rw [show bop 35 a b = b2i (decide (b < a)) from rfl, decide_eq_false (show ¬ (b < a) from by simp only [Int32.lt_iff_toInt_lt, Int32.le_iff_toInt_le, ← Int32.toInt_inj] at *; omega)], rfl, rfl⟩) dX12_reckon_171
  · refine g_iconst (nI 1) dX12_reckon_163 (by decide) ?_
    refine g_goto 168 dX12_reckon_164 (by decide) ?_
    refine g_callS0 kX12_201 (m12_one true) rfl rfl (Nat.le_of_ble_eq_true rfl) (by decide) (by decide) (by decide) (by decide) dX12_reckon_168 ?_
    rintro v1 h1 z1 ⟨rfl, rfl, rfl⟩
    exact g_iret hE rfl (⟨by rw [show bop 35 a b = b2i (decide (b < a)) from rfl, decide_eq_true (show b < a from by simp only [Int32.lt_iff_toInt_lt, Int32.le_iff_toInt_le, ← Int32.toInt_inj] at *; omega)], rfl, rfl⟩) dX12_reckon_171
set_option maxRecDepth 100000 in
set_option maxHeartbeats 4000000 in
theorem m12_reckon_equ {X : gX} {h : gH} {z : Nat} (a b : Int32) : gM X yX12_reckon cX12_reckon 3 (some .int) (2, 0, 0) [.int (nI 108), .int a, .int b] h z (pR h z (bop 36 a b)) gNoX := by
  refine gM.of px12 (Nat.le_of_ble_eq_true rfl) ?_
  intro F hE
  refine g_iload_n dX12_reckon_0 rfl ?_
  refine g_lookup (171) 172 dX12_reckon_1 (by decide) (by decide) (by decide) ?_
  refine g_iload_n dX12_reckon_172 rfl ?_
  refine g_iload_n dX12_reckon_173 rfl ?_
  refine g_icmp_ne 181 dX12_reckon_174 (by decide) (fun c_174 => ?_) (fun c_174 => ?_)
  · refine g_iconst (nI 0) dX12_reckon_181 (by decide) ?_
    refine g_callS0 kX12_201 (m12_one false) rfl rfl (Nat.le_of_ble_eq_true rfl) (by decide) (by decide) (by decide) (by decide) dX12_reckon_182 ?_
    rintro v1 h1 z1 ⟨rfl, rfl, rfl⟩
    exact g_iret hE rfl (⟨by rw [show bop 36 a b = b2i (decide (a = b)) from rfl, decide_eq_false (show ¬ (a = b) from by simp only [Int32.lt_iff_toInt_lt, Int32.le_iff_toInt_le, ← Int32.toInt_inj] at *; omega)], rfl, rfl⟩) dX12_reckon_185
  · refine g_iconst (nI 1) dX12_reckon_177 (by decide) ?_
    refine g_goto 182 dX12_reckon_178 (by decide) ?_
    refine g_callS0 kX12_201 (m12_one true) rfl rfl (Nat.le_of_ble_eq_true rfl) (by decide) (by decide) (by decide) (by decide) dX12_reckon_182 ?_
    rintro v1 h1 z1 ⟨rfl, rfl, rfl⟩
    exact g_iret hE rfl (⟨by rw [show bop 36 a b = b2i (decide (a = b)) from rfl, decide_eq_true (show a = b from by simp only [Int32.lt_iff_toInt_lt, Int32.le_iff_toInt_le, ← Int32.toInt_inj] at *; omega)], rfl, rfl⟩) dX12_reckon_185
set_option maxRecDepth 100000 in
set_option maxHeartbeats 4000000 in
theorem m12_reckon_leq {X : gX} {h : gH} {z : Nat} (a b : Int32) : gM X yX12_reckon cX12_reckon 3 (some .int) (2, 0, 0) [.int (nI 109), .int a, .int b] h z (pR h z (bop 37 a b)) gNoX := by
  refine gM.of px12 (Nat.le_of_ble_eq_true rfl) ?_
  intro F hE
  refine g_iload_n dX12_reckon_0 rfl ?_
  refine g_lookup (185) 186 dX12_reckon_1 (by decide) (by decide) (by decide) ?_
  refine g_iload_n dX12_reckon_186 rfl ?_
  refine g_iload_n dX12_reckon_187 rfl ?_
  refine g_icmp_gt 195 dX12_reckon_188 (by decide) (fun c_188 => ?_) (fun c_188 => ?_)
  · refine g_iconst (nI 0) dX12_reckon_195 (by decide) ?_
    refine g_callS0 kX12_201 (m12_one false) rfl rfl (Nat.le_of_ble_eq_true rfl) (by decide) (by decide) (by decide) (by decide) dX12_reckon_196 ?_
    rintro v1 h1 z1 ⟨rfl, rfl, rfl⟩
    exact g_iret hE rfl (⟨by rw [show bop 37 a b = b2i (decide (a ≤ b)) from rfl, decide_eq_false (show ¬ (a ≤ b) from by simp only [Int32.lt_iff_toInt_lt, Int32.le_iff_toInt_le, ← Int32.toInt_inj] at *; omega)], rfl, rfl⟩) dX12_reckon_199
  · refine g_iconst (nI 1) dX12_reckon_191 (by decide) ?_
    refine g_goto 196 dX12_reckon_192 (by decide) ?_
    refine g_callS0 kX12_201 (m12_one true) rfl rfl (Nat.le_of_ble_eq_true rfl) (by decide) (by decide) (by decide) (by decide) dX12_reckon_196 ?_
    rintro v1 h1 z1 ⟨rfl, rfl, rfl⟩
    exact g_iret hE rfl (⟨by rw [show bop 37 a b = b2i (decide (a ≤ b)) from rfl, decide_eq_true (show a ≤ b from by simp only [Int32.lt_iff_toInt_lt, Int32.le_iff_toInt_le, ← Int32.toInt_inj] at *; omega)], rfl, rfl⟩) dX12_reckon_199
set_option maxRecDepth 100000 in
set_option maxHeartbeats 4000000 in
theorem m12_reckon_geq {X : gX} {h : gH} {z : Nat} (a b : Int32) : gM X yX12_reckon cX12_reckon 3 (some .int) (2, 0, 0) [.int (nI 110), .int a, .int b] h z (pR h z (bop 38 a b)) gNoX := by
  refine gM.of px12 (Nat.le_of_ble_eq_true rfl) ?_
  intro F hE
  refine g_iload_n dX12_reckon_0 rfl ?_
  refine g_lookup (199) 200 dX12_reckon_1 (by decide) (by decide) (by decide) ?_
  refine g_iload_n dX12_reckon_200 rfl ?_
  refine g_iload_n dX12_reckon_201 rfl ?_
  refine g_icmp_lt 209 dX12_reckon_202 (by decide) (fun c_202 => ?_) (fun c_202 => ?_)
  · refine g_iconst (nI 0) dX12_reckon_209 (by decide) ?_
    refine g_callS0 kX12_201 (m12_one false) rfl rfl (Nat.le_of_ble_eq_true rfl) (by decide) (by decide) (by decide) (by decide) dX12_reckon_210 ?_
    rintro v1 h1 z1 ⟨rfl, rfl, rfl⟩
    exact g_iret hE rfl (⟨by rw [show bop 38 a b = b2i (decide (b ≤ a)) from rfl, decide_eq_false (show ¬ (b ≤ a) from by simp only [Int32.lt_iff_toInt_lt, Int32.le_iff_toInt_le, ← Int32.toInt_inj] at *; omega)], rfl, rfl⟩) dX12_reckon_213
  · refine g_iconst (nI 1) dX12_reckon_205 (by decide) ?_
    refine g_goto 210 dX12_reckon_206 (by decide) ?_
    refine g_callS0 kX12_201 (m12_one true) rfl rfl (Nat.le_of_ble_eq_true rfl) (by decide) (by decide) (by decide) (by decide) dX12_reckon_210 ?_
    rintro v1 h1 z1 ⟨rfl, rfl, rfl⟩
    exact g_iret hE rfl (⟨by rw [show bop 38 a b = b2i (decide (b ≤ a)) from rfl, decide_eq_true (show b ≤ a from by simp only [Int32.lt_iff_toInt_lt, Int32.le_iff_toInt_le, ← Int32.toInt_inj] at *; omega)], rfl, rfl⟩) dX12_reckon_213
set_option maxRecDepth 100000 in
set_option maxHeartbeats 4000000 in
theorem m12_reckon_and {X : gX} {h : gH} {z : Nat} (a b : Int32) : gM X yX12_reckon cX12_reckon 3 (some .int) (2, 0, 0) [.int (nI 15), .int a, .int b] h z (pR h z (bop 20 a b)) gNoX := by
  refine gM.of px12 (Nat.le_of_ble_eq_true rfl) ?_
  intro F hE
  refine g_iload_n dX12_reckon_0 rfl ?_
  refine g_lookup (213) 214 dX12_reckon_1 (by decide) (by decide) (by decide) ?_
  refine g_iload_n dX12_reckon_214 rfl ?_
  refine g_iload_n dX12_reckon_215 rfl ?_
  refine g_iand dX12_reckon_216 ?_
  exact g_iret hE rfl (⟨rfl, rfl, rfl⟩) dX12_reckon_217
set_option maxRecDepth 100000 in
set_option maxHeartbeats 4000000 in
theorem m12_reckon_or {X : gX} {h : gH} {z : Nat} (a b : Int32) : gM X yX12_reckon cX12_reckon 3 (some .int) (2, 0, 0) [.int (nI 16), .int a, .int b] h z (pR h z (bop 21 a b)) gNoX := by
  refine gM.of px12 (Nat.le_of_ble_eq_true rfl) ?_
  intro F hE
  refine g_iload_n dX12_reckon_0 rfl ?_
  refine g_lookup (217) 218 dX12_reckon_1 (by decide) (by decide) (by decide) ?_
  refine g_iload_n dX12_reckon_218 rfl ?_
  refine g_iload_n dX12_reckon_219 rfl ?_
  refine g_ior dX12_reckon_220 ?_
  exact g_iret hE rfl (⟨rfl, rfl, rfl⟩) dX12_reckon_221
theorem isBi_cases : ∀ c, c < 39 → isBi c = true → c = 20 ∨ c = 21 ∨ c = 22 ∨ c = 23 ∨ c = 30 ∨ c = 31 ∨ c = 32 ∨ c = 33 ∨ c = 34 ∨ c = 35 ∨ c = 36 ∨ c = 37 ∨ c = 38 := by decide +kernel
theorem m12_reckon {X : gX} {h : gH} {z c : Nat} (hc : isBi c = true) (a b : Int32) : gM X yX12_reckon cX12_reckon 3 (some .int) (2, 0, 0) [.int (nI (rc c)), .int a, .int b] h z (pR h z (bop c a b)) gNoX := by
  have h39 := code_lt (c := c) (by rw [hc]; simp)
  rcases isBi_cases c h39 hc with rfl | rfl | rfl | rfl | rfl | rfl | rfl | rfl | rfl | rfl | rfl | rfl | rfl
  · exact m12_reckon_and a b
  · exact m12_reckon_or a b
  · exact m12_reckon_min a b
  · exact m12_reckon_max a b
  · exact m12_reckon_add a b
  · exact m12_reckon_sub a b
  · exact m12_reckon_mul a b
  · exact m12_reckon_div a b
  · exact m12_reckon_lss a b
  · exact m12_reckon_mor a b
  · exact m12_reckon_equ a b
  · exact m12_reckon_leq a b
  · exact m12_reckon_geq a b
