/-! static methods of both sides: letters, digits, truth -/
abbrev isLe (x : Int32) : Bool := decide (nI 97 ≤ x ∧ x ≤ nI 122)
abbrev isDi (x : Int32) : Bool := decide (nI 48 ≤ x ∧ x ≤ nI 57)
abbrev isBl (x : Int32) : Bool := decide (x = nI 32 ∨ x = nI 10)

set_option maxRecDepth 100000 in
set_option maxHeartbeats 4000000 in
theorem m8_isBlank {X : gX} {h : gH} {z : Nat} (x : Int32) : gM X yX8_isBlank cX8_isBlank 1 (some .boolean) (1, 0, 0) [.int x] h z (pR h z (b2i (isBl x))) gNoX := by
  refine gM.of px8 (Nat.le_of_ble_eq_true rfl) ?_
  intro F hE
  refine g_iload_n dX8_isBlank_0 rfl ?_
  refine g_bipush (nI 32) dX8_isBlank_1 (by decide) ?_
  refine g_icmp_eq 12 dX8_isBlank_3 (by decide) (fun c_3 => ?_) (fun c_3 => ?_)
  · refine g_iconst (nI 1) dX8_isBlank_12 (by decide) ?_
    refine g_goto 17 dX8_isBlank_13 (by decide) ?_
    exact g_iret hE rfl (⟨by first | (rw [b2i_t (decide_eq_true (by simp only [Int32.lt_iff_toInt_lt, Int32.le_iff_toInt_le, ← Int32.toInt_inj, Decidable.not_not] at *; omega))]; rfl) | (rw [b2i_f (decide_eq_false (by simp only [Int32.lt_iff_toInt_lt, Int32.le_iff_toInt_le, ← Int32.toInt_inj, Decidable.not_not] at *; omega))]; rfl), rfl, rfl⟩) dX8_isBlank_17
  · refine g_iload_n dX8_isBlank_6 rfl ?_
    refine g_bipush (nI 10) dX8_isBlank_7 (by decide) ?_
    refine g_icmp_ne 16 dX8_isBlank_9 (by decide) (fun c_9 => ?_) (fun c_9 => ?_)
    · refine g_iconst (nI 0) dX8_isBlank_16 (by decide) ?_
      exact g_iret hE rfl (⟨by first | (rw [b2i_t (decide_eq_true (by simp only [Int32.lt_iff_toInt_lt, Int32.le_iff_toInt_le, ← Int32.toInt_inj, Decidable.not_not] at *; omega))]; rfl) | (rw [b2i_f (decide_eq_false (by simp only [Int32.lt_iff_toInt_lt, Int32.le_iff_toInt_le, ← Int32.toInt_inj, Decidable.not_not] at *; omega))]; rfl), rfl, rfl⟩) dX8_isBlank_17
    · refine g_iconst (nI 1) dX8_isBlank_12 (by decide) ?_
      refine g_goto 17 dX8_isBlank_13 (by decide) ?_
      exact g_iret hE rfl (⟨by first | (rw [b2i_t (decide_eq_true (by simp only [Int32.lt_iff_toInt_lt, Int32.le_iff_toInt_le, ← Int32.toInt_inj, Decidable.not_not] at *; omega))]; rfl) | (rw [b2i_f (decide_eq_false (by simp only [Int32.lt_iff_toInt_lt, Int32.le_iff_toInt_le, ← Int32.toInt_inj, Decidable.not_not] at *; omega))]; rfl), rfl, rfl⟩) dX8_isBlank_17
set_option maxRecDepth 100000 in
set_option maxHeartbeats 4000000 in
theorem m8_isLetter {X : gX} {h : gH} {z : Nat} (x : Int32) : gM X yX8_isLetter cX8_isLetter 1 (some .boolean) (1, 0, 0) [.int x] h z (pR h z (b2i (isLe x))) gNoX := by
  refine gM.of px8 (Nat.le_of_ble_eq_true rfl) ?_
  intro F hE
  refine g_iload_n dX8_isLetter_0 rfl ?_
  refine g_bipush (nI 97) dX8_isLetter_1 (by decide) ?_
  refine g_icmp_lt 16 dX8_isLetter_3 (by decide) (fun c_3 => ?_) (fun c_3 => ?_)
  · refine g_iconst (nI 0) dX8_isLetter_16 (by decide) ?_
    exact g_iret hE rfl (⟨by first | (rw [b2i_t (decide_eq_true (by simp only [Int32.lt_iff_toInt_lt, Int32.le_iff_toInt_le, ← Int32.toInt_inj, Decidable.not_not] at *; omega))]; rfl) | (rw [b2i_f (decide_eq_false (by simp only [Int32.lt_iff_toInt_lt, Int32.le_iff_toInt_le, ← Int32.toInt_inj, Decidable.not_not] at *; omega))]; rfl), rfl, rfl⟩) dX8_isLetter_17
  · refine g_iload_n dX8_isLetter_6 rfl ?_
    refine g_bipush (nI 122) dX8_isLetter_7 (by decide) ?_
    refine g_icmp_gt 16 dX8_isLetter_9 (by decide) (fun c_9 => ?_) (fun c_9 => ?_)
    · refine g_iconst (nI 0) dX8_isLetter_16 (by decide) ?_
      exact g_iret hE rfl (⟨by first | (rw [b2i_t (decide_eq_true (by simp only [Int32.lt_iff_toInt_lt, Int32.le_iff_toInt_le, ← Int32.toInt_inj, Decidable.not_not] at *; omega))]; rfl) | (rw [b2i_f (decide_eq_false (by simp only [Int32.lt_iff_toInt_lt, Int32.le_iff_toInt_le, ← Int32.toInt_inj, Decidable.not_not] at *; omega))]; rfl), rfl, rfl⟩) dX8_isLetter_17
    · refine g_iconst (nI 1) dX8_isLetter_12 (by decide) ?_
      refine g_goto 17 dX8_isLetter_13 (by decide) ?_
      exact g_iret hE rfl (⟨by first | (rw [b2i_t (decide_eq_true (by simp only [Int32.lt_iff_toInt_lt, Int32.le_iff_toInt_le, ← Int32.toInt_inj, Decidable.not_not] at *; omega))]; rfl) | (rw [b2i_f (decide_eq_false (by simp only [Int32.lt_iff_toInt_lt, Int32.le_iff_toInt_le, ← Int32.toInt_inj, Decidable.not_not] at *; omega))]; rfl), rfl, rfl⟩) dX8_isLetter_17
set_option maxRecDepth 100000 in
set_option maxHeartbeats 4000000 in
theorem m8_isDigit {X : gX} {h : gH} {z : Nat} (x : Int32) : gM X yX8_isDigit cX8_isDigit 1 (some .boolean) (1, 0, 0) [.int x] h z (pR h z (b2i (isDi x))) gNoX := by
  refine gM.of px8 (Nat.le_of_ble_eq_true rfl) ?_
  intro F hE
  refine g_iload_n dX8_isDigit_0 rfl ?_
  refine g_bipush (nI 48) dX8_isDigit_1 (by decide) ?_
  refine g_icmp_lt 16 dX8_isDigit_3 (by decide) (fun c_3 => ?_) (fun c_3 => ?_)
  · refine g_iconst (nI 0) dX8_isDigit_16 (by decide) ?_
    exact g_iret hE rfl (⟨by first | (rw [b2i_t (decide_eq_true (by simp only [Int32.lt_iff_toInt_lt, Int32.le_iff_toInt_le, ← Int32.toInt_inj, Decidable.not_not] at *; omega))]; rfl) | (rw [b2i_f (decide_eq_false (by simp only [Int32.lt_iff_toInt_lt, Int32.le_iff_toInt_le, ← Int32.toInt_inj, Decidable.not_not] at *; omega))]; rfl), rfl, rfl⟩) dX8_isDigit_17
  · refine g_iload_n dX8_isDigit_6 rfl ?_
    refine g_bipush (nI 57) dX8_isDigit_7 (by decide) ?_
    refine g_icmp_gt 16 dX8_isDigit_9 (by decide) (fun c_9 => ?_) (fun c_9 => ?_)
    · refine g_iconst (nI 0) dX8_isDigit_16 (by decide) ?_
      exact g_iret hE rfl (⟨by first | (rw [b2i_t (decide_eq_true (by simp only [Int32.lt_iff_toInt_lt, Int32.le_iff_toInt_le, ← Int32.toInt_inj, Decidable.not_not] at *; omega))]; rfl) | (rw [b2i_f (decide_eq_false (by simp only [Int32.lt_iff_toInt_lt, Int32.le_iff_toInt_le, ← Int32.toInt_inj, Decidable.not_not] at *; omega))]; rfl), rfl, rfl⟩) dX8_isDigit_17
    · refine g_iconst (nI 1) dX8_isDigit_12 (by decide) ?_
      refine g_goto 17 dX8_isDigit_13 (by decide) ?_
      exact g_iret hE rfl (⟨by first | (rw [b2i_t (decide_eq_true (by simp only [Int32.lt_iff_toInt_lt, Int32.le_iff_toInt_le, ← Int32.toInt_inj, Decidable.not_not] at *; omega))]; rfl) | (rw [b2i_f (decide_eq_false (by simp only [Int32.lt_iff_toInt_lt, Int32.le_iff_toInt_le, ← Int32.toInt_inj, Decidable.not_not] at *; omega))]; rfl), rfl, rfl⟩) dX8_isDigit_17
set_option maxRecDepth 100000 in
set_option maxHeartbeats 4000000 in
theorem m12_isSmall {X : gX} {h : gH} {z : Nat} (x : Int32) : gM X yX12_isSmall cX12_isSmall 1 (some .boolean) (1, 0, 0) [.int x] h z (pR h z (b2i (isLe x))) gNoX := by
  refine gM.of px12 (Nat.le_of_ble_eq_true rfl) ?_
  intro F hE
  refine g_iload_n dX12_isSmall_0 rfl ?_
  refine g_bipush (nI 97) dX12_isSmall_1 (by decide) ?_
  refine g_icmp_lt 16 dX12_isSmall_3 (by decide) (fun c_3 => ?_) (fun c_3 => ?_)
  · refine g_iconst (nI 0) dX12_isSmall_16 (by decide) ?_
    exact g_iret hE rfl (⟨by first | (rw [b2i_t (decide_eq_true (by simp only [Int32.lt_iff_toInt_lt, Int32.le_iff_toInt_le, ← Int32.toInt_inj, Decidable.not_not] at *; omega))]; rfl) | (rw [b2i_f (decide_eq_false (by simp only [Int32.lt_iff_toInt_lt, Int32.le_iff_toInt_le, ← Int32.toInt_inj, Decidable.not_not] at *; omega))]; rfl), rfl, rfl⟩) dX12_isSmall_17
  · refine g_iload_n dX12_isSmall_6 rfl ?_
    refine g_bipush (nI 122) dX12_isSmall_7 (by decide) ?_
    refine g_icmp_gt 16 dX12_isSmall_9 (by decide) (fun c_9 => ?_) (fun c_9 => ?_)
    · refine g_iconst (nI 0) dX12_isSmall_16 (by decide) ?_
      exact g_iret hE rfl (⟨by first | (rw [b2i_t (decide_eq_true (by simp only [Int32.lt_iff_toInt_lt, Int32.le_iff_toInt_le, ← Int32.toInt_inj, Decidable.not_not] at *; omega))]; rfl) | (rw [b2i_f (decide_eq_false (by simp only [Int32.lt_iff_toInt_lt, Int32.le_iff_toInt_le, ← Int32.toInt_inj, Decidable.not_not] at *; omega))]; rfl), rfl, rfl⟩) dX12_isSmall_17
    · refine g_iconst (nI 1) dX12_isSmall_12 (by decide) ?_
      refine g_goto 17 dX12_isSmall_13 (by decide) ?_
      exact g_iret hE rfl (⟨by first | (rw [b2i_t (decide_eq_true (by simp only [Int32.lt_iff_toInt_lt, Int32.le_iff_toInt_le, ← Int32.toInt_inj, Decidable.not_not] at *; omega))]; rfl) | (rw [b2i_f (decide_eq_false (by simp only [Int32.lt_iff_toInt_lt, Int32.le_iff_toInt_le, ← Int32.toInt_inj, Decidable.not_not] at *; omega))]; rfl), rfl, rfl⟩) dX12_isSmall_17
set_option maxRecDepth 100000 in
set_option maxHeartbeats 4000000 in
theorem m12_isDigit {X : gX} {h : gH} {z : Nat} (x : Int32) : gM X yX12_isDigit cX12_isDigit 1 (some .boolean) (1, 0, 0) [.int x] h z (pR h z (b2i (isDi x))) gNoX := by
  refine gM.of px12 (Nat.le_of_ble_eq_true rfl) ?_
  intro F hE
  refine g_iload_n dX12_isDigit_0 rfl ?_
  refine g_bipush (nI 48) dX12_isDigit_1 (by decide) ?_
  refine g_icmp_lt 16 dX12_isDigit_3 (by decide) (fun c_3 => ?_) (fun c_3 => ?_)
  · refine g_iconst (nI 0) dX12_isDigit_16 (by decide) ?_
    exact g_iret hE rfl (⟨by first | (rw [b2i_t (decide_eq_true (by simp only [Int32.lt_iff_toInt_lt, Int32.le_iff_toInt_le, ← Int32.toInt_inj, Decidable.not_not] at *; omega))]; rfl) | (rw [b2i_f (decide_eq_false (by simp only [Int32.lt_iff_toInt_lt, Int32.le_iff_toInt_le, ← Int32.toInt_inj, Decidable.not_not] at *; omega))]; rfl), rfl, rfl⟩) dX12_isDigit_17
  · refine g_iload_n dX12_isDigit_6 rfl ?_
    refine g_bipush (nI 57) dX12_isDigit_7 (by decide) ?_
    refine g_icmp_gt 16 dX12_isDigit_9 (by decide) (fun c_9 => ?_) (fun c_9 => ?_)
    · refine g_iconst (nI 0) dX12_isDigit_16 (by decide) ?_
      exact g_iret hE rfl (⟨by first | (rw [b2i_t (decide_eq_true (by simp only [Int32.lt_iff_toInt_lt, Int32.le_iff_toInt_le, ← Int32.toInt_inj, Decidable.not_not] at *; omega))]; rfl) | (rw [b2i_f (decide_eq_false (by simp only [Int32.lt_iff_toInt_lt, Int32.le_iff_toInt_le, ← Int32.toInt_inj, Decidable.not_not] at *; omega))]; rfl), rfl, rfl⟩) dX12_isDigit_17
    · refine g_iconst (nI 1) dX12_isDigit_12 (by decide) ?_
      refine g_goto 17 dX12_isDigit_13 (by decide) ?_
      exact g_iret hE rfl (⟨by first | (rw [b2i_t (decide_eq_true (by simp only [Int32.lt_iff_toInt_lt, Int32.le_iff_toInt_le, ← Int32.toInt_inj, Decidable.not_not] at *; omega))]; rfl) | (rw [b2i_f (decide_eq_false (by simp only [Int32.lt_iff_toInt_lt, Int32.le_iff_toInt_le, ← Int32.toInt_inj, Decidable.not_not] at *; omega))]; rfl), rfl, rfl⟩) dX12_isDigit_17
set_option maxRecDepth 100000 in
set_option maxHeartbeats 4000000 in
theorem m12_isIn {X : gX} {h : gH} {z : Nat} (x y w : Int32) : gM X yX12_isIn cX12_isIn 3 (some .boolean) (1, 0, 0) [.int x, .int y, .int w] h z (pR h z (b2i (decide (y ≤ x ∧ x ≤ w)))) gNoX := by
  refine gM.of px12 (Nat.le_of_ble_eq_true rfl) ?_
  intro F hE
  refine g_iload_n dX12_isIn_0 rfl ?_
  refine g_iload_n dX12_isIn_1 rfl ?_
  refine g_icmp_lt 14 dX12_isIn_2 (by decide) (fun c_2 => ?_) (fun c_2 => ?_)
  · refine g_iconst (nI 0) dX12_isIn_14 (by decide) ?_
    exact g_iret hE rfl (⟨by first | (rw [b2i_t (decide_eq_true (by simp only [Int32.lt_iff_toInt_lt, Int32.le_iff_toInt_le, ← Int32.toInt_inj, Decidable.not_not] at *; omega))]; rfl) | (rw [b2i_f (decide_eq_false (by simp only [Int32.lt_iff_toInt_lt, Int32.le_iff_toInt_le, ← Int32.toInt_inj, Decidable.not_not] at *; omega))]; rfl), rfl, rfl⟩) dX12_isIn_15
  · refine g_iload_n dX12_isIn_5 rfl ?_
    refine g_iload_n dX12_isIn_6 rfl ?_
    refine g_icmp_gt 14 dX12_isIn_7 (by decide) (fun c_7 => ?_) (fun c_7 => ?_)
    · refine g_iconst (nI 0) dX12_isIn_14 (by decide) ?_
      exact g_iret hE rfl (⟨by first | (rw [b2i_t (decide_eq_true (by simp only [Int32.lt_iff_toInt_lt, Int32.le_iff_toInt_le, ← Int32.toInt_inj, Decidable.not_not] at *; omega))]; rfl) | (rw [b2i_f (decide_eq_false (by simp only [Int32.lt_iff_toInt_lt, Int32.le_iff_toInt_le, ← Int32.toInt_inj, Decidable.not_not] at *; omega))]; rfl), rfl, rfl⟩) dX12_isIn_15
    · refine g_iconst (nI 1) dX12_isIn_10 (by decide) ?_
      refine g_goto 15 dX12_isIn_11 (by decide) ?_
      exact g_iret hE rfl (⟨by first | (rw [b2i_t (decide_eq_true (by simp only [Int32.lt_iff_toInt_lt, Int32.le_iff_toInt_le, ← Int32.toInt_inj, Decidable.not_not] at *; omega))]; rfl) | (rw [b2i_f (decide_eq_false (by simp only [Int32.lt_iff_toInt_lt, Int32.le_iff_toInt_le, ← Int32.toInt_inj, Decidable.not_not] at *; omega))]; rfl), rfl, rfl⟩) dX12_isIn_15
set_option maxRecDepth 100000 in
set_option maxHeartbeats 4000000 in
theorem m8_isLetterOrDigit {X : gX} {h : gH} {z : Nat} (x : Int32) : gM X yX8_isLetterOrDigit cX8_isLetterOrDigit 1 (some .boolean) (2, 0, 0) [.int x] h z (pR h z (b2i (isLe x || isDi x))) gNoX := by
  refine gM.of px8 (Nat.le_of_ble_eq_true rfl) ?_
  intro F hE
  refine g_iload_n dX8_isLetterOrDigit_0 rfl ?_
  refine g_callS0 kX8_93 (m8_isLetter x) rfl rfl (Nat.le_of_ble_eq_true rfl) (by decide) (by decide) (by decide) (by decide) dX8_isLetterOrDigit_1 ?_
  rintro v1 h1 z1 ⟨rfl, rfl, rfl⟩
  refine g_if_neB 14 dX8_isLetterOrDigit_4 (by decide) (fun c_4 => ?_) (fun c_4 => ?_)
  · refine g_iconst (nI 1) dX8_isLetterOrDigit_14 (by decide) ?_
    refine g_goto 19 dX8_isLetterOrDigit_15 (by decide) ?_
    exact g_iret hE rfl (⟨by rw [c_4]; rfl, rfl, rfl⟩) dX8_isLetterOrDigit_19
  · refine g_iload_n dX8_isLetterOrDigit_7 rfl ?_
    refine g_callS0 kX8_78 (m8_isDigit x) rfl rfl (Nat.le_of_ble_eq_true rfl) (by decide) (by decide) (by decide) (by decide) dX8_isLetterOrDigit_8 ?_
    rintro v1 h1 z1 ⟨rfl, rfl, rfl⟩
    refine g_if_eqB 18 dX8_isLetterOrDigit_11 (by decide) (fun c_11 => ?_) (fun c_11 => ?_)
    · refine g_iconst (nI 0) dX8_isLetterOrDigit_18 (by decide) ?_
      exact g_iret hE rfl (⟨by rw [c_4, c_11]; rfl, rfl, rfl⟩) dX8_isLetterOrDigit_19
    · refine g_iconst (nI 1) dX8_isLetterOrDigit_14 (by decide) ?_
      refine g_goto 19 dX8_isLetterOrDigit_15 (by decide) ?_
      exact g_iret hE rfl (⟨by rw [c_4, c_11]; rfl, rfl, rfl⟩) dX8_isLetterOrDigit_19
set_option maxRecDepth 100000 in
set_option maxHeartbeats 4000000 in
theorem m3_truth {X : gX} {h : gH} {z : Nat} (b : Bool) : gM X yX3_truth cX3_truth 1 (some .int) (1, 0, 0) [.int (b2i b)] h z (pR h z (b2i b)) gNoX := by
  refine gM.of px3 (Nat.le_of_ble_eq_true rfl) ?_
  intro F hE
  refine g_iload_n dX3_truth_0 rfl ?_
  refine g_if_eqB 8 dX3_truth_1 (by decide) (fun c_1 => ?_) (fun c_1 => ?_)
  · refine g_iconst (nI 0) dX3_truth_8 (by decide) ?_
    exact g_iret hE rfl (⟨by rw [c_1]; rfl, rfl, rfl⟩) dX3_truth_9
  · refine g_iconst (nI 1) dX3_truth_4 (by decide) ?_
    refine g_goto 9 dX3_truth_5 (by decide) ?_
    exact g_iret hE rfl (⟨by rw [c_1]; rfl, rfl, rfl⟩) dX3_truth_9
set_option maxRecDepth 100000 in
set_option maxHeartbeats 4000000 in
theorem m12_one {X : gX} {h : gH} {z : Nat} (b : Bool) : gM X yX12_one cX12_one 1 (some .int) (1, 0, 0) [.int (b2i b)] h z (pR h z (b2i b)) gNoX := by
  refine gM.of px12 (Nat.le_of_ble_eq_true rfl) ?_
  intro F hE
  refine g_iload_n dX12_one_0 rfl ?_
  refine g_if_eqB 8 dX12_one_1 (by decide) (fun c_1 => ?_) (fun c_1 => ?_)
  · refine g_iconst (nI 0) dX12_one_8 (by decide) ?_
    exact g_iret hE rfl (⟨by rw [c_1]; rfl, rfl, rfl⟩) dX12_one_9
  · refine g_iconst (nI 1) dX12_one_4 (by decide) ?_
    refine g_goto 9 dX12_one_5 (by decide) ?_
    exact g_iret hE rfl (⟨by rw [c_1]; rfl, rfl, rfl⟩) dX12_one_9
/-- a sign of a name as a digit of base 37 -/
def sgn (x : Int32) : Int32 := if isLe x = true then x - nI 97 + nI 1 else x - nI 48 + nI 27
set_option maxRecDepth 100000 in
set_option maxHeartbeats 4000000 in
theorem m12_letter {X : gX} {h : gH} {z : Nat} (x : Int32) : gM X yX12_letter cX12_letter 1 (some .int) (2, 0, 0) [.int x] h z (pR h z (sgn x)) gNoX := by
  refine gM.of px12 (Nat.le_of_ble_eq_true rfl) ?_
  intro F hE
  refine g_iload_n dX12_letter_0 rfl ?_
  refine g_callS0 kX12_227 (m12_isSmall x) rfl rfl (Nat.le_of_ble_eq_true rfl) (by decide) (by decide) (by decide) (by decide) dX12_letter_1 ?_
  rintro v1 h1 z1 ⟨rfl, rfl, rfl⟩
  refine g_if_eqB 16 dX12_letter_4 (by decide) (fun c_4 => ?_) (fun c_4 => ?_)
  · refine g_iload_n dX12_letter_16 rfl ?_
    refine g_bipush (nI 48) dX12_letter_17 (by decide) ?_
    refine g_isub dX12_letter_19 ?_
    refine g_bipush (nI 27) dX12_letter_20 (by decide) ?_
    refine g_iadd dX12_letter_22 ?_
    exact g_iret hE rfl (⟨by rw [sgn, if_neg (by rw [c_4]; decide)], rfl, rfl⟩) dX12_letter_23
  · refine g_iload_n dX12_letter_7 rfl ?_
    refine g_bipush (nI 97) dX12_letter_8 (by decide) ?_
    refine g_isub dX12_letter_10 ?_
    refine g_iconst (nI 1) dX12_letter_11 (by decide) ?_
    refine g_iadd dX12_letter_12 ?_
    refine g_goto 23 dX12_letter_13 (by decide) ?_
    exact g_iret hE rfl (⟨by rw [sgn, if_pos c_4], rfl, rfl⟩) dX12_letter_23
