/-! both sides' numbers are one: all different phrases -/
def sumU (f : Nat → Nat) : Nat → Nat
  | 0 => 0
  | n + 1 => sumU f n + f n
theorem sumU_congr {f g : Nat → Nat} : ∀ {n : Nat}, (∀ i, i < n → f i = g i) → sumU f n = sumU g n := by
  intro n
  induction n with
  | zero => intro _; rfl
  | succ n ih => intro h; show sumU f n + f n = sumU g n + g n; rw [ih (fun i hi => h i (by omega)), h n (by omega)]
theorem sumU_add (f g : Nat → Nat) (n : Nat) : sumU (fun i => f i + g i) n = sumU f n + sumU g n := by
  induction n with
  | zero => rfl
  | succ n ih => show sumU (fun i => f i + g i) n + (f n + g n) = (sumU f n + f n) + (sumU g n + g n); omega
theorem sumU_cnt (P : Nat → Bool) (n : Nat) : sumU (fun i => if P i = true then 1 else 0) n = cnt P n := by
  induction n with
  | zero => rfl
  | succ n ih => show sumU (fun i => if P i = true then 1 else 0) n + (if P n = true then 1 else 0) = cnt P n + (if P n = true then 1 else 0); rw [ih]
/-- counted by columns as by rows -/
theorem cnt_swap (P : Nat → Nat → Bool) (N : Nat) : ∀ n : Nat, sumU (fun k => cnt (P k) n) N = sumU (fun p => cnt (fun k => P k p) N) n := by
  intro n
  induction n with
  | zero =>
    show sumU (fun k => 0) N = 0
    induction N with
    | zero => rfl
    | succ N ih => exact ih
  | succ n ih =>
    show sumU (fun k => cnt (P k) n + (if P k n = true then 1 else 0)) N = sumU (fun p => cnt (fun k => P k p) N) n + cnt (fun k => P k n) N
    rw [sumU_add, ih, sumU_cnt (fun k => P k n)]
theorem cnt_ival {a b : Nat} : ∀ {n : Nat}, cnt (fun i => decide (a ≤ i ∧ i < b)) n = min b n - a := by
  intro n
  induction n with
  | zero => show 0 = _; omega
  | succ n ih =>
    show cnt (fun i => decide (a ≤ i ∧ i < b)) n + (if decide (a ≤ n ∧ n < b) = true then 1 else 0) = _
    rw [ih]
    by_cases h : a ≤ n ∧ n < b
    · rw [if_pos (decide_eq_true h)]; omega
    · rw [if_neg (by rw [decide_eq_false h]; decide)]; omega
theorem inU_iff {L : List Int32} {p k : Nat} : isF L p (k + 1) = true ↔ inU L p p ≤ k := by
  rw [isF_iff]
  constructor
  · intro h
    exact inU_of fun q hq => by have := h q hq; omega
  · intro h q hq
    have := inU_ge (L := L) (p := p) hq
    omega
theorem akU_sum (L : List Int32) : ∀ m : Nat, akU L m = sumU (fun p => L.length - p - inU L p p) m := by
  intro m
  induction m with
  | zero => rfl
  | succ m ih => rw [akU_s, ih]; rfl
theorem smsU_sum (L : List Int32) : ∀ m : Nat, smsU L m = sumU (shr L) m := by
  intro m
  induction m with
  | zero => rfl
  | succ m ih => show smsU L m + shr L m = sumU (shr L) m + shr L m; rw [ih]
theorem kw_row {L : List Int32} {p : Nat} (hp : p < L.length) : cnt (fun i => kwP L (i + 1) 1 p) L.length = L.length - p - inU L p p := by
  rw [cnt_congr (Q := fun i => decide (inU L p p ≤ i ∧ i < L.length - p)) (fun i hi => ?_), cnt_ival]
  · omega
  · unfold kwP
    by_cases h1 : p + (i + 1) ≤ L.length
    · have h3 : 1 ≤ cnt (stP L p (i + 1)) L.length := cnt_pos hp (by unfold stP; rw [lcp_self (by omega)]; exact decide_eq_true (by omega))
      rw [decide_eq_true h1, decide_eq_true h3]
      simp only [Bool.true_and, Bool.and_true]
      cases h2 : isF L p (i + 1) with
      | true => rw [inU_iff] at h2; exact (decide_eq_true ⟨h2, by omega⟩).symm
      | false =>
        refine (decide_eq_false fun x => ?_).symm
        rw [← inU_iff] at x
        rw [x.1] at h2; cases h2
    · rw [decide_eq_false h1, Bool.false_and]
      exact (decide_eq_false (by omega)).symm
theorem dp_row {L : List Int32} {r : Nat} (hr : r < L.length) : cnt (fun i => dpP L (i + 1) r) L.length + shr L r = L.length - plc L r := by
  have h1 := (plc_spec hr).1
  have h2 : shr L r ≤ L.length - plc L r := by
    unfold shr
    split
    · omega
    · have := lcp_le' (L := L) (p := plc L (r - 1)) (q := plc L r) (by omega); omega
  rw [cnt_congr (Q := fun i => decide (shr L r ≤ i ∧ i < L.length - plc L r)) (fun i hi => ?_), cnt_ival]
  · omega
  · unfold dpP
    exact decide_eq_decide.mpr (by omega)
theorem cnt_perm (L : List Int32) (P : Nat → Bool) : cnt (fun r => P (plc L r)) L.length = cnt P L.length := by
  refine Nat.le_antisymm (cnt_inj (φ := plc L) _ _ (fun r hr hP => ⟨(plc_spec hr).1, hP⟩) (fun r s hr hs _ _ e => ?_)) (cnt_inj (φ := rk L) _ _ (fun p hp hP => ⟨rk_lt hp, by show P (plc L (rk L p)) = true; rw [plc_rk hp]; exact hP⟩) (fun p q hp hq _ _ e => rk_inj hp hq e))
  have h1 := (plc_spec hr).2
  have h2 := (plc_spec hs).2
  rw [e] at h1; omega
theorem sum_perm (L : List Int32) : sumU (fun r => L.length - plc L r) L.length = sumU (fun p => L.length - p) L.length := by
  have e : ∀ x, L.length - x = cnt (fun i => decide (0 ≤ i ∧ i < L.length - x)) L.length := fun x => by rw [cnt_ival]; omega
  rw [sumU_congr (g := fun r => cnt (fun i => decide (0 ≤ i ∧ i < L.length - plc L r)) L.length) (fun r _ => e _), sumU_congr (f := fun p => L.length - p) (g := fun p => cnt (fun i => decide (0 ≤ i ∧ i < L.length - p)) L.length) (fun r _ => e _)]
  rw [← cnt_swap (fun i r => decide (0 ≤ i ∧ i < L.length - plc L r)), ← cnt_swap (fun i p => decide (0 ≤ i ∧ i < L.length - p))]
  exact sumU_congr fun i _ => cnt_perm L (fun p => decide (0 ≤ i ∧ i < L.length - p))
theorem gauss (n : Nat) : ∀ m : Nat, m ≤ n → 2 * sumU (fun p => n - p) m + m * m = m * (2 * n + 1) := by
  intro m
  induction m with
  | zero => intro _; simp [sumU]
  | succ m ih =>
    intro h
    have h1 := ih (by omega)
    have h2 : (m + 1) * (m + 1) = m * m + 2 * m + 1 := by rw [Nat.add_mul, Nat.mul_add]; omega
    have h3 : (m + 1) * (2 * n + 1) = m * (2 * n + 1) + (2 * n + 1) := Nat.succ_mul _ _
    show 2 * (sumU (fun p => n - p) m + (n - m)) + _ = _
    rw [h2, h3]
    omega
/-- all different phrases, both ways -/
theorem kinds_all (L : List Int32) : akU L L.length + sms L = L.length * (L.length + 1) / 2 := by
  have e1 : akU L L.length = sumU (fun i => cnt (kwP L (i + 1) 1) L.length) L.length := by
    rw [akU_sum, cnt_swap (fun i p => kwP L (i + 1) 1 p)]
    exact sumU_congr fun p hp => (kw_row hp).symm
  have e2 : sumU (fun i => cnt (kwP L (i + 1) 1) L.length) L.length = sumU (fun i => cnt (dpP L (i + 1)) L.length) L.length := sumU_congr fun i _ => kinds_eq (by omega)
  have e3 : sumU (fun i => cnt (dpP L (i + 1)) L.length) L.length + sms L = sumU (fun p => L.length - p) L.length := by
    rw [cnt_swap (fun i r => dpP L (i + 1) r)]
    show _ + smsU L L.length = _
    rw [smsU_sum, ← sumU_add, ← sum_perm]
    exact sumU_congr fun r hr => dp_row hr
  rw [e1, e2, e3]
  have g := gauss L.length L.length (Nat.le_refl _)
  have h4 : L.length * (2 * L.length + 1) = 2 * (L.length * L.length) + L.length := by rw [Nat.mul_add, Nat.mul_one, Nat.mul_left_comm]
  have h5 : L.length * (L.length + 1) = L.length * L.length + L.length := by rw [Nat.mul_add, Nat.mul_one]
  rw [h5]
  omega
