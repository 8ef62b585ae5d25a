/-! ranks by pairs, what neighbours share -/
def rkdP (L : List Int32) (d p : Nat) : Nat → Bool := fun q => (q != p) && decide (q < p + d) && decide (p < q + d) && ahd L q p
def rkd (L : List Int32) (d p : Nat) : Nat := cnt (rkdP L d p) L.length
theorem rkd_one (L : List Int32) (p : Nat) : rkd L 1 p = 0 := by
  refine cnt_none fun i hi => ?_
  unfold rkdP
  by_cases e : i = p
  · simp [e]
  · have : ¬ (i < p + 1 ∧ p < i + 1) := by omega
    by_cases a : i < p + 1 <;> by_cases b : p < i + 1 <;> simp [a, b] <;> omega
theorem rkd_all {L : List Int32} {d p : Nat} (hd : L.length ≤ d) (hp : p < L.length) : rkd L d p = rk L p := by
  refine cnt_congr fun i hi => ?_
  unfold rkdP rkP
  rw [decide_eq_true (show i < p + d by omega), decide_eq_true (show p < i + d by omega)]
  simp
theorem rkd_step {L : List Int32} {d p : Nat} (hd : 1 ≤ d) (hp : p < L.length) : rkd L (d + 1) p = rkd L d p + (if p + d < L.length ∧ ahd L (p + d) p = true then 1 else 0) + (if d ≤ p ∧ ahd L (p - d) p = true then 1 else 0) := by
  have e1 : cnt (fun q => rkdP L d p q || ((q == p + d) && ahd L q p)) L.length = rkd L d p + (if p + d < L.length ∧ ahd L (p + d) p = true then 1 else 0) := by
    rw [cnt_add (P := rkdP L d p) (x := p + d) (fun i hi hne => by simp [hne]) (fun _ => by unfold rkdP; simp)]
    simp [rkd, rkdP]
  rw [← e1]
  by_cases h : d ≤ p
  · have := cnt_add (P := fun q => rkdP L d p q || ((q == p + d) && ahd L q p)) (Q := rkdP L (d + 1) p) (x := p - d) (n := L.length) (fun i hi hne => by
      unfold rkdP
      by_cases a : i = p
      · subst a; simp; omega
      · by_cases b : i = p + d
        · subst b; simp; omega
        · rw [show decide (i < p + (d + 1)) = decide (i < p + d) from decide_eq_decide.mpr (by omega), show decide (p < i + (d + 1)) = decide (p < i + d) from decide_eq_decide.mpr (by omega)]
          simp [b]) (fun hx => by unfold rkdP; simp; constructor <;> omega)
    show cnt (rkdP L (d + 1) p) L.length = _
    rw [this]
    have h2 : rkdP L (d + 1) p (p - d) = ahd L (p - d) p := by
      unfold rkdP
      rw [decide_eq_true (show p - d < p + (d + 1) by omega), decide_eq_true (show p < p - d + (d + 1) by omega)]
      simp; omega
    rw [h2]
    have h3 : (p - d < L.length ∧ ahd L (p - d) p = true) ↔ (d ≤ p ∧ ahd L (p - d) p = true) := ⟨fun ⟨a, b⟩ => ⟨h, b⟩, fun ⟨a, b⟩ => ⟨by omega, b⟩⟩
    simp only [h3]
  · rw [if_neg (fun x => h x.1), Nat.add_zero]
    show cnt (rkdP L (d + 1) p) L.length = _
    refine cnt_congr fun i hi => ?_
    unfold rkdP
    by_cases a : i = p
    · subst a; simp; omega
    · by_cases b : i = p + d
      · subst b; simp; omega
      · rw [show decide (i < p + (d + 1)) = decide (i < p + d) from decide_eq_decide.mpr (by omega), show decide (p < i + (d + 1)) = decide (p < i + d) from decide_eq_decide.mpr (by omega)]
        simp [b]
/-- the ranks while the pairs d apart are looked at, from the place m on -/
def mid (L : List Int32) (d m p : Nat) : Nat := rkd L d p + (if m ≤ p ∧ p + d < L.length ∧ ahd L (p + d) p = true then 1 else 0) + (if m + d ≤ p ∧ ahd L (p - d) p = true then 1 else 0)
theorem mid_top {L : List Int32} {d m p : Nat} (hd : 1 ≤ d) (hm : L.length ≤ m + d) (hp : p < L.length) : mid L d m p = rkd L d p := by
  unfold mid
  rw [if_neg (by omega), if_neg (by omega)]
  omega
theorem mid_zero {L : List Int32} {d p : Nat} (hd : 1 ≤ d) (hp : p < L.length) : mid L d 0 p = rkd L (d + 1) p := by
  rw [rkd_step hd hp]
  unfold mid
  simp
theorem mid_step_t {L : List Int32} {d k p : Nat} (hd : 1 ≤ d) (hk : k + d < L.length) (hp : p < L.length) (h : ahd L (k + d) k = true) : mid L d k p = mid L d (k + 1) p + if p = k then 1 else 0 := by
  have h' : ahd L k (k + d) = false := ahd_asymm h
  unfold mid
  by_cases e : p = k
  · subst e
    rw [if_pos (show p ≤ p ∧ _ from ⟨Nat.le_refl _, hk, h⟩), if_neg (show ¬ (p + 1 ≤ p ∧ _) from fun x => by omega), if_neg (show ¬ (p + d ≤ p ∧ _) from fun x => by omega), if_neg (show ¬ (p + 1 + d ≤ p ∧ _) from fun x => by omega), if_pos rfl]
  · have a : (k ≤ p ∧ p + d < L.length ∧ ahd L (p + d) p = true) ↔ (k + 1 ≤ p ∧ p + d < L.length ∧ ahd L (p + d) p = true) := ⟨fun x => ⟨by omega, x.2⟩, fun x => ⟨by omega, x.2⟩⟩
    have b : (k + d ≤ p ∧ ahd L (p - d) p = true) ↔ (k + 1 + d ≤ p ∧ ahd L (p - d) p = true) := by
      refine ⟨fun x => ⟨?_, x.2⟩, fun x => ⟨by omega, x.2⟩⟩
      by_cases c : p = k + d
      · subst c
        rw [Nat.add_sub_cancel, h'] at x
        cases x.2
      · omega
    simp only [a, b, if_neg e]
    omega
theorem mid_step_f {L : List Int32} {d k p : Nat} (hd : 1 ≤ d) (hk : k + d < L.length) (hp : p < L.length) (h : ahd L (k + d) k = false) : mid L d k p = mid L d (k + 1) p + if p = k + d then 1 else 0 := by
  have h' : ahd L k (k + d) = true := by rw [ahd_not (by omega) hk (by omega), h]; rfl
  unfold mid
  by_cases e : p = k + d
  · subst e
    rw [if_pos (show k + d ≤ k + d ∧ _ from ⟨Nat.le_refl _, by rw [Nat.add_sub_cancel]; exact h'⟩), if_neg (show ¬ (k + 1 + d ≤ k + d ∧ _) from fun x => by omega), if_pos rfl]
    have a : (k ≤ k + d ∧ k + d + d < L.length ∧ ahd L (k + d + d) (k + d) = true) ↔ (k + 1 ≤ k + d ∧ k + d + d < L.length ∧ ahd L (k + d + d) (k + d) = true) := ⟨fun x => ⟨by omega, x.2⟩, fun x => ⟨by omega, x.2⟩⟩
    simp only [a]
  · have a : (k ≤ p ∧ p + d < L.length ∧ ahd L (p + d) p = true) ↔ (k + 1 ≤ p ∧ p + d < L.length ∧ ahd L (p + d) p = true) := by
      refine ⟨fun x => ⟨?_, x.2⟩, fun x => ⟨by omega, x.2⟩⟩
      by_cases c : p = k
      · subst c
        rw [h] at x
        cases x.2.2
      · omega
    have b : (k + d ≤ p ∧ ahd L (p - d) p = true) ↔ (k + 1 + d ≤ p ∧ ahd L (p - d) p = true) := ⟨fun x => ⟨by omega, x.2⟩, fun x => ⟨by omega, x.2⟩⟩
    simp only [a, b, if_neg e]
    omega
theorem pair_t {L : List Int32} {d k : Nat} (hd : 1 ≤ d) (h : L.length ≤ k + d + lcp L k (k + d) ∨ lt L (k + d + lcp L k (k + d)) < lt L (k + lcp L k (k + d))) : ahd L (k + d) k = true := by
  unfold ahd
  rw [lcp_symm L (k + d) k]
  by_cases c : L.length ≤ k + d + lcp L k (k + d)
  · rw [if_pos (Or.inl c)]; simp; omega
  · rw [if_neg (by omega)]
    exact decide_eq_true (h.resolve_left c)
theorem pair_f {L : List Int32} {d k : Nat} (hd : 1 ≤ d) (h1 : k + d + lcp L k (k + d) < L.length) (h : ¬ lt L (k + d + lcp L k (k + d)) < lt L (k + lcp L k (k + d))) : ahd L (k + d) k = false := by
  unfold ahd
  rw [lcp_symm L (k + d) k, if_neg (by omega)]
  exact decide_eq_false h
/-- what the squawk of a rank shares with that of the rank ahead -/
def shr (L : List Int32) (r : Nat) : Nat := if r = 0 then 0 else lcp L (plc L (r - 1)) (plc L r)
def lonU (L : List Int32) : Nat → Nat
  | 0 => 0
  | m + 1 => if lonU L m < shr L m then shr L m else lonU L m
def smsU (L : List Int32) : Nat → Nat
  | 0 => 0
  | m + 1 => smsU L m + shr L m
def lon (L : List Int32) : Nat := lonU L L.length
def sms (L : List Int32) : Nat := smsU L L.length
theorem shr_le {L : List Int32} {r : Nat} (h : r < L.length) : shr L r ≤ L.length := by
  unfold shr
  split
  · omega
  · have := lcp_le (L := L) (p := plc L (r - 1)) (q := plc L r) (Nat.le_of_lt (plc_spec (by omega)).1)
    omega
theorem lonU_le {L : List Int32} : ∀ {m : Nat}, m ≤ L.length → lonU L m ≤ L.length := by
  intro m
  induction m with
  | zero => intro _; exact Nat.zero_le _
  | succ m ih =>
    intro h
    unfold lonU
    have := ih (by omega)
    have := shr_le (L := L) (r := m) (by omega)
    split <;> omega
theorem smsU_le {L : List Int32} : ∀ {m : Nat}, m ≤ L.length → smsU L m ≤ m * L.length := by
  intro m
  induction m with
  | zero => intro _; exact Nat.zero_le _
  | succ m ih =>
    intro h
    unfold smsU
    have h1 := ih (by omega)
    have h2 := shr_le (L := L) (r := m) (by omega)
    rw [Nat.succ_mul]
    omega
