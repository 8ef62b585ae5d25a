/-! both sides' numbers are one: phrases of so many letters -/
theorem cnt_inj {P : Nat → Bool} {φ : Nat → Nat} {m : Nat} : ∀ (n : Nat) (Q : Nat → Bool), (∀ i, i < n → P i = true → φ i < m ∧ Q (φ i) = true) → (∀ i j, i < n → j < n → P i = true → P j = true → φ i = φ j → i = j) → cnt P n ≤ cnt Q m := by
  intro n
  induction n with
  | zero => intro Q _ _; exact Nat.zero_le _
  | succ n ih =>
    intro Q h1 h2
    show cnt P n + (if P n = true then 1 else 0) ≤ _
    by_cases hp : P n = true
    · rw [if_pos hp]
      obtain ⟨q1, q2⟩ := h1 n (by omega) hp
      have h3 := ih (fun x => Q x && (x != φ n)) (fun i hi hP => by
        obtain ⟨a, b⟩ := h1 i (by omega) hP
        refine ⟨a, ?_⟩
        have : φ i ≠ φ n := fun e => by have := h2 i n (by omega) (by omega) hP hp e; omega
        simp [b, this]) (fun i j hi hj => h2 i j (by omega) (by omega))
      have h4 := cnt_add (P := fun x => Q x && (x != φ n)) (Q := Q) (x := φ n) (n := m) (fun i hi hne => by simp [hne]) (fun _ => by simp)
      rw [if_pos ⟨q1, q2⟩] at h4
      omega
    · rw [if_neg hp]
      exact ih Q (fun i hi => h1 i (by omega)) (fun i j hi hj => h2 i j (by omega) (by omega))
theorem cnt_pos {P : Nat → Bool} {n x : Nat} (hx : x < n) (hp : P x = true) : 1 ≤ cnt P n := by
  have := cnt_lt (P := fun _ => false) (Q := P) (x := x) (n := n) (fun i _ h => by cases h) hx rfl hp
  omega
theorem cnt_two {P : Nat → Bool} {n x y : Nat} (hx : x < n) (hy : y < n) (hne : x ≠ y) (hp : P x = true) (hq : P y = true) : 2 ≤ cnt P n := by
  have h1 := cnt_lt (P := fun i => P i && (i != y)) (Q := P) (x := y) (n := n) (fun i _ h => by simp at h; exact h.1) hy (by simp) hq
  have h2 := cnt_pos (P := fun i => P i && (i != y)) hx (by simp [hp, hne])
  omega
theorem cnt_other {P : Nat → Bool} {n j : Nat} (h : 2 ≤ cnt P n) : ∃ i, i < n ∧ i ≠ j ∧ P i = true := by
  by_cases hex : ∃ i, i < n ∧ i ≠ j ∧ P i = true
  · exact hex
  · have h1 := cnt_mono (P := P) (Q := fun i => i == j) (n := n) (fun i hi hP => by
      by_cases e : i = j
      · simp [e]
      · exact absurd ⟨i, hi, e, hP⟩ hex)
    have h2 := cnt_add (P := fun _ => false) (Q := fun i => i == j) (x := j) (n := n) (fun i _ hne => by simp [hne]) (fun _ => rfl)
    rw [cnt_none (P := fun _ => false) (fun _ _ => rfl)] at h2
    split at h2 <;> omega
theorem lcp_self {L : List Int32} {p : Nat} (h : p ≤ L.length) : lcp L p p = L.length - p := lcp_uniq (fun i hi => ⟨by omega, by omega, rfl⟩) (fun x => by have := x.1; omega)
theorem lcp_tr {L : List Int32} {p q r k : Nat} (h1 : k ≤ lcp L p q) (h2 : k ≤ lcp L q r) : k ≤ lcp L p r := by have := lcp_min L p q r; omega
theorem isF_iff {L : List Int32} {p k : Nat} : isF L p k = true ↔ ∀ q, q < p → lcp L q p < k := by
  unfold isF
  rw [Option.isNone_iff_eq_none, fstA_none]
  constructor
  · intro h q hq
    have := h q (Nat.zero_le _) (by omega)
    simpa using this
  · intro h i _ hi
    simpa using h i (by omega)
/-- the least number of a kind -/
theorem least {P : Nat → Bool} {n x : Nat} (hx : x < n) (hp : P x = true) : ∃ r, r < n ∧ P r = true ∧ r ≤ x ∧ ∀ i, i < r → P i = false := by
  cases h : fstA P n 0 with
  | none => have := fstA_none.mp h x (Nat.zero_le _) (by omega); rw [hp] at this; cases this
  | some r =>
    obtain ⟨-, h2, h3, h4⟩ := fstA_some.mp h
    refine ⟨r, by omega, h3, ?_, fun i hi => h4 i (Nat.zero_le _) hi⟩
    rcases Nat.lt_or_ge x r with y | y
    · have := h4 x (Nat.zero_le _) y; rw [hp] at this; cases this
    · exact y
def lst (P : Nat → Bool) (n : Nat) : Nat := (fstA P n 0).getD 0
theorem lst_spec {P : Nat → Bool} {n x : Nat} (hx : x < n) (hp : P x = true) : lst P n < n ∧ P (lst P n) = true ∧ lst P n ≤ x ∧ ∀ i, i < lst P n → P i = false := by
  unfold lst
  cases h : fstA P n 0 with
  | none => have := fstA_none.mp h x (Nat.zero_le _) (by omega); rw [hp] at this; cases this
  | some r =>
    obtain ⟨-, h2, h3, h4⟩ := fstA_some.mp h
    refine ⟨by show r < n; omega, h3, ?_, fun i hi => h4 i (Nat.zero_le _) hi⟩
    show r ≤ x
    rcases Nat.lt_or_ge x r with y | y
    · have := h4 x (Nat.zero_le _) y; rw [hp] at this; cases this
    · exact y
/-- the least rank of those that begin with the same k letters as p; their least place -/
def cR (L : List Int32) (k p : Nat) : Nat → Bool := fun r => decide (k ≤ lcp L (plc L r) p)
def cP (L : List Int32) (k p : Nat) : Nat → Bool := fun q => decide (k ≤ lcp L q p)
theorem cR_spec {L : List Int32} {k p : Nat} (hp : p + k ≤ L.length) (hk : 1 ≤ k) : lst (cR L k p) L.length < L.length ∧ k ≤ lcp L (plc L (lst (cR L k p) L.length)) p ∧ shr L (lst (cR L k p) L.length) < k ∧ ∀ i, i < lst (cR L k p) L.length → lcp L (plc L i) p < k := by
  have hpn : p < L.length := by omega
  obtain ⟨h1, h2, -, h4⟩ := lst_spec (P := cR L k p) (x := rk L p) (n := L.length) (rk_lt hpn) (by unfold cR; rw [plc_rk hpn, lcp_self (by omega)]; exact decide_eq_true (by omega))
  generalize hr : lst (cR L k p) L.length = r at h1 h2 h4 ⊢
  have h2' : k ≤ lcp L (plc L r) p := by unfold cR at h2; simpa using h2
  have h4' : ∀ i, i < r → lcp L (plc L i) p < k := fun i hi => by have := h4 i hi; unfold cR at this; simpa using this
  refine ⟨h1, h2', ?_, h4'⟩
  unfold shr
  split
  · omega
  · rename_i e
    rcases Nat.lt_or_ge (lcp L (plc L (r - 1)) (plc L r)) k with y | y
    · exact y
    · have := lcp_tr y h2'
      have := h4' (r - 1) (by omega)
      omega
theorem cP_spec {L : List Int32} {k p : Nat} (hp : p + k ≤ L.length) (hk : 1 ≤ k) : lst (cP L k p) L.length < L.length ∧ k ≤ lcp L (lst (cP L k p) L.length) p ∧ lst (cP L k p) L.length + k ≤ L.length ∧ isF L (lst (cP L k p) L.length) k = true := by
  have hpn : p < L.length := by omega
  obtain ⟨h1, h2, -, h4⟩ := lst_spec (P := cP L k p) (x := p) (n := L.length) hpn (by unfold cP; rw [lcp_self (by omega)]; exact decide_eq_true (by omega))
  generalize hr : lst (cP L k p) L.length = r at h1 h2 h4 ⊢
  have h2' : k ≤ lcp L r p := by unfold cP at h2; simpa using h2
  have h4' : ∀ i, i < r → lcp L i p < k := fun i hi => by have := h4 i hi; unfold cP at this; simpa using this
  refine ⟨h1, h2', ?_, isF_iff.mpr fun q hq => ?_⟩
  · have := lcp_le (L := L) (p := r) (q := p) (by omega); omega
  · rcases Nat.lt_or_ge (lcp L q r) k with y | y
    · exact y
    · have := lcp_tr y h2'
      have := h4' q hq
      omega
theorem isF_uniq {L : List Int32} {p q k : Nat} (h1 : isF L p k = true) (h2 : isF L q k = true) (h : k ≤ lcp L p q) : p = q := by
  rcases Nat.lt_trichotomy p q with x | x | x
  · have := isF_iff.mp h2 p x; omega
  · exact x
  · have := isF_iff.mp h1 q x
    rw [lcp_symm] at h; omega
theorem plc_in {L : List Int32} {r k : Nat} (hr : r < L.length) (hk : 1 ≤ k) (h : k ≤ L.length - plc L r) : plc L r + k ≤ L.length := by
  have := (plc_spec hr).1; omega
/-- as many different phrases of k letters, both ways -/
theorem kinds_eq {L : List Int32} {k : Nat} (hk : 1 ≤ k) : cnt (kwP L k 1) L.length = cnt (dpP L k) L.length := by
  refine Nat.le_antisymm (cnt_inj (φ := fun p => lst (cR L k p) L.length) _ _ (fun p hp hP => ?_) (fun p q hp hq hP hQ e => ?_)) (cnt_inj (φ := fun r => lst (cP L k (plc L r)) L.length) _ _ (fun r hr hR => ?_) (fun r s hr hs hR hS e => ?_))
  · unfold kwP at hP
    simp only [Bool.and_eq_true, decide_eq_true_eq] at hP
    obtain ⟨a, b, c, -⟩ := cR_spec hP.1 hk
    have := lcp_le (L := L) (p := plc L (lst (cR L k p) L.length)) (q := p) (Nat.le_of_lt (plc_spec a).1)
    exact ⟨a, decide_eq_true ⟨by omega, c⟩⟩
  · unfold kwP at hP hQ
    simp only [Bool.and_eq_true, decide_eq_true_eq] at hP hQ
    obtain ⟨a, b, c, -⟩ := cR_spec hP.1 hk
    obtain ⟨a2, b2, c2, -⟩ := cR_spec hQ.1 hk
    rw [← e] at b2
    exact isF_uniq hP.2.1 hQ.2.1 (lcp_tr (by rw [lcp_symm]; exact b) b2)
  · unfold dpP at hR
    simp only [decide_eq_true_eq] at hR
    obtain ⟨a, b, c, d⟩ := cP_spec (plc_in hr hk hR.1) hk
    refine ⟨a, ?_⟩
    unfold kwP
    simp only [Bool.and_eq_true, decide_eq_true_eq]
    exact ⟨c, d, cnt_pos a (by unfold stP; rw [lcp_self (by omega)]; exact decide_eq_true (by omega))⟩
  · unfold dpP at hR hS
    simp only [decide_eq_true_eq] at hR hS
    obtain ⟨a, b, c, d⟩ := cP_spec (plc_in hr hk hR.1) hk
    obtain ⟨a2, b2, c2, d2⟩ := cP_spec (plc_in hs hk hS.1) hk
    rw [← e] at b2
    have hl : k ≤ lcp L (plc L r) (plc L s) := lcp_tr (by rw [lcp_symm]; exact b) b2
    rcases Nat.lt_trichotomy r s with x | x | x
    · have := lcp_shr hs x s x (Nat.le_refl _); omega
    · exact x
    · have := lcp_shr hr x r x (Nat.le_refl _); rw [lcp_symm] at hl; omega
/-- as many repeated phrases of k letters, both ways -/
theorem repeats_eq {L : List Int32} {k : Nat} (hk : 1 ≤ k) : cnt (kwP L k 2) L.length = cnt (rwP L k) L.length := by
  refine Nat.le_antisymm (cnt_inj (φ := fun p => lst (cR L k p) L.length + 1) _ _ (fun p hp hP => ?_) (fun p q hp hq hP hQ e => ?_)) (cnt_inj (φ := fun r => lst (cP L k (plc L r)) L.length) _ _ (fun r hr hR => ?_) (fun r s hr hs hR hS e => ?_))
  · unfold kwP at hP
    simp only [Bool.and_eq_true, decide_eq_true_eq] at hP
    obtain ⟨a, b, c, d⟩ := cR_spec hP.1 hk
    obtain ⟨q, q1, q2, q3⟩ := cnt_other (j := plc L (lst (cR L k p) L.length)) hP.2.2
    unfold stP at q3
    simp only [decide_eq_true_eq] at q3
    have hlt : lst (cR L k p) L.length < rk L q := by
      rcases Nat.lt_trichotomy (rk L q) (lst (cR L k p) L.length) with x | x | x
      · have := d _ x; rw [plc_rk q1] at this; omega
      · exact absurd (by rw [← x, plc_rk q1]) q2
      · exact x
    have hrq := rk_lt q1
    have h5 := lcp_shr hrq hlt (lst (cR L k p) L.length + 1) (by omega) (by omega)
    rw [plc_rk q1] at h5
    have h6 : k ≤ lcp L (plc L (lst (cR L k p) L.length)) q := lcp_tr b (by rw [lcp_symm]; exact q3)
    exact ⟨by omega, decide_eq_true ⟨by omega, by omega, by rw [Nat.add_sub_cancel]; exact c⟩⟩
  · unfold kwP at hP hQ
    simp only [Bool.and_eq_true, decide_eq_true_eq] at hP hQ
    obtain ⟨a, b, c, -⟩ := cR_spec hP.1 hk
    obtain ⟨a2, b2, c2, -⟩ := cR_spec hQ.1 hk
    have e' : lst (cR L k p) L.length = lst (cR L k q) L.length := by omega
    rw [← e'] at b2
    exact isF_uniq hP.2.1 hQ.2.1 (lcp_tr (by rw [lcp_symm]; exact b) b2)
  · unfold rwP at hR
    simp only [decide_eq_true_eq] at hR
    have sh : shr L r = lcp L (plc L (r - 1)) (plc L r) := by unfold shr; rw [if_neg (by omega)]
    have p1 := (plc_spec hr).1
    have p2 := plc_spec (L := L) (r := r - 1) (by omega)
    have l1 := lcp_le' (L := L) (p := plc L (r - 1)) (q := plc L r) (by omega)
    obtain ⟨a, b, c, d⟩ := cP_spec (L := L) (k := k) (p := plc L r) (by omega) hk
    refine ⟨a, ?_⟩
    unfold kwP
    simp only [Bool.and_eq_true, decide_eq_true_eq]
    refine ⟨c, d, cnt_two (x := plc L r) (y := plc L (r - 1)) p1 p2.1 (fun e => ?_) ?_ ?_⟩
    · have := (plc_spec hr).2; rw [e, p2.2] at this; omega
    · unfold stP; exact decide_eq_true (by rw [lcp_symm]; exact b)
    · unfold stP; exact decide_eq_true (lcp_tr (q := plc L r) (by omega) (by rw [lcp_symm]; exact b))
  · unfold rwP at hR hS
    simp only [decide_eq_true_eq] at hR hS
    have sh : shr L r = lcp L (plc L (r - 1)) (plc L r) := by unfold shr; rw [if_neg (by omega)]
    have sh2 : shr L s = lcp L (plc L (s - 1)) (plc L s) := by unfold shr; rw [if_neg (by omega)]
    have l1 := lcp_le' (L := L) (p := plc L (r - 1)) (q := plc L r) (Nat.le_of_lt (plc_spec hr).1)
    have l2 := lcp_le' (L := L) (p := plc L (s - 1)) (q := plc L s) (Nat.le_of_lt (plc_spec hs).1)
    obtain ⟨a, b, c, d⟩ := cP_spec (L := L) (k := k) (p := plc L r) (by omega) hk
    obtain ⟨a2, b2, c2, d2⟩ := cP_spec (L := L) (k := k) (p := plc L s) (by omega) hk
    rw [← e] at b2
    have hl : k ≤ lcp L (plc L r) (plc L s) := lcp_tr (by rw [lcp_symm]; exact b) b2
    have one : ∀ r s, r < s → s < L.length → k ≤ lcp L (plc L r) (plc L s) → k ≤ shr L r → shr L (s - 1) < k → False := by
      intro r s x hs hl h1 h2
      by_cases y : r = s - 1
      · rw [← y] at h2; omega
      · have := lcp_shr hs x (s - 1) (by omega) (by omega); omega
    rcases Nat.lt_trichotomy r s with x | x | x
    · exact (one r s x hs hl hR.2.1 hS.2.2).elim
    · exact x
    · exact (one s r x hr (by rw [lcp_symm]; exact hl) hS.2.1 hR.2.2).elim
