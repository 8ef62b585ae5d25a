/-! both sides' numbers are one: the longest repeat -/
theorem mt_eq {L : List Int32} {p q r i : Nat} (h1 : mt L p q i) (h2 : mt L q r i) : mt L p r i := ⟨h1.1, h2.2.1, h1.2.2.trans h2.2.2⟩
/-- what two share is the least of what they share with one between them -/
theorem lcp_mid {L : List Int32} {a b c : Nat} (ha : a < L.length) (hb : b < L.length) (hc : c < L.length) (h1 : ahd L a b = true) (h2 : ahd L b c = true) : lcp L a c = min (lcp L a b) (lcp L b c) := by
  have ea := lcp_le (L := L) (p := a) (q := b) (by omega)
  have eb1 := lcp_le' (L := L) (p := a) (q := b) (by omega)
  have eb2 := lcp_le (L := L) (p := b) (q := c) (by omega)
  have ec := lcp_le' (L := L) (p := b) (q := c) (by omega)
  have s1 := lcp_stop L a b
  have s2 := lcp_stop L b c
  have i1 := fun i => lcp_in (L := L) (p := a) (q := b) (i := i)
  have i2 := fun i => lcp_in (L := L) (p := b) (q := c) (i := i)
  rcases Nat.lt_trichotomy (lcp L a b) (lcp L b c) with x | x | x
  · rw [Nat.min_eq_left (by omega)]
    have e := i2 _ x
    exact lcp_uniq (fun i hi => mt_eq (i1 i hi) (i2 i (by omega))) (fun y => s1 ⟨y.1, e.1, y.2.2.trans e.2.2.symm⟩)
  · rw [Nat.min_eq_left (by omega)]
    refine lcp_uniq (fun i hi => mt_eq (i1 i hi) (i2 i (by omega))) (fun y => ?_)
    unfold ahd at h1 h2
    rw [← x] at h2
    by_cases d : L.length ≤ b + lcp L a b
    · rw [if_pos (Or.inr d)] at h1
      rw [if_pos (Or.inl d)] at h2
      simp at h1 h2
      have := y.1
      have := y.2.1
      omega
    · have y1 := y.1
      have y2 := y.2.1
      rw [if_neg (by omega)] at h1 h2
      simp only [decide_eq_true_eq] at h1 h2
      have h3 := i32_trans h1 h2
      rw [y.2.2] at h3
      exact i32_irrefl _ h3
  · rw [Nat.min_eq_right (by omega)]
    have e := i1 _ x
    exact lcp_uniq (fun i hi => mt_eq (i1 i (by omega)) (i2 i hi)) (fun y => s2 ⟨e.2.1, y.2.1, e.2.2.symm.trans y.2.2⟩)
theorem plc_ahd {L : List Int32} {r s : Nat} (hr : r < L.length) (hs : s < L.length) (h : r < s) : ahd L (plc L r) (plc L s) = true := by
  have h1 := plc_spec hr
  have h2 := plc_spec hs
  exact (rk_iff h1.1 h2.1).mp (by rw [h1.2, h2.2]; exact h)
/-- no two share more than neighbours between them -/
theorem lcp_shr {L : List Int32} {r s : Nat} (hs : s < L.length) (h : r < s) : ∀ t, r < t → t ≤ s → lcp L (plc L r) (plc L s) ≤ shr L t := by
  intro t h1 h2
  have hr : r < L.length := by omega
  have sh : shr L t = lcp L (plc L (t - 1)) (plc L t) := by unfold shr; rw [if_neg (by omega)]
  have pr := (plc_spec (L := L) (r := r) (by omega)).1
  have ps := (plc_spec (L := L) (r := s) (by omega)).1
  have pt := (plc_spec (L := L) (r := t) (by omega)).1
  have pt1 := (plc_spec (L := L) (r := t - 1) (by omega)).1
  -- first from r to t, then to t - 1
  have e1 : lcp L (plc L r) (plc L s) ≤ lcp L (plc L r) (plc L t) := by
    by_cases e : t = s
    · rw [e]; exact Nat.le_refl _
    · rw [lcp_mid pr pt ps (plc_ahd (by omega) (by omega) (by omega)) (plc_ahd (by omega) (by omega) (by omega))]
      exact Nat.min_le_left _ _
  have e2 : lcp L (plc L r) (plc L t) ≤ lcp L (plc L (t - 1)) (plc L t) := by
    by_cases e : r = t - 1
    · rw [e]; exact Nat.le_refl _
    · rw [lcp_mid pr pt1 pt (plc_ahd (by omega) (by omega) (by omega)) (plc_ahd (by omega) (by omega) (by omega))]
      exact Nat.min_le_right _ _
  rw [sh]; omega
theorem shr_lon {L : List Int32} {r : Nat} : ∀ {m : Nat}, r < m → shr L r ≤ lonU L m := by
  intro m
  induction m with
  | zero => intro h; omega
  | succ m ih =>
    intro h
    rw [lonU_s]
    by_cases e : r = m
    · subst e; split <;> omega
    · have := ih (by omega)
      split <;> omega
theorem lon_of {L : List Int32} : ∀ {m : Nat}, lonU L m = 0 ∨ ∃ r, r < m ∧ shr L r = lonU L m := by
  intro m
  induction m with
  | zero => exact Or.inl rfl
  | succ m ih =>
    rw [lonU_s]
    split
    · exact Or.inr ⟨m, by omega, rfl⟩
    · rcases ih with h | ⟨r, h1, h2⟩
      · exact Or.inl h
      · exact Or.inr ⟨r, by omega, h2⟩
theorem inU_ge {L : List Int32} {p q : Nat} : ∀ {m : Nat}, q < m → lcp L q p ≤ inU L p m := by
  intro m
  induction m with
  | zero => intro h; omega
  | succ m ih =>
    intro h
    rw [inU_s]
    by_cases e : q = m
    · subst e; omega
    · have := ih (by omega); omega
theorem loU_ge {L : List Int32} {p q : Nat} (h : q < p) : ∀ {m : Nat}, p < m → lcp L q p ≤ loU L m := by
  intro m
  induction m with
  | zero => intro h; omega
  | succ m ih =>
    intro h2
    rw [loU_s]
    by_cases e : p = m
    · subst e; have := inU_ge (L := L) (p := p) h; omega
    · have := ih (by omega); omega
theorem inU_of {L : List Int32} {p b : Nat} : ∀ {m : Nat}, (∀ q, q < m → lcp L q p ≤ b) → inU L p m ≤ b := by
  intro m
  induction m with
  | zero => intro _; exact Nat.zero_le _
  | succ m ih =>
    intro h
    rw [inU_s]
    have := ih (fun q hq => h q (by omega))
    have := h m (by omega)
    omega
theorem loU_of {L : List Int32} {b : Nat} : ∀ {m : Nat}, (∀ p q, q < p → p < m → lcp L q p ≤ b) → loU L m ≤ b := by
  intro m
  induction m with
  | zero => intro _; exact Nat.zero_le _
  | succ m ih =>
    intro h
    rw [loU_s]
    have := ih (fun p q h1 h2 => h p q h1 (by omega))
    have := inU_of (L := L) (p := m) (b := b) (m := m) (fun q hq => h m q hq (by omega))
    omega
theorem lcp_lon {L : List Int32} {p q : Nat} (hp : p < L.length) (hq : q < L.length) (hne : p ≠ q) : lcp L p q ≤ lon L := by
  have key : ∀ p q, p < L.length → q < L.length → rk L p < rk L q → lcp L p q ≤ lon L := by
    intro p q hp hq h
    have h1 := rk_lt hq
    have := lcp_shr h1 h (rk L q) h (Nat.le_refl _)
    rw [plc_rk hp, plc_rk hq] at this
    exact Nat.le_trans this (shr_lon h1)
  rcases Nat.lt_trichotomy (rk L p) (rk L q) with h | h | h
  · exact key p q hp hq h
  · exact absurd (rk_inj hp hq h) hne
  · rw [lcp_symm]; exact key q p hq hp h
/-- the longest repeat, both ways -/
theorem loU_lon (L : List Int32) : loU L L.length = lon L := by
  refine Nat.le_antisymm (loU_of fun p q h1 h2 => lcp_lon (by omega) h2 (by omega)) ?_
  rcases lon_of (L := L) (m := L.length) with h | ⟨r, h1, h2⟩
  · unfold lon; omega
  · show lonU L L.length ≤ _
    rw [← h2]
    unfold shr
    split
    · exact Nat.zero_le _
    · rename_i hr
      have q1 := plc_spec (L := L) (r := r) h1
      have q2 := plc_spec (L := L) (r := r - 1) (by omega)
      have hne : plc L (r - 1) ≠ plc L r := fun e => by rw [e] at q2; omega
      rcases Nat.lt_or_gt_of_ne hne with x | x
      · exact loU_ge x q1.1
      · rw [lcp_symm]; exact loU_ge x q2.1
