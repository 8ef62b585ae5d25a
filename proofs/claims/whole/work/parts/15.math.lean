/-! letters and squawks: numbers over lists of letters, no machine -/
/-- the i-th letter -/
def lt (L : List Int32) (i : Nat) : Int32 := L.getD i 0
abbrev mt (L : List Int32) (p q i : Nat) : Prop := p + i < L.length ∧ q + i < L.length ∧ lt L (p + i) = lt L (q + i)
/-- how many letters two squawks share -/
def lcpA (L : List Int32) (p q : Nat) : Nat → Nat → Nat
  | 0, k => k
  | f + 1, k => if mt L p q k then lcpA L p q f (k + 1) else k
def lcp (L : List Int32) (p q : Nat) : Nat := lcpA L p q L.length 0
theorem lcpA_spec (L : List Int32) (p q : Nat) : ∀ (f k : Nat), (∀ i, i < k → mt L p q i) → L.length ≤ f + k → (∀ i, i < lcpA L p q f k → mt L p q i) ∧ ¬ mt L p q (lcpA L p q f k) := by
  intro f
  induction f with
  | zero =>
    intro k hk hf
    refine ⟨hk, fun h => ?_⟩
    have := h.1
    simp only [lcpA] at this
    omega
  | succ f ih =>
    intro k hk hf
    unfold lcpA
    by_cases h : mt L p q k
    · rw [if_pos h]
      refine ih (k + 1) (fun i hi => ?_) (by omega)
      by_cases e : i = k
      · subst e; exact h
      · exact hk i (by omega)
    · rw [if_neg h]
      exact ⟨hk, h⟩
theorem lcp_in {L : List Int32} {p q i : Nat} (h : i < lcp L p q) : mt L p q i := (lcpA_spec L p q L.length 0 (fun i h => absurd h (Nat.not_lt_zero _)) (by omega)).1 i h
theorem lcp_stop (L : List Int32) (p q : Nat) : ¬ mt L p q (lcp L p q) := (lcpA_spec L p q L.length 0 (fun i h => absurd h (Nat.not_lt_zero _)) (by omega)).2
theorem lcp_uniq {L : List Int32} {p q k : Nat} (h1 : ∀ i, i < k → mt L p q i) (h2 : ¬ mt L p q k) : lcp L p q = k := by
  rcases Nat.lt_trichotomy (lcp L p q) k with h | h | h
  · exact absurd (h1 _ h) (lcp_stop L p q)
  · exact h
  · exact absurd (lcp_in h) h2
theorem lcp_symm (L : List Int32) (p q : Nat) : lcp L p q = lcp L q p := by
  refine lcp_uniq (fun i hi => ?_) (fun h => lcp_stop L q p ⟨h.2.1, h.1, h.2.2.symm⟩)
  have := lcp_in hi
  exact ⟨this.2.1, this.1, this.2.2.symm⟩
theorem lcp_le {L : List Int32} {p q : Nat} (h : p ≤ L.length) : p + lcp L p q ≤ L.length := by
  rcases Nat.eq_zero_or_pos (lcp L p q) with e | e
  · omega
  · have := (lcp_in (L := L) (p := p) (q := q) (i := lcp L p q - 1) (by omega)).1
    omega
theorem lcp_le' {L : List Int32} {p q : Nat} (h : q ≤ L.length) : q + lcp L p q ≤ L.length := by rw [lcp_symm]; exact lcp_le h
theorem mt_succ (L : List Int32) (p q i : Nat) : mt L p q (i + 1) ↔ mt L (p + 1) (q + 1) i := by
  unfold mt
  rw [show p + (i + 1) = p + 1 + i by omega, show q + (i + 1) = q + 1 + i by omega]
theorem lcp_step (L : List Int32) (p q : Nat) : lcp L p q = if mt L p q 0 then lcp L (p + 1) (q + 1) + 1 else 0 := by
  by_cases h : mt L p q 0
  · rw [if_pos h]
    refine lcp_uniq (fun i hi => ?_) (fun h2 => ?_)
    · cases i with
      | zero => exact h
      | succ i =>
        have := lcp_in (L := L) (p := p + 1) (q := q + 1) (i := i) (by omega)
        exact (mt_succ L p q i).mpr this
    · refine lcp_stop L (p + 1) (q + 1) ?_
      exact (mt_succ L p q _).mp h2
  · rw [if_neg h]
    exact lcp_uniq (fun i hi => absurd hi (Nat.not_lt_zero _)) h
theorem lcp_end {L : List Int32} {p q : Nat} (h : L.length ≤ q) : lcp L p q = 0 := by
  rw [lcp_step, if_neg]
  intro h2
  have := h2.2.1
  omega
/-- the squawk of p comes ahead of that of q -/
def ahd (L : List Int32) (p q : Nat) : Bool := if L.length ≤ p + lcp L p q ∨ L.length ≤ q + lcp L p q then decide (q < p) else decide (lt L (p + lcp L p q) < lt L (q + lcp L p q))
theorem i32_tri (a b : Int32) : a < b ∨ a = b ∨ b < a := by
  simp only [Int32.lt_iff_toInt_lt, ← Int32.toInt_inj]
  omega
theorem i32_asymm {a b : Int32} (h : a < b) : ¬ b < a := by
  simp only [Int32.lt_iff_toInt_lt] at *
  omega
theorem i32_trans {a b c : Int32} (h : a < b) (g : b < c) : a < c := by
  simp only [Int32.lt_iff_toInt_lt] at *
  omega
theorem i32_irrefl (a : Int32) : ¬ a < a := by
  simp only [Int32.lt_iff_toInt_lt]
  omega
theorem ahd_irrefl (L : List Int32) (p : Nat) : ahd L p p = false := by
  unfold ahd
  split
  · simp
  · exact decide_eq_false (i32_irrefl _)
theorem ahd_asymm {L : List Int32} {p q : Nat} (h : ahd L p q = true) : ahd L q p = false := by
  unfold ahd at *
  rw [lcp_symm L q p]
  by_cases c : L.length ≤ p + lcp L p q ∨ L.length ≤ q + lcp L p q
  · rw [if_pos c] at h
    rw [if_pos (Or.symm c)]
    simp at h ⊢
    omega
  · rw [if_neg c] at h
    rw [if_neg (fun x => c (Or.symm x))]
    simp only [decide_eq_true_eq, decide_eq_false_iff_not] at h ⊢
    exact i32_asymm h
theorem ahd_total {L : List Int32} {p q : Nat} (hp : p < L.length) (hq : q < L.length) (hne : p ≠ q) : ahd L p q = true ∨ ahd L q p = true := by
  unfold ahd
  rw [lcp_symm L q p]
  by_cases c : L.length ≤ p + lcp L p q ∨ L.length ≤ q + lcp L p q
  · rw [if_pos c, if_pos (Or.symm c)]
    simp
    omega
  · rw [if_neg c, if_neg (fun x => c (Or.symm x))]
    simp only [decide_eq_true_eq]
    have hs := lcp_stop L p q
    rcases i32_tri (lt L (p + lcp L p q)) (lt L (q + lcp L p q)) with x | x | x
    · exact Or.inl x
    · exact absurd ⟨by omega, by omega, x⟩ hs
    · exact Or.inr x
theorem ahd_not {L : List Int32} {p q : Nat} (hp : p < L.length) (hq : q < L.length) (hne : p ≠ q) : ahd L p q = !ahd L q p := by
  rcases ahd_total hp hq hne with h | h
  · rw [h, ahd_asymm h]; rfl
  · rw [h, ahd_asymm h]; rfl
/-- what stands behind what is shared, seen from any number of letters -/
theorem lcp_ge {L : List Int32} {p q k : Nat} (h : ∀ i, i < k → mt L p q i) : k ≤ lcp L p q := by
  rcases Nat.lt_or_ge (lcp L p q) k with x | x
  · exact absurd (h _ x) (lcp_stop L p q)
  · exact x
theorem lcp_min (L : List Int32) (p q r : Nat) : min (lcp L p q) (lcp L q r) ≤ lcp L p r := by
  refine lcp_ge fun i hi => ?_
  have h1 := lcp_in (L := L) (p := p) (q := q) (i := i) (by omega)
  have h2 := lcp_in (L := L) (p := q) (q := r) (i := i) (by omega)
  exact ⟨h1.1, h2.2.1, h1.2.2.trans h2.2.2⟩
theorem ahd_trans {L : List Int32} {p q r : Nat} (hp : p < L.length) (hq : q < L.length) (hr : r < L.length) (h1 : ahd L p q = true) (h2 : ahd L q r = true) : ahd L p r = true := by
  have ep := lcp_le (L := L) (p := p) (q := q) (by omega)
  have eq1 := lcp_le' (L := L) (p := p) (q := q) (by omega)
  have eq2 := lcp_le (L := L) (p := q) (q := r) (by omega)
  have er := lcp_le' (L := L) (p := q) (q := r) (by omega)
  have m := lcp_min L p q r
  have s1 := lcp_stop L p q
  have s2 := lcp_stop L q r
  have i1 := fun i => lcp_in (L := L) (p := p) (q := q) (i := i)
  have i2 := fun i => lcp_in (L := L) (p := q) (q := r) (i := i)
  unfold ahd at h1 h2
  rcases Nat.lt_trichotomy (lcp L p q) (lcp L q r) with c | c | c
  · -- p and q part first: p and r part there too
    have hqn : q + lcp L p q < L.length := (i2 _ c).1
    have e := (i2 _ c).2.2
    have hpr : lcp L p r = lcp L p q := by
      refine lcp_uniq (fun i hi => ⟨(i1 i hi).1, (i2 i (by omega)).2.1, (i1 i hi).2.2.trans (i2 i (by omega)).2.2⟩) (fun x => s1 ⟨x.1, hqn, x.2.2.trans e.symm⟩)
    have hrn := (i2 _ c).2.1
    unfold ahd
    rw [hpr]
    by_cases d : L.length ≤ p + lcp L p q
    · rw [if_pos (Or.inl d)] at h1 ⊢
      simp at h1 ⊢
      omega
    · rw [if_neg (by omega)] at h1 ⊢
      simp only [decide_eq_true_eq] at h1 ⊢
      rw [← e]; exact h1
  · -- all part at one place
    have hpr1 : ∀ i, i < lcp L p q → mt L p r i := fun i hi => ⟨(i1 i hi).1, (i2 i (by omega)).2.1, (i1 i hi).2.2.trans (i2 i (by omega)).2.2⟩
    rw [← c] at h2 s2 er eq2
    have hge := lcp_ge hpr1
    by_cases d : L.length ≤ p + lcp L p q
    · have hpr : lcp L p r = lcp L p q := lcp_uniq hpr1 (fun x => by have := x.1; omega)
      unfold ahd
      rw [hpr, if_pos (Or.inl d)]
      rw [if_pos (Or.inl d)] at h1
      simp at h1 ⊢
      by_cases d4 : L.length ≤ r + lcp L p q
      · rw [if_pos (Or.inr d4)] at h2
        simp at h2
        omega
      · omega
    · by_cases d2 : L.length ≤ q + lcp L p q
      · rw [if_pos (Or.inr d2)] at h1
        rw [if_pos (Or.inl d2)] at h2
        simp at h1 h2
        omega
      · rw [if_neg (by omega)] at h1
        by_cases d3 : L.length ≤ r + lcp L p q
        · rw [if_pos (Or.inr d3)] at h2
          simp at h2
          omega
        · rw [if_neg (by omega)] at h2
          simp only [decide_eq_true_eq] at h1 h2
          have h3 := i32_trans h1 h2
          have hpr : lcp L p r = lcp L p q := lcp_uniq hpr1 (fun x => by have := x.2.2; rw [this] at h3; exact i32_irrefl _ h3)
          unfold ahd
          rw [hpr, if_neg (by omega)]
          simp only [decide_eq_true_eq]
          exact h3
  · -- q and r part first
    have hqn : q + lcp L q r < L.length := (i1 _ c).2.1
    have hpn := (i1 _ c).1
    have e := (i1 _ c).2.2
    have hpr : lcp L p r = lcp L q r := by
      refine lcp_uniq (fun i hi => ⟨(i1 i (by omega)).1, (i2 i hi).2.1, (i1 i (by omega)).2.2.trans (i2 i hi).2.2⟩) (fun x => s2 ⟨hqn, x.2.1, e.symm.trans x.2.2⟩)
    unfold ahd
    rw [hpr]
    by_cases d : L.length ≤ r + lcp L q r
    · rw [if_pos (Or.inr d)] at h2 ⊢
      simp at h2 ⊢
      omega
    · rw [if_neg (by omega)] at h2 ⊢
      simp only [decide_eq_true_eq] at h2 ⊢
      rw [e]; exact h2
/-- counting below n -/
def cnt (P : Nat → Bool) : Nat → Nat
  | 0 => 0
  | n + 1 => cnt P n + if P n then 1 else 0
theorem cnt_le (P : Nat → Bool) (n : Nat) : cnt P n ≤ n := by
  induction n with
  | zero => exact Nat.le_refl _
  | succ n ih => unfold cnt; split <;> omega
theorem cnt_congr {P Q : Nat → Bool} : ∀ {n : Nat}, (∀ i, i < n → P i = Q i) → cnt P n = cnt Q n := by
  intro n
  induction n with
  | zero => intro _; rfl
  | succ n ih => intro h; unfold cnt; rw [ih (fun i hi => h i (by omega)), h n (by omega)]
theorem cnt_mono {P Q : Nat → Bool} : ∀ {n : Nat}, (∀ i, i < n → P i = true → Q i = true) → cnt P n ≤ cnt Q n := by
  intro n
  induction n with
  | zero => intro _; exact Nat.le_refl _
  | succ n ih =>
    intro h
    unfold cnt
    have h1 := ih (fun i hi => h i (by omega))
    have h2 := h n (by omega)
    cases hp : P n with
    | false => simp; omega
    | true => rw [h2 hp]; simp; omega
theorem cnt_lt {P Q : Nat → Bool} {x : Nat} : ∀ {n : Nat}, (∀ i, i < n → P i = true → Q i = true) → x < n → P x = false → Q x = true → cnt P n < cnt Q n := by
  intro n
  induction n with
  | zero => intro _ h; omega
  | succ n ih =>
    intro h hx hp hq
    unfold cnt
    by_cases e : x = n
    · subst e
      have h1 := cnt_mono (n := x) (fun i hi => h i (by omega))
      rw [hp, hq]; simp; omega
    · have h1 := ih (fun i hi => h i (by omega)) (by omega) hp hq
      have h2 := h n (by omega)
      cases hp2 : P n with
      | false => simp; omega
      | true => rw [h2 hp2]; simp; omega
theorem cnt_all {P : Nat → Bool} {n : Nat} (h : ∀ i, i < n → P i = true) : cnt P n = n := by
  induction n with
  | zero => rfl
  | succ n ih => unfold cnt; rw [ih (fun i hi => h i (by omega)), h n (by omega)]; rfl
theorem cnt_none {P : Nat → Bool} {n : Nat} (h : ∀ i, i < n → P i = false) : cnt P n = 0 := by
  induction n with
  | zero => rfl
  | succ n ih => unfold cnt; rw [ih (fun i hi => h i (by omega)), h n (by omega)]; rfl
/-- one more -/
theorem cnt_add {P Q : Nat → Bool} {x : Nat} : ∀ {n : Nat}, (∀ i, i < n → i ≠ x → Q i = P i) → (x < n → P x = false) → cnt Q n = cnt P n + if x < n ∧ Q x = true then 1 else 0 := by
  intro n
  induction n with
  | zero => intro _ _; simp [cnt]
  | succ n ih =>
    intro h hp
    unfold cnt
    by_cases e : x = n
    · subst e
      rw [cnt_congr (P := Q) (Q := P) (fun i hi => h i (by omega) (by omega)), hp (by omega)]
      cases Q x <;> simp
    · rw [ih (fun i hi => h i (by omega)) (fun hx => hp (by omega)), h n (by omega) (fun q => e q.symm)]
      have : (x < n + 1 ∧ Q x = true) ↔ (x < n ∧ Q x = true) := by constructor <;> (intro ⟨a, b⟩; exact ⟨by omega, b⟩)
      simp only [this]
      omega
/-- an injection of the numbers below n into themselves takes every one -/
theorem surj_of_inj : ∀ (n : Nat) (f : Nat → Nat), (∀ i, i < n → f i < n) → (∀ i j, i < n → j < n → f i = f j → i = j) → ∀ r, r < n → ∃ i, i < n ∧ f i = r := by
  intro n
  induction n with
  | zero => intro f _ _ r h; omega
  | succ n ih =>
    intro f hb hi r hr
    -- swap the value n away
    by_cases hl : f n = n
    · by_cases e : r = n
      · exact ⟨n, by omega, by rw [hl, e]⟩
      · obtain ⟨i, h1, h2⟩ := ih f (fun i h => by
          have h3 := hb i (by omega)
          have h4 : f i ≠ n := fun q => by have := hi i n (by omega) (by omega) (q.trans hl.symm); omega
          omega) (fun i j h1 h2 => hi i j (by omega) (by omega)) r (by omega)
        exact ⟨i, by omega, h2⟩
    · have hln := hb n (by omega)
      obtain ⟨i, h1, h2⟩ := ih (fun i => if f i = n then f n else f i) (fun i h => by
          have h3 := hb i (by omega)
          split <;> omega) (fun i j h1 h2 h => by
          split at h <;> split at h
          · rename_i a b; exact hi i j (by omega) (by omega) (a.trans b.symm)
          · have := hi n j (by omega) (by omega) h; omega
          · have := hi i n (by omega) (by omega) h; omega
          · exact hi i j (by omega) (by omega) h) (if r = n then f n else r) (by split <;> omega)
      by_cases e : r = n
      · rw [if_pos e] at h2
        split at h2
        · rename_i a; exact ⟨i, by omega, by rw [a, e]⟩
        · have := hi i n (by omega) (by omega) h2; omega
      · rw [if_neg e] at h2
        split at h2
        · exact ⟨n, by omega, h2⟩
        · exact ⟨i, by omega, h2⟩
/-- the rank of a squawk -/
def rkP (L : List Int32) (p : Nat) : Nat → Bool := fun q => (q != p) && ahd L q p
def rk (L : List Int32) (p : Nat) : Nat := cnt (rkP L p) L.length
theorem rk_lt_of_ahd {L : List Int32} {p q : Nat} (hp : p < L.length) (hq : q < L.length) (h : ahd L p q = true) : rk L p < rk L q := by
  have hne : p ≠ q := fun e => by rw [e, ahd_irrefl] at h; cases h
  refine cnt_lt (x := p) (fun i hi hP => ?_) hp ?_ ?_
  · unfold rkP at *
    simp only [Bool.and_eq_true, bne_iff_ne, ne_eq] at *
    refine ⟨fun e => ?_, ahd_trans hi hp hq hP.2 h⟩
    have h2 := ahd_asymm h
    rw [← e, hP.2] at h2
    cases h2
  · unfold rkP; simp
  · unfold rkP; simp [h, hne]
theorem rk_lt {L : List Int32} {p : Nat} (hp : p < L.length) : rk L p < L.length := by
  have := cnt_lt (P := rkP L p) (Q := fun _ => true) (x := p) (n := L.length) (fun _ _ _ => rfl) hp (by unfold rkP; simp) rfl
  rw [cnt_all (fun _ _ => rfl)] at this
  exact this
theorem rk_inj {L : List Int32} {p q : Nat} (hp : p < L.length) (hq : q < L.length) (h : rk L p = rk L q) : p = q := by
  rcases Nat.decEq p q with hne | e
  · rcases ahd_total hp hq hne with x | x
    · have := rk_lt_of_ahd hp hq x; omega
    · have := rk_lt_of_ahd hq hp x; omega
  · exact e
theorem rk_iff {L : List Int32} {p q : Nat} (hp : p < L.length) (hq : q < L.length) : rk L p < rk L q ↔ ahd L p q = true := by
  refine ⟨fun h => ?_, rk_lt_of_ahd hp hq⟩
  by_cases e : p = q
  · subst e; omega
  · rcases ahd_total hp hq e with x | x
    · exact x
    · have := rk_lt_of_ahd hq hp x; omega
/-- the place of a rank -/
def plc (L : List Int32) (r : Nat) : Nat := ((List.range L.length).find? (fun p => rk L p == r)).getD 0
theorem plc_spec {L : List Int32} {r : Nat} (h : r < L.length) : plc L r < L.length ∧ rk L (plc L r) = r := by
  obtain ⟨i, h1, h2⟩ := surj_of_inj L.length (rk L) (fun i => rk_lt) (fun i j => rk_inj) r h
  unfold plc
  cases hf : (List.range L.length).find? (fun p => rk L p == r) with
  | none =>
    rw [List.find?_eq_none] at hf
    have := hf i (List.mem_range.mpr h1)
    simp [h2] at this
  | some x =>
    have h3 := List.find?_some hf
    have h4 := List.mem_of_find?_eq_some hf
    exact ⟨List.mem_range.mp h4, by simpa using h3⟩
theorem plc_rk {L : List Int32} {p : Nat} (h : p < L.length) : plc L (rk L p) = p := by
  have := plc_spec (rk_lt h)
  exact rk_inj this.1 h this.2
