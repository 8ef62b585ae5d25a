/-! words in letters, halving, repeats: as programs over numbers -/
def stands (L W : List Int32) (p : Nat) : Bool := decide (p + W.length ≤ L.length ∧ ∀ i, i < W.length → lt L (p + i) = lt W i)
/-- the first number from j on, m of them looked at -/
def fstA (P : Nat → Bool) : Nat → Nat → Option Nat
  | 0, _ => none
  | m + 1, j => if P j = true then some j else fstA P m (j + 1)
/-- the last number below m -/
def lstA (P : Nat → Bool) : Nat → Option Nat
  | 0 => none
  | m + 1 => if P m = true then some m else lstA P m
def oI : Option Nat → Int32
  | none => -1
  | some k => nI k
/-- the squawk of a place comes ahead of a word -/
def abfA (L W : List Int32) (p : Nat) : Nat → Nat → Bool
  | 0, _ => false
  | m + 1, i => if L.length ≤ p + i then true else if lt L (p + i) = lt W i then abfA L W p m (i + 1) else decide (lt L (p + i) < lt W i)
def abf (L W : List Int32) (p : Nat) : Bool := abfA L W p W.length 0
def hvA (L W : List Int32) : Nat → Nat → Nat → Nat → Nat
  | 0, _, _, s => s
  | f + 1, lo, hi, s => if lo < hi then (if abf L W (plc L ((lo + hi) / 2)) = true then hvA L W f ((lo + hi) / 2 + 1) hi (s + 1) else hvA L W f lo ((lo + hi) / 2) (s + 1)) else s
def hv (L W : List Int32) : Nat := hvA L W 40 0 L.length 0
def frP (L : List Int32) (r : Nat) : Bool := decide (0 < lon L ∧ shr L r = lon L)
def frr (L : List Int32) : Option Nat := (fstA (frP L) (L.length - 1) 1).map (fun r => r - 1)
def rpA (L : List Int32) : Nat → Nat → Nat → Nat
  | 0, _, x => x
  | m + 1, r, x => if lon L ≤ shr L r then rpA L m (r + 1) (min x (plc L r)) else x
def rcA (L : List Int32) : Nat → Nat → Nat → Nat
  | 0, _, x => x
  | m + 1, r, x => if lon L ≤ shr L r then rcA L m (r + 1) (x + 1) else x
def rpI (L : List Int32) : Int32 := match frr L with
  | none => -1
  | some r => nI (rpA L (L.length - (r + 1)) (r + 1) (plc L r))
def rcI (L : List Int32) : Nat := match frr L with
  | none => 0
  | some r => rcA L (L.length - (r + 1)) (r + 1) 1
def alA (L : List Int32) (last : Nat) : Nat → Nat → Nat
  | 0, k => k
  | f + 1, k => if lt L (last - k) = lt L (L.length - 1 - k) then alA L last f (k + 1) else k
def alk (L : List Int32) (last : Nat) : Nat := alA L last (last + 1) 0
def eseU (L : List Int32) : Nat → Nat
  | 0 => 0
  | m + 1 => max (eseU L m) (alk L m)
def ese (L : List Int32) : Nat := eseU L (L.length - 1)
def dpP (L : List Int32) (k r : Nat) : Bool := decide (k ≤ L.length - plc L r ∧ shr L r < k)
def rwP (L : List Int32) (k r : Nat) : Bool := decide (1 ≤ r ∧ k ≤ shr L r ∧ shr L (r - 1) < k)
theorem alA_le {L : List Int32} {last : Nat} : ∀ {f k : Nat}, alA L last f k ≤ k + f := by
  intro f
  induction f with
  | zero => intro k; exact Nat.le_refl _
  | succ f ih => intro k; unfold alA; split; have := ih (k := k + 1); omega; omega
theorem alk_le {L : List Int32} {last : Nat} : alk L last ≤ last + 1 := by have := alA_le (L := L) (last := last) (f := last + 1) (k := 0); unfold alk; omega
theorem eseU_le {L : List Int32} : ∀ {m : Nat}, eseU L m ≤ m := by
  intro m
  induction m with
  | zero => exact Nat.le_refl _
  | succ m ih => unfold eseU; have := alk_le (L := L) (last := m); omega
theorem nI_max {a b : Nat} (ha : a < 2 ^ 31) (hb : b < 2 ^ 31) : (if nI a < nI b then nI b else nI a) = nI (max a b) := by
  simp only [nI_ltI ha hb]
  split
  · rw [Nat.max_eq_right (by omega)]
  · rw [Nat.max_eq_left (by omega)]
theorem nI_min {a b : Nat} (ha : a < 2 ^ 31) (hb : b < 2 ^ 31) : (if nI b < nI a then nI b else nI a) = nI (min a b) := by
  simp only [nI_ltI hb ha]
  split
  · rw [Nat.min_eq_right (by omega)]
  · rw [Nat.min_eq_left (by omega)]
theorem fstA_none {P : Nat → Bool} : ∀ {m j : Nat}, fstA P m j = none ↔ ∀ i, j ≤ i → i < j + m → P i = false := by
  intro m
  induction m with
  | zero => intro j; exact ⟨fun _ i h1 h2 => by omega, fun _ => rfl⟩
  | succ m ih =>
    intro j
    unfold fstA
    by_cases h : P j = true
    · rw [if_pos h]
      exact ⟨fun x => (by cases x), fun x => by rw [x j (Nat.le_refl _) (by omega)] at h; cases h⟩
    · rw [if_neg h, ih]
      refine ⟨fun x i h1 h2 => ?_, fun x i h1 h2 => x i (by omega) (by omega)⟩
      by_cases e : i = j
      · subst e; simpa using h
      · exact x i (by omega) (by omega)
theorem fstA_some {P : Nat → Bool} : ∀ {m j k : Nat}, fstA P m j = some k ↔ (j ≤ k ∧ k < j + m ∧ P k = true ∧ ∀ i, j ≤ i → i < k → P i = false) := by
  intro m
  induction m with
  | zero => intro j k; exact ⟨fun x => (by cases x), fun x => by omega⟩
  | succ m ih =>
    intro j k
    unfold fstA
    by_cases h : P j = true
    · rw [if_pos h]
      refine ⟨fun x => (by cases x; exact ⟨Nat.le_refl _, by omega, h, fun i h1 h2 => by omega⟩), fun x => ?_⟩
      by_cases e : j = k
      · rw [e]
      · have := x.2.2.2 j (Nat.le_refl _) (by omega)
        rw [this] at h; cases h
    · rw [if_neg h, ih]
      refine ⟨fun x => ⟨by omega, by omega, x.2.2.1, fun i h1 h2 => ?_⟩, fun x => ?_⟩
      · by_cases e : i = j
        · subst e; simpa using h
        · exact x.2.2.2 i (by omega) h2
      · have : k ≠ j := fun e => h (e ▸ x.2.2.1)
        exact ⟨by omega, by omega, x.2.2.1, fun i h1 h2 => x.2.2.2 i (by omega) h2⟩
