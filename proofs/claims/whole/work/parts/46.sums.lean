/-! the math of sums, tests, orders and days -/
/-- the codes of steps are the numbers of tokens; an atom puts a number -/
def isAt (c : Nat) : Bool := c == 3 || (Nat.ble 11 c && Nat.ble c 16) || c == 18
def isBi (c : Nat) : Bool := (Nat.ble 20 c && Nat.ble c 23) || (Nat.ble 30 c && Nat.ble c 38)
/-- the reference's number of a step -/
def rc (c : Nat) : Nat := if c = 3 then 100 else if c = 4 then 105 else if c ≤ 23 then c - 5 else if c ≤ 33 then c + 71 else c + 72
def bop (c : Nat) (a b : Int32) : Int32 :=
  if c = 30 then a + b else if c = 31 then a - b else if c = 32 then a * b else if c = 33 then (if b = 0 then 0 else a / b)
  else if c = 22 then (if b < a then b else a) else if c = 23 then (if a < b then b else a)
  else if c = 34 then b2i (decide (a < b)) else if c = 35 then b2i (decide (b < a)) else if c = 36 then b2i (decide (a = b))
  else if c = 37 then b2i (decide (a ≤ b)) else if c = 38 then b2i (decide (b ≤ a)) else if c = 20 then a &&& b else a ||| b
/-- one step over a stack, none where it isn't one that a grammar makes -/
def stp (atm : Nat → Int32 → Int32) (c : Nat) (x : Int32) (st : List Int32) : Option (List Int32) :=
  if isAt c = true then (if st.length < 64 then some (atm c x :: st) else none)
  else if c = 4 then (match st with
    | v :: r => some (-v :: r)
    | [] => none)
  else if c = 19 then (match st with
    | v :: r => if v = 0 ∨ v = 1 then some (b2i (decide (v = 0)) :: r) else none
    | [] => none)
  else if isBi c = true then (match st with
    | b :: a :: r => some (bop c a b :: r)
    | _ => none)
  else none
def rn (atm : Nat → Int32 → Int32) (S : Nat → Nat × Int32) : Nat → Nat → List Int32 → Option (List Int32)
  | 0, _, st => some st
  | n + 1, i, st => match stp atm (S i).1 (S i).2 st with
    | none => none
    | some st' => rn atm S n (i + 1) st'
/-- what an atom puts: letters L, a day, the words of the insults -/
def atm (L : List Int32) (day : Int32) (Ws : Nat → List Nat) (c : Nat) (x : Int32) : Int32 :=
  if c = 3 then x else if c = 11 then day else if c = 12 then nI L.length else if c = 13 then nI (lon L) else if c = 14 then nI (akU L L.length)
  else if c = 15 then nI (cnt (stands L (wl (Ws x.toNatClampNeg))) L.length) else if c = 16 then oI (fstA (stands L (wl (Ws x.toNatClampNeg))) L.length 0)
  else b2i (fstA (stands L (wl (Ws x.toNatClampNeg))) L.length 0).isSome
/-- an order: what it does (6 hear, 7 mock, 8 echo, 9 forget), the insult, the word; where its sum and its test begin, where both end -/
abbrev OrM : Type := (Nat × Nat × List Nat) × (Nat × Nat × Nat)
/-- a plan: insults, their words; orders; steps -/
abbrev PlM : Type := (Nat × (Nat → List Nat)) × (Nat × (Nat → OrM)) × (Nat × (Nat → Nat × Int32))
def vl (P : PlM) (L : List Int32) (day : Int32) (s t : Nat) : Int32 := match rn (atm L day P.1.2) P.2.2.2 (t - s) s [] with
  | some (v :: _) => v
  | _ => 0
/-- what a sum or a test of a plan must be: it leaves one number -/
def OkS (P : PlM) (s t : Nat) (b : Bool) : Prop := ∀ (at' : Nat → Int32 → Int32), (∀ x, at' 18 x = 0 ∨ at' 18 x = 1) → ∃ v, rn at' P.2.2.2 (t - s) s [] = some [v] ∧ (b = true → v = 0 ∨ v = 1)
theorem vl_of {P : PlM} {s t : Nat} {b : Bool} (h : OkS P s t b) (L : List Int32) (day : Int32) : rn (atm L day P.1.2) P.2.2.2 (t - s) s [] = some [vl P L day s t] ∧ (b = true → vl P L day s t = 0 ∨ vl P L day s t = 1) := by
  obtain ⟨v, h1, h2⟩ := h (atm L day P.1.2) (fun x => by
    show b2i _ = 0 ∨ b2i _ = 1
    cases (fstA (stands L (wl (P.1.2 x.toNatClampNeg))) L.length 0).isSome <;> simp [b2i])
  unfold vl
  rw [h1]
  exact ⟨rfl, h2⟩
def OkO (P : PlM) (o : OrM) : Prop := (o.2.1 ≤ o.2.2.1 ∧ o.2.2.1 ≤ o.2.2.2 ∧ o.2.2.2 ≤ P.2.2.1) ∧ (o.2.2.1 ≠ o.2.2.2 → OkS P o.2.2.1 o.2.2.2 true) ∧ ((o.1.1 = 6 ∧ 1 ≤ o.1.2.2.length ∧ o.1.2.2.length ≤ 10 ∧ dg o.1.2.2) ∨ (o.1.1 = 7 ∧ o.1.2.1 < P.1.1) ∨ ((o.1.1 = 8 ∨ o.1.1 = 9) ∧ OkS P o.2.1 o.2.2.1 false))
def OkP (P : PlM) : Prop := (P.1.1 ≤ 8 ∧ ∀ i, i < P.1.1 → 1 ≤ (P.1.2 i).length ∧ (P.1.2 i).length ≤ 10 ∧ dg (P.1.2 i)) ∧ (P.2.1.1 ≤ 16 ∧ ∀ k, k < P.2.1.1 → OkO P (P.2.1.2 k)) ∧ (P.2.2.1 ≤ 400 ∧ ∀ j, j < P.2.2.1 → ((P.2.2.2 j).1 = 15 ∨ (P.2.2.2 j).1 = 16 ∨ (P.2.2.2 j).1 = 18) → ∃ i, i < P.1.1 ∧ (P.2.2.2 j).2 = nI i)
def hld (P : PlM) (o : OrM) (L : List Int32) (day : Int32) : Bool := decide (o.2.2.1 = o.2.2.2) || decide (vl P L day o.2.2.1 o.2.2.2 = 1)
/-- what an order does: is it carried out, the letters behind it -/
def dos (P : PlM) (o : OrM) (L : List Int32) (day : Int32) : Bool × List Int32 :=
  if o.1.1 = 6 then (true, (wl o.1.2.2).foldl hearL L) else if o.1.1 = 7 then (true, (wl (P.1.2 o.1.2.1)).foldl hearL L)
  else if o.1.1 = 8 then (decide (clampN (vl P L day o.2.1 o.2.2.1) L.length ≠ 0), (L.drop (L.length - clampN (vl P L day o.2.1 o.2.2.1) L.length)).foldl hearL L)
  else (decide (clampN (vl P L day o.2.1 o.2.2.1) L.length ≠ 0), L.drop (clampN (vl P L day o.2.1 o.2.2.1) L.length))
def od1 (P : PlM) (o : OrM) (day : Int32) (s : List Int32 × Int32) : List Int32 × Int32 :=
  if hld P o s.1 day = true then ((dos P o s.1 day).2, s.2 + b2i (dos P o s.1 day).1) else s
/-- the first k orders of a day -/
def odU (P : PlM) (day : Int32) (s : List Int32 × Int32) : Nat → List Int32 × Int32
  | 0 => s
  | k + 1 => od1 P (P.2.1.2 k) day (odU P day s k)
/-- days: letters, carried out, the day -/
def dyU (P : PlM) (s : (List Int32 × Int32) × Int32) : Nat → (List Int32 × Int32) × Int32
  | 0 => s
  | d + 1 => (odU P (dyU P s d).2 (dyU P s d).1 P.2.1.1, (dyU P s d).2 + 1)
theorem dos_len {P : PlM} {o : OrM} {L : List Int32} {day : Int32} (h : L.length ≤ 40) : (dos P o L day).2.length ≤ 40 := by
  unfold dos
  repeat' split
  · exact foldl_hearL_len h
  · exact foldl_hearL_len h
  · exact foldl_hearL_len h
  · show (L.drop _).length ≤ 40
    rw [List.length_drop]; omega
theorem od1_len {P : PlM} {o : OrM} {day : Int32} {s : List Int32 × Int32} (h : s.1.length ≤ 40) : (od1 P o day s).1.length ≤ 40 := by
  unfold od1
  split
  · exact dos_len h
  · exact h
theorem odU_len {P : PlM} {day : Int32} {s : List Int32 × Int32} (h : s.1.length ≤ 40) : ∀ k, (odU P day s k).1.length ≤ 40 := by
  intro k
  induction k with
  | zero => exact h
  | succ k ih => exact od1_len ih
theorem dyU_len {P : PlM} {s : (List Int32 × Int32) × Int32} (h : s.1.1.length ≤ 40) : ∀ d, (dyU P s d).1.1.length ≤ 40 := by
  intro d
  induction d with
  | zero => exact h
  | succ d ih => exact odU_len ih _
theorem rn_last {atm : Nat → Int32 → Int32} {S : Nat → Nat × Int32} : ∀ {n i : Nat} {st st' : List Int32}, rn atm S (n + 1) i st = some st' → ∃ st1, stp atm (S i).1 (S i).2 st = some st1 ∧ rn atm S n (i + 1) st1 = some st' := by
  intro n i st st' h
  unfold rn at h
  split at h
  · cases h
  · exact ⟨_, by assumption, h⟩
theorem stp_len {at' : Nat → Int32 → Int32} {c : Nat} {x : Int32} {st st' : List Int32} (hl : st.length ≤ 64) (h : stp at' c x st = some st') : st'.length ≤ 64 := by
  unfold stp at h
  split at h
  · split at h
    · cases h; show st.length + 1 ≤ 64; omega
    · cases h
  · split at h
    · cases st with
      | nil => cases h
      | cons v r => cases h; exact hl
    · split at h
      · cases st with
        | nil => cases h
        | cons v r =>
          simp only at h
          split at h
          · cases h; exact hl
          · cases h
      · split at h
        · cases st with
          | nil => cases h
          | cons b r =>
            cases r with
            | nil => cases h
            | cons a r => cases h; rw [List.length_cons, List.length_cons] at hl; show r.length + 1 ≤ 64; omega
        · cases h
