/-! the reference as a whole; answers about places -/
/-- the reference at m: a tape f of n bytes, the plan P at pl, the letters L, the day, what was carried out, where the error was, what was thrown last -/
def RefS (X : gX) (h : gH) (m pl n : Nat) (f : Nat → Int32) (P : PlM) (L : List Int32) (day car err t : Int32) : Prop := ∃ I A V, MdV X h m pl L I A V ∧ (I 0 = t ∧ I 1 = nI n ∧ I 2 = err ∧ I 6 = day ∧ I 7 = car) ∧ (A 0 = f ∧ n ≤ 2000 ∧ ∀ j, f j ≠ -1) ∧ MpP X h pl P ∧ OkP P ∧ (pl = m + 2 ∨ m + 25 ≤ pl)
/-- an answer: v, thrown t, nothing told of has changed -/
abbrev rfA (X : gX) (h : gH) (z m pl n : Nat) (f : Nat → Int32) (P : PlM) (L : List Int32) (day car err : Int32) (v t : Int32) : Option Value → gH → Nat → Prop := fun r h' z' => r = some (.int v) ∧ z' = z ∧ RefS X h' m pl n f P L day car err t ∧ OffM h h' m
theorem sub1_int : ∀ c, c ≤ 400 → (nI c - nI 1).toInt = (c : Int) - 1 := by decide +kernel
theorem isPl {c : Nat} {p : Int32} (hc : c ≤ 400) : (0 ≤ p ∧ p ≤ nI c - nI 1) ↔ (p = nI p.toNatClampNeg ∧ p.toNatClampNeg < c) := by
  have h0 : (0 : Int32).toInt = 0 := rfl
  have h1 := sub1_int c hc
  have hp : p.toNatClampNeg = p.toInt.toNat := rfl
  simp only [Int32.le_iff_toInt_le, h0, h1]
  constructor
  · rintro ⟨a, b⟩
    refine ⟨Int32.toInt_inj.mp ?_, by omega⟩
    rw [nI_toInt (by omega)]
    omega
  · rintro ⟨a, b⟩
    have h2 := congrArg Int32.toInt a
    rw [nI_toInt (by omega)] at h2
    omega
