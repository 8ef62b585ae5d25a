/-! the reference: all depths of tests; an order, a line, the book -/
theorem m12_isSingle {X : gX} {m c pl q n d dp ku : Nat} {f : Nat → Int32} {R : rEn} {lo : Option (PF × PF)} {u : PF} (h2 : 2 ≤ d) (hq : m + 25 ≤ q) (hT : RcT n f R) (hu : RCt X m c pl q n f R yX12_isSum cX12_isSum 3 d dp u) (hPu : Pg (tkk n f) (tkl n f) u false ku) (hL : RLt X m c pl q n f R d dp lo) : RCt X m c pl q n f R yX12_isSingle cX12_isSingle 3 (d + 2) dp (pS (tkk n f) lo u) := by
  intro h z s0 hs0 hR0
  by_cases h19 : tkk n f s0.1 = 19
  · exact m12_isSingle_19 h2 hq hT hL h z s0 hs0 hR0 h19
  · by_cases h26 : tkk n f s0.1 = 26
    · exact m12_isSingle_26 h2 hq hT hL h z s0 hs0 hR0 h26
    · by_cases h18 : tkk n f s0.1 = 18
      · exact m12_isSingle_18 h2 hq hT hL h z s0 hs0 hR0 h18
      · exact m12_isSingle_el (m12_isCompare hq hT hPu hu) h2 hq hT hL h z s0 hs0 hR0 ⟨h19, h26, h18⟩
set_option maxRecDepth 100000 in
theorem rvT_ct {X : gX} {m c pl q n : Nat} {f : Nat → Int32} {R : rEn} (hq : m + 25 ≤ q) (hT : RcT n f R) : ∀ D, D ≤ 8 → RCt X m c pl q n f R yX12_isSingle cX12_isSingle 3 (8 + 4 * D) (8 - D) (lvT (tkk n f) (tku n f) D).1 ∧ RCt X m c pl q n f R yX12_isTest cX12_isTest 2 (10 + 4 * D) (8 - D) (lvT (tkk n f) (tku n f) D).2 := by
  have hl := (tkl_spec n f).2.1
  intro D
  induction D with
  | zero =>
    intro _
    have hs := (rvV_ct (X := X) (c := c) (pl := pl) (f := f) hq hT 0 (Nat.zero_le _)).2
    have hps := (lvV_ok (nu := tku n f) hl 0).2
    have h := m12_isSingle (f := f) (d := 6) (dp := 8) (lo := none) (by decide) hq hT hs hps ⟨Nat.le_refl _, fun _ => rfl, fun w e => by cases e⟩
    have hp := Pg.s hl none hps (fun w e => by cases e)
    exact ⟨h, m12_isTest (d := 9) (by decide) hq hT (Pg.ch hl opA_ok hp) (m12_isBoth (d := 8) (by decide) hq hT hp h)⟩
  | succ D ih =>
    intro hD
    obtain ⟨i1, i2⟩ := ih (by omega)
    obtain ⟨k1, k2⟩ := lvT_ok (nu := tku n f) hl D
    have hs := (rvV_ct (X := X) (c := c) (pl := pl) (f := f) hq hT (D + 1) hD).2
    have hps := (lvV_ok (nu := tku n f) hl (D + 1)).2
    have e8 : 8 - (D + 1) + 1 = 8 - D := by omega
    rw [show 6 + 4 * (D + 1) = 10 + 4 * D by omega] at hs
    have h := m12_isSingle (f := f) (d := 10 + 4 * D) (dp := 8 - (D + 1)) (lo := some (lvT (tkk n f) (tku n f) D)) (by omega) hq hT hs hps ⟨by omega, (fun e => by cases e), fun w e => by
      cases e
      rw [e8]
      exact ⟨by omega, ⟨_, by omega, i1⟩, i2, ⟨_, k1⟩, _, k2⟩⟩
    have hp := (lvT_ok (nu := tku n f) hl (D + 1)).1
    rw [show 10 + 4 * D + 2 = 8 + 4 * (D + 1) by omega] at h
    have h2 := m12_isBoth (d := 8 + 4 * (D + 1)) (by omega) hq hT hp h
    rw [show 8 + 4 * (D + 1) + 1 = 9 + 4 * (D + 1) by omega] at h2
    have h3 := m12_isTest (d := 9 + 4 * (D + 1)) (by omega) hq hT (Pg.ch hl opA_ok hp) h2
    rw [show 9 + 4 * (D + 1) + 1 = 10 + 4 * (D + 1) by omega] at h3
    exact ⟨h, h3⟩
/-- one number of an order is written -/
abbrev rsB (R : rEn) (j k : Nat) (x : Int32) : rEn := (R.1, R.2.1, R.2.2.1, R.2.2.2.1, va_up R.2.2.2.2.1 j (upd (R.2.2.2.2.1 j) k x), R.2.2.2.2.2)
theorem RcS.setB {X : gX} {h : gH} {m c pl q n dp : Nat} {f : Nat → Int32} {R : rEn} {s : PSt} {b : Bool} (hR : RcS X h m c pl q n f R s dp b) (hq : m + 25 ≤ q) (j k : Nat) (x : Int32) (hj : j < 7) : RcS X (gset h (q + po j) (gIA X (pz j) (upd (R.2.2.2.2.1 j) k x))) m c pl q n f (rsB R j k x) s dp b := by
  obtain ⟨I, A, J, B, h1, h2, h3, h4, h5, h6, h7, h8⟩ := hR
  have hi := po_in j (by omega)
  have e := h6 j (by omega) (by omega)
  have hQ := h2.ast (k := j) (j := k) (x := x) (by omega)
  rw [e] at hQ
  refine ⟨I, A, J, _, h1.offq (q := q) (OffB.rf.put (by omega) (by omega)) hq, hQ, h3, h4, h5, fun i a b => ?_, h7, fun w => ?_⟩
  · show va_up B j _ i = va_up R.2.2.2.2.1 j _ i
    by_cases e2 : i = j
    · subst e2; rw [vu_same, vu_same]
    · rw [vu_ne e2, vu_ne e2]; exact h6 i a b
  · obtain ⟨a1, a2, a3, a4⟩ := h8 w
    refine ⟨a1, a2, fun i y hy => ?_, a4⟩
    rw [vu_ne (by omega), vu_ne (by omega)]
    exact a3 i y hy
/-- the rows of orders, what was read before -/
def RsR (R R' : rEn) : Prop := (∀ j, j ≠ 5 → R'.1 j = R.1 j) ∧ R'.2.1 = R.2.1 ∧ R'.2.2.1 = R.2.2.1 ∧ R'.2.2.2.1 = R.2.2.2.1 ∧ (∀ k, k ≠ 2 → k ≠ 4 → k ≠ 5 → k ≠ 6 → R'.2.2.2.2.1 k = R.2.2.2.2.1 k) ∧ R'.2.2.2.2.2 = R.2.2.2.2.2
theorem RsR.rf {R : rEn} : RsR R R := ⟨fun _ _ => rfl, rfl, rfl, rfl, fun _ _ _ _ _ => rfl, rfl⟩
theorem RsR.T {R R' : rEn} {n : Nat} {f : Nat → Int32} (h : RsR R R') (hT : RcT n f R) : RcT n f R' := fun i hi => by rw [h.2.1, h.2.2.1]; exact hT i hi
theorem RsR.b {R R' : rEn} (h : RsR R R') {j k : Nat} {x : Int32} (hj : j = 2 ∨ j = 4 ∨ j = 5 ∨ j = 6) : RsR R (rsB R' j k x) := ⟨h.1, h.2.1, h.2.2.1, h.2.2.2.1, fun i a b c d => by show va_up R'.2.2.2.2.1 j _ i = _; rw [vu_ne (by omega)]; exact h.2.2.2.2.1 i a b c d, h.2.2.2.2.2⟩
/-- the orders that were read lie in the rows -/
def RbO (R : rEn) (L : List OrT) : Prop := R.1 5 = nI L.length ∧ (L.length ≤ 16 → ∀ k o, L[k]? = some o → R.2.2.2.2.1 2 k = nI (kd o.1) ∧ R.2.2.2.2.1 4 k = nI o.2.2.1 ∧ R.2.2.2.2.1 5 k = nI o.2.2.2.1 ∧ R.2.2.2.2.1 6 k = nI o.2.2.2.2)
def RbS (X : gX) (h : gH) (m c pl q n : Nat) (f : Nat → Int32) (R : rEn) (s : PLt) (b : Bool) : Prop := ∃ R', RsR R R' ∧ RcS X h m c pl q n f R' s.1 0 b ∧ (b = true → RbO R' s.2)
theorem RbO.snoc {R R' : rEn} {L : List OrT} {o : OrT} (h : RbO R L) (h5 : R'.1 5 = nI (L.length + 1)) (hs : ∀ k, k ≠ min 15 L.length → R'.2.2.2.2.1 2 k = R.2.2.2.2.1 2 k ∧ R'.2.2.2.2.1 4 k = R.2.2.2.2.1 4 k ∧ R'.2.2.2.2.1 5 k = R.2.2.2.2.1 5 k ∧ R'.2.2.2.2.1 6 k = R.2.2.2.2.1 6 k) (hn : R'.2.2.2.2.1 2 (min 15 L.length) = nI (kd o.1) ∧ R'.2.2.2.2.1 4 (min 15 L.length) = nI o.2.2.1 ∧ R'.2.2.2.2.1 5 (min 15 L.length) = nI o.2.2.2.1 ∧ R'.2.2.2.2.1 6 (min 15 L.length) = nI o.2.2.2.2) : RbO R' (L ++ [o]) := by
  refine ⟨by rw [List.length_append]; exact h5, fun hl k x hx => ?_⟩
  rw [List.length_append] at hl
  have hl2 : L.length + 1 ≤ 16 := hl
  have hm : min 15 L.length = L.length := by omega
  rcases Nat.lt_trichotomy k L.length with w | w | w
  · rw [List.getElem?_append_left w] at hx
    obtain ⟨a1, a2, a3, a4⟩ := hs k (by omega)
    rw [a1, a2, a3, a4]
    exact h.2 (by omega) k x hx
  · rw [List.getElem?_append_right (by omega), w, Nat.sub_self] at hx
    cases hx
    rw [w, ← hm]
    exact hn
  · rw [List.getElem?_append_right (by omega), List.getElem?_eq_none (by show 1 ≤ _; omega)] at hx
    cases hx
