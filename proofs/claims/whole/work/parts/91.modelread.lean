/-! the reference: a tape is read -/
theorem bkR_ps {n : Nat} {f : Nat → Int32} : PsOk n f (bkR n f).2.1 := by
  have key : ∀ (N : Nat) (s : PLt), BkOk n f s → PsOk n f (pBk (tkk n f) (tku n f) N s).2.1 := by
    intro N
    induction N with
    | zero => intro s h1; exact h1.1
    | succ N ih =>
      intro s h1
      have hpb : pBk (tkk n f) (tku n f) (N + 1) s = (if tkk n f s.1.1 = 1 then (true, s) else if (pLn (tkk n f) (tku n f) s).1 = true then (if tkk n f (pLn (tkk n f) (tku n f) s).2.1.1 = 28 then pBk (tkk n f) (tku n f) N (((pLn (tkk n f) (tku n f) s).2.1.1 + 1, (pLn (tkk n f) (tku n f) s).2.1.2), (pLn (tkk n f) (tku n f) s).2.2) else (false, (pLn (tkk n f) (tku n f) s).2)) else (false, (pLn (tkk n f) (tku n f) s).2)) := rfl
      rw [hpb]
      by_cases e1 : tkk n f s.1.1 = 1
      · rw [if_pos e1]; exact h1.1
      · rw [if_neg e1]
        by_cases e2 : (pLn (tkk n f) (tku n f) s).1 = true
        · rw [if_pos e2]
          by_cases e3 : tkk n f (pLn (tkk n f) (tku n f) s).2.1.1 = 28
          · rw [if_pos e3]
            have b1 := ((pLn_ok h1).2.2 e2).1
            have p3 := PsOk.step b1.1 (Ps.tk (tkl_spec n f).2.1 (c := 28) (by decide)) (by decide) (by decide)
            rw [pTk_y e3] at p3
            exact ih _ ⟨p3, b1.2.1, b1.2.2⟩
          · rw [if_neg e3]; exact (pLn_ok h1).1
        · rw [if_neg e2]; exact (pLn_ok h1).1
  exact key 401 ((0, [], []), []) ⟨⟨Nat.zero_le _, Nat.zero_le _, VS.nil, fun x hx => by cases hx⟩, rfl, fun o ho => by cases ho⟩
/-- the plan in the rows of the reference, when all news was heeded -/
theorem MpP.of {X : gX} {h : gH} {q n : Nat} {f : Nat → Int32} {s : PLt} {J : Nat → Int32} {B : Nat → Nat → Int32} {U W : Nat → Int64} {B0 : Nat → Nat → Int32} {R : rEn} (hB : BkOk n f s) (hN : BkN s) (he : (seF n f s.1.2.2).2.2.1 = 0) (hP : MpB X h q J B U W) (h0 : J 0 = nI (seF n f s.1.2.2).1.length) (h1 : J 1 = nI (seF n f s.1.2.2).2.1) (h2 : J 2 = nI s.1.2.1.length) (hw : ∀ i, i < (seF n f s.1.2.2).1.length → MpW B i (wl ((seF n f s.1.2.2).1.getD i []))) (h8 : ∀ k, k = 2 ∨ (4 ≤ k ∧ k < 7) → B k = R.2.2.2.2.1 k) (hO : RbO R s.2) (hx : ∀ j x, s.1.2.1[j]? = some x → B 7 j = nI (rc x.1) ∧ B 8 j = xvW n f (seF n f s.1.2.2).1 x) (ho : ∀ i o, s.2[i]? = some o → (o.1 = 6 → (3, o.2.1) ∈ s.1.2.2 → W i = lN (nm (tkn n f o.2.1))) ∧ (o.1 = 7 → (4, o.2.1) ∈ s.1.2.2 → B 3 i = oI (fnd (seF n f s.1.2.2).1 (tkn n f o.2.1)))) : MpP X h q (plM n f s) := by
  have hno := hB.1.ws.2
  have hcn := seF_cnt he
  refine ⟨J, B, U, W, hP, ⟨h0, by show J 1 = nI s.2.length; rw [h1, hcn, hB.2.1], h2⟩, hw, fun k hk => ?_, fun j hj => ?_⟩
  · have hk2 : k < s.2.length := hk
    have hg := (getD_mem (d := (0, 0, 0, 0, 0)) hk2)
    have hok := hB.2.2 _ hg.1
    obtain ⟨b1, b2, b3, b4⟩ := hO.2 (by rw [hB.2.1, ← hcn]; exact hno) k _ hg.2
    obtain ⟨o6, o7⟩ := ho k _ hg.2
    show B 2 k = nI ((s.2.getD k (0, 0, 0, 0, 0)).1 - 5) ∧ ((s.2.getD k (0, 0, 0, 0, 0)).1 = 6 → W k = lN (nm (tkn n f (s.2.getD k (0, 0, 0, 0, 0)).2.1))) ∧ ((s.2.getD k (0, 0, 0, 0, 0)).1 = 7 → B 3 k = nI ((fnd (seF n f s.1.2.2).1 (tkn n f (s.2.getD k (0, 0, 0, 0, 0)).2.1)).getD 0)) ∧ B 4 k = nI (s.2.getD k (0, 0, 0, 0, 0)).2.2.1 ∧ B 5 k = nI (s.2.getD k (0, 0, 0, 0, 0)).2.2.2.1 ∧ B 6 k = nI (s.2.getD k (0, 0, 0, 0, 0)).2.2.2.2
    generalize s.2.getD k (0, 0, 0, 0, 0) = o at *
    refine ⟨?_, fun q6 => o6 q6 (hok.2.2.1 q6), fun q7 => ?_, ?_, ?_, ?_⟩
    · rw [h8 2 (Or.inl rfl), b1, kd_word _ (by have := hok.1.1; omega) (by have := hok.1.2; omega)]
    · rw [o7 q7 (hok.2.2.2.1 q7)]
      obtain ⟨-, -, -, h6⟩ := seF_fine s.1.2.2 ([], 0, 0, 0) he
      obtain ⟨i, hi⟩ := Option.isSome_iff_exists.mp ((h6 _ (hok.2.2.2.1 q7)).2 (Or.inl rfl))
      have hi2 : fnd (seF n f s.1.2.2).1 (tkn n f o.2.1) = some i := hi
      rw [hi2]; rfl
    · rw [h8 4 (Or.inr ⟨by decide, by decide⟩), b2]
    · rw [h8 5 (Or.inr ⟨by decide, by decide⟩), b3]
    · rw [h8 6 (Or.inr ⟨by decide, by decide⟩), b4]
  · have hj2 : j < s.1.2.1.length := hj
    exact hx j _ (getD_mem (d := (0, 0)) hj2).2
