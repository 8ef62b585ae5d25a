/-! the math of a tape: lines, orders, the plan that is told -/
/-- an order as it is read: what it does, the token of its name, where its sum and its test begin, where both end -/
abbrev OrT : Type := Nat × Nat × Nat × Nat × Nat
abbrev PLt : Type := PSt × List OrT
section BOOK
variable (K : Nat → Nat) (nu : Nat → Nat)
def pWh (act : Nat) : PF := if act = 6 then pNm K 3 else if act = 7 then pNm K 4 else (lvV K nu 8).2
/-- the order whose action is the token looked at -/
def pOr (s : PLt) : Bool × PLt :=
  let r := pWh K nu (K s.1.1) (s.1.1 + 1, s.1.2.1, s.1.2.2 ++ [(2, s.1.1)])
  if r.1 = true then
    let q := if K r.2.1 = 10 then (lvT K nu 8).2 (r.2.1 + 1, r.2.2) else (true, r.2)
    if q.1 = true then (true, (q.2, s.2 ++ [(K s.1.1, s.1.1 + 1, s.1.2.1.length, r.2.2.1.length, q.2.2.1.length)])) else (false, (q.2, s.2))
  else (false, (r.2, s.2))
def pLn (s : PLt) : Bool × PLt :=
  if K s.1.1 = 5 then ((pNm K 1 (s.1.1 + 1, s.1.2)).1, ((pNm K 1 (s.1.1 + 1, s.1.2)).2, s.2))
  else if 6 ≤ K s.1.1 ∧ K s.1.1 ≤ 9 then pOr K nu s else (false, s)
def pBk : Nat → PLt → Bool × PLt
  | 0, s => (true, s)
  | n + 1, s => if K s.1.1 = 1 then (true, s) else
    if (pLn K nu s).1 = true then (if K (pLn K nu s).2.1.1 = 28 then pBk n (((pLn K nu s).2.1.1 + 1, (pLn K nu s).2.1.2), (pLn K nu s).2.2) else (false, (pLn K nu s).2)) else (false, (pLn K nu s).2)
end BOOK
/-- the steps from s to b -/
def slc (E : List (Nat × Nat)) (s b : Nat) : List (Nat × Nat) := (E.drop s).take (b - s)
theorem slc_len {E : List (Nat × Nat)} {s b : Nat} (h : b ≤ E.length) : (slc E s b).length = b - s := by unfold slc; rw [List.length_take, List.length_drop]; omega
theorem slc_app {E X : List (Nat × Nat)} {s b : Nat} (h1 : s ≤ b) (h : b ≤ E.length) : slc (E ++ X) s b = slc E s b := by
  unfold slc
  rw [List.drop_append_of_le_length (by omega), List.take_append_of_le_length (by rw [List.length_drop]; omega)]
theorem slc_end {E X : List (Nat × Nat)} : slc (E ++ X) E.length (E ++ X).length = X := by
  unfold slc
  rw [List.drop_append_of_le_length (Nat.le_refl _), List.drop_length, List.nil_append, List.length_append, Nat.add_sub_cancel_left, List.take_length]
theorem slc_get {E : List (Nat × Nat)} {s b j : Nat} (h : b ≤ E.length) (hj : j < b - s) : (slc E s b)[j]'(by rw [slc_len h]; exact hj) = E[s + j]'(by omega) := by
  unfold slc
  simp [List.getElem_take, List.getElem_drop]
/-- what is known of an order that was read -/
def OrK (E V : List (Nat × Nat)) (o : OrT) : Prop := (6 ≤ o.1 ∧ o.1 ≤ 9) ∧ (o.2.2.1 ≤ o.2.2.2.1 ∧ o.2.2.2.1 ≤ o.2.2.2.2 ∧ o.2.2.2.2 ≤ E.length) ∧ (o.1 = 6 → (3, o.2.1) ∈ V) ∧ (o.1 = 7 → (4, o.2.1) ∈ V) ∧ (8 ≤ o.1 → Gd (slc E o.2.2.1 o.2.2.2.1) false 64) ∧ (o.2.2.2.1 ≠ o.2.2.2.2 → Gd (slc E o.2.2.2.1 o.2.2.2.2) true 64)
theorem OrK.app {E V X W : List (Nat × Nat)} {o : OrT} (h : OrK E V o) : OrK (E ++ X) (V ++ W) o := by
  obtain ⟨h1, ⟨h2, h3, h4⟩, h5, h6, h7, h8⟩ := h
  refine ⟨h1, ⟨h2, h3, by rw [List.length_append]; omega⟩, fun q => List.mem_append_left _ (h5 q), fun q => List.mem_append_left _ (h6 q), fun q => ?_, fun q => ?_⟩
  · rw [slc_app h2 (by omega)]; exact h7 q
  · rw [slc_app h3 h4]; exact h8 q
/-- how many orders were told of -/
def nOr (V : List (Nat × Nat)) : Nat := V.countP (fun e => e.1 == 2)
theorem nOr_app (V W : List (Nat × Nat)) : nOr (V ++ W) = nOr V + nOr W := List.countP_append
/-- the whole tape as far as it is read -/
def BkOk (n : Nat) (f : Nat → Int32) (s : PLt) : Prop := PsOk n f s.1 ∧ s.2.length = nOr s.1.2.2 ∧ ∀ o, o ∈ s.2 → OrK s.1.2.1 s.1.2.2 o
theorem PsOk.mono {n : Nat} {f : Nat → Int32} {s : PSt} {F : PF} {u w : Int} {A : List (Nat × Nat) → Prop} (h : PsOk n f s) (hF : Ps (tkk n f) (tkl n f) F u w A) : ∃ X V, (F s).2.2 = (s.2.1 ++ X, s.2.2 ++ V) ∧ s.1 ≤ (F s).2.1 ∧ ((F s).1 = true → A X) := by
  obtain ⟨X, V, g1, g2, g3, g4, g5, g6, g7⟩ := hF s h.1
  exact ⟨X, V, g1, g2, fun q => (g6 q).2⟩
/-- no error: every name stands for what it should -/
theorem seF_fine {n : Nat} {f : Nat → Int32} : ∀ (V : List (Nat × Nat)) (a : SeM), (V.foldl (seS n f) a).2.2.1 = 0 → a.2.2.1 = 0 ∧ (∀ D i, fnd a.1 D = some i → fnd (V.foldl (seS n f) a).1 D = some i) ∧ (V.foldl (seS n f) a).2.1 = a.2.1 + nOr V ∧ ∀ e, e ∈ V → (e.1 = 3 → hsD (tkn n f e.2) = false) ∧ (e.1 = 4 ∨ e.1 = 5 → (fnd (V.foldl (seS n f) a).1 (tkn n f e.2)).isSome = true) := by
  intro V
  induction V with
  | nil => intro a h; exact ⟨h, fun D i q => q, rfl, fun e he => by cases he⟩
  | cons e V ih =>
    intro a h
    obtain ⟨h1, h2, h3, h4⟩ := ih (seS n f a e) h
    have hf : (e :: V).foldl (seS n f) a = V.foldl (seS n f) (seS n f a e) := rfl
    have hc : nOr (e :: V) = nOr V + (if (e.1 == 2) = true then 1 else 0) := by unfold nOr; rw [List.countP_cons]
    have h0 : a.2.2.1 = 0 := by
      by_cases q : a.2.2.1 = 0
      · exact q
      · have : (seS n f a e).2.2 = a.2.2 := if_neg q
        rw [this] at h1; exact absurd h1 q
    have hs : (seS n f a e) = ((se1 n f e.1 e.2 a.1 a.2.1).2.1, (se1 n f e.1 e.2 a.1 a.2.1).2.2, (se1 n f e.1 e.2 a.1 a.2.1).1, e.2) := by unfold seS; rw [if_pos h0]
    have hz : (se1 n f e.1 e.2 a.1 a.2.1).1 = 0 := by rw [hs] at h1; exact h1
    have key : (∀ D i, fnd a.1 D = some i → fnd (seS n f a e).1 D = some i) ∧ (seS n f a e).2.1 = a.2.1 + (if (e.1 == 2) = true then 1 else 0) ∧ (e.1 = 3 → hsD (tkn n f e.2) = false) ∧ (e.1 = 4 ∨ e.1 = 5 → (fnd (seS n f a e).1 (tkn n f e.2)).isSome = true) := by
      rw [hs]
      show (∀ D i, fnd a.1 D = some i → fnd (se1 n f e.1 e.2 a.1 a.2.1).2.1 D = some i) ∧ (se1 n f e.1 e.2 a.1 a.2.1).2.2 = _ ∧ _ ∧ (_ → (fnd (se1 n f e.1 e.2 a.1 a.2.1).2.1 _).isSome = true)
      unfold se1 at hz ⊢
      by_cases e1 : e.1 = 1
      · simp only [if_pos e1] at hz ⊢
        by_cases a1 : (fnd a.1 (tkn n f e.2)).isSome = true
        · simp only [if_pos a1] at hz; cases hz
        · simp only [if_neg a1] at hz ⊢
          by_cases a2 : 8 ≤ a.1.length
          · simp only [if_pos a2] at hz; cases hz
          · simp only [if_neg a2] at hz ⊢
            by_cases a3 : hsD (tkn n f e.2) = true
            · simp only [if_pos a3] at hz; cases hz
            · simp only [if_neg a3] at hz ⊢
              exact ⟨fun D i q => fnd_app q, by rw [e1]; rfl, fun q => by omega, fun q => by omega⟩
      · simp only [if_neg e1] at hz ⊢
        by_cases e2 : e.1 = 2
        · simp only [if_pos e2] at hz ⊢
          by_cases a1 : 16 ≤ a.2.1
          · simp only [if_pos a1] at hz; cases hz
          · simp only [if_neg a1] at hz ⊢
            exact ⟨fun D i q => q, by rw [e2]; rfl, fun q => by omega, fun q => by omega⟩
        · simp only [if_neg e2] at hz ⊢
          have e2b : (e.1 == 2) = false := by simpa using e2
          by_cases e3 : e.1 = 3
          · simp only [if_pos e3] at hz ⊢
            by_cases a1 : hsD (tkn n f e.2) = true
            · simp only [if_pos a1] at hz; cases hz
            · simp only [if_neg a1] at hz ⊢
              exact ⟨fun D i q => q, by rw [e2b]; rfl, fun _ => by simpa using a1, fun q => by omega⟩
          · simp only [if_neg e3] at hz ⊢
            by_cases a1 : (fnd a.1 (tkn n f e.2)).isSome = true
            · simp only [if_pos a1] at hz ⊢
              exact ⟨fun D i q => q, by rw [e2b]; rfl, fun q => absurd q e3, fun _ => a1⟩
            · simp only [if_neg a1] at hz; cases hz
    obtain ⟨k1, k2, k3, k4⟩ := key
    refine ⟨h0, fun D i q => h2 D i (k1 D i q), by rw [hf, h3, k2, hc]; omega, fun x hx => ?_⟩
    rcases List.mem_cons.mp hx with rfl | q
    · refine ⟨k3, fun q => ?_⟩
      have := k4 q
      obtain ⟨i, hi⟩ := Option.isSome_iff_exists.mp this
      rw [hf, h2 _ i hi]; rfl
    · exact h4 x q
/-- the plan of a tape -/
def orM (n : Nat) (f : Nat → Int32) (Ws : List (List Nat)) (o : OrT) : OrM := ((o.1, (fnd Ws (tkn n f o.2.1)).getD 0, tkn n f o.2.1), (o.2.2.1, o.2.2.2.1, o.2.2.2.2))
def plM (n : Nat) (f : Nat → Int32) (s : PLt) : PlM := (((seF n f s.1.2.2).1.length, fun i => (seF n f s.1.2.2).1.getD i []), (s.2.length, fun k => orM n f (seF n f s.1.2.2).1 (s.2.getD k (0, 0, 0, 0, 0))), (s.1.2.1.length, fun j => ((s.1.2.1.getD j (0, 0)).1, xvW n f (seF n f s.1.2.2).1 (s.1.2.1.getD j (0, 0)))))
theorem getD_mem {α : Type} {L : List α} {i : Nat} {d : α} (h : i < L.length) : L.getD i d ∈ L ∧ L[i]? = some (L.getD i d) := by
  have e : L[i]? = some L[i] := List.getElem?_eq_getElem h
  rw [List.getD_eq_getElem?_getD, e]
  exact ⟨List.getElem_mem h, rfl⟩
theorem plM_S {n : Nat} {f : Nat → Int32} {s : PLt} {i b : Nat} {t : Bool} (hb : b ≤ s.1.2.1.length) (hi : i ≤ b) (h : Gd (slc s.1.2.1 i b) t 64) : OkS (plM n f s) i b t := fun a ha => by
  obtain ⟨v, h1, h2⟩ := h a (xvW n f (seF n f s.1.2.2).1) ha [] (by decide)
  refine ⟨v, ?_, h2⟩
  have hl := slc_len (E := s.1.2.1) (s := i) hb
  rw [← hl, rn_rnL (xv := xvW n f (seF n f s.1.2.2).1) (X := slc s.1.2.1 i b) (fun j hj => ?_)]
  · exact h1
  · have e := slc_get (E := s.1.2.1) (s := i) hb (j := j) (by omega)
    rw [e]
    show ((s.1.2.1.getD (i + j) (0, 0)).1, xvW n f _ (s.1.2.1.getD (i + j) (0, 0))) = _
    have hij : i + j < s.1.2.1.length := by omega
    rw [List.getD_eq_getElem?_getD, List.getElem?_eq_getElem hij]
    rfl
theorem plM_ok {n : Nat} {f : Nat → Int32} {s : PLt} (h : BkOk n f s) (he : (seF n f s.1.2.2).2.2.1 = 0) : OkP (plM n f s) := by
  obtain ⟨h1, h2, h3⟩ := h
  obtain ⟨hl, hE, hV, hab⟩ := h1
  obtain ⟨f1, f2, f3, f4⟩ := seF_fine s.1.2.2 ([], 0, 0, 0) he
  have f3' : (seF n f s.1.2.2).2.1 = 0 + nOr s.1.2.2 := f3
  have f4' : ∀ e, e ∈ s.1.2.2 → (e.1 = 3 → hsD (tkn n f e.2) = false) ∧ (e.1 = 4 ∨ e.1 = 5 → (fnd (seF n f s.1.2.2).1 (tkn n f e.2)).isSome = true) := f4
  obtain ⟨w1, w2⟩ := seF_Ws (n := n) (f := f) (V := s.1.2.2) (fun e he => (hV.2 e he).2.2.1)
  have hl4 := (tkl_spec n f).1
  have fl : ∀ D i, fnd (seF n f s.1.2.2).1 D = some i → i < (seF n f s.1.2.2).1.length := fun D i q => (fnd_some.mp q).1
  refine ⟨⟨w1.1, fun i hi => ?_⟩, ⟨by show s.2.length ≤ 16; omega, fun k hk => ?_⟩, by show s.1.2.1.length ≤ 400; omega, fun j hj hc => ?_⟩
  · have := w1.2 _ (getD_mem (d := []) hi).1
    exact ⟨this.1.1, this.1.2, fun d hd => ⟨(this.2 d hd).1, by have := (this.2 d hd).2; omega⟩⟩
  · have ho := h3 _ (getD_mem (d := (0, 0, 0, 0, 0)) hk).1
    show OkO (plM n f s) (orM n f _ (s.2.getD k (0, 0, 0, 0, 0)))
    generalize s.2.getD k (0, 0, 0, 0, 0) = o at ho
    obtain ⟨⟨a1, a2⟩, ⟨b1, b2, b3⟩, c1, c2, c3, c4⟩ := ho
    refine ⟨⟨b1, b2, b3⟩, fun q => plM_S b3 b2 (c4 q), ?_⟩
    rcases (show o.1 = 6 ∨ o.1 = 7 ∨ o.1 = 8 ∨ o.1 = 9 by omega) with q | q | q | q
    · have hm := c1 q
      have hk2 : tkk n f o.2.1 = 2 := ((hV.2 _ hm).2.2.1).resolve_left (show ¬ (3 : Nat) = 2 by decide)
      have := tkn_ok hk2
      exact Or.inl ⟨q, this.1.1, this.1.2, this.2⟩
    · have hm := (f4' _ (c2 q)).2 (Or.inl rfl)
      obtain ⟨i, hi⟩ := Option.isSome_iff_exists.mp hm
      refine Or.inr (Or.inl ⟨q, ?_⟩)
      show (fnd (seF n f s.1.2.2).1 (tkn n f o.2.1)).getD 0 < _
      rw [hi]; exact fl _ _ hi
    · exact Or.inr (Or.inr ⟨Or.inl q, plM_S (Nat.le_trans b2 b3) b1 (c3 (by omega))⟩)
    · exact Or.inr (Or.inr ⟨Or.inr q, plM_S (Nat.le_trans b2 b3) b1 (c3 (by omega))⟩)
  · have hm := getD_mem (d := (0, 0)) hj
    have hq := hab _ hm.1 hc
    have hs := (f4' _ hq).2 (Or.inr rfl)
    obtain ⟨i, hi⟩ := Option.isSome_iff_exists.mp hs
    refine ⟨i, fl _ _ hi, ?_⟩
    show xvW n f _ (s.1.2.1.getD j (0, 0)) = nI i
    unfold xvW
    refine (if_pos hc).trans ?_
    show oI (fnd (seF n f s.1.2.2).1 (tkn n f (s.1.2.1.getD j (0, 0)).2)) = nI i
    rw [show fnd (seF n f s.1.2.2).1 (tkn n f (s.1.2.1.getD j (0, 0)).2) = some i from hi]
    rfl
