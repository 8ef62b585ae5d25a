/-! the math of what the grammar tells: insults and orders in the order of their tokens, the first error -/
def fnd (Ws : List (List Nat)) (D : List Nat) : Option Nat := fstA (fun i => decide (Ws.getD i [] = D)) Ws.length 0
/-- insults, how many orders, the first error and its token -/
abbrev SeM : Type := List (List Nat) × Nat × Nat × Nat
/-- what one piece of news does: its error (0 for none), the insults and the orders behind it -/
def se1 (n : Nat) (f : Nat → Int32) (m k : Nat) (Ws : List (List Nat)) (no : Nat) : Nat × List (List Nat) × Nat :=
  if m = 1 then (if (fnd Ws (tkn n f k)).isSome = true then (2, Ws, no) else if 8 ≤ Ws.length then (4, Ws, no) else if hsD (tkn n f k) = true then (5, Ws, no) else (0, Ws ++ [tkn n f k], no))
  else if m = 2 then (if 16 ≤ no then (4, Ws, no) else (0, Ws, no + 1))
  else if m = 3 then (if hsD (tkn n f k) = true then (5, Ws, no) else (0, Ws, no))
  else (if (fnd Ws (tkn n f k)).isSome = true then (0, Ws, no) else (3, Ws, no))
def seS (n : Nat) (f : Nat → Int32) (a : SeM) (e : Nat × Nat) : SeM := ((se1 n f e.1 e.2 a.1 a.2.1).2.1, (se1 n f e.1 e.2 a.1 a.2.1).2.2, if a.2.2.1 = 0 then ((se1 n f e.1 e.2 a.1 a.2.1).1, e.2) else a.2.2)
def seF (n : Nat) (f : Nat → Int32) (V : List (Nat × Nat)) : SeM := V.foldl (seS n f) ([], 0, 0, 0)
theorem seF_app (n : Nat) (f : Nat → Int32) (V : List (Nat × Nat)) (e : Nat × Nat) : seF n f (V ++ [e]) = seS n f (seF n f V) e := by unfold seF; rw [List.foldl_append]; rfl
theorem fnd_some {Ws : List (List Nat)} {D : List Nat} {i : Nat} : fnd Ws D = some i ↔ (i < Ws.length ∧ Ws.getD i [] = D ∧ ∀ j, j < i → Ws.getD j [] ≠ D) := by
  unfold fnd
  rw [fstA_some]
  constructor
  · rintro ⟨-, h2, h3, h4⟩
    exact ⟨by omega, of_decide_eq_true h3, fun j hj => of_decide_eq_false (h4 j (Nat.zero_le _) hj)⟩
  · rintro ⟨h1, h2, h3⟩
    exact ⟨Nat.zero_le _, by omega, decide_eq_true h2, fun j _ hj => decide_eq_false (h3 j hj)⟩
theorem fnd_app {Ws : List (List Nat)} {D E : List Nat} {i : Nat} (h : fnd Ws D = some i) : fnd (Ws ++ [E]) D = some i := by
  obtain ⟨h1, h2, h3⟩ := fnd_some.mp h
  have hg : ∀ j, j < Ws.length → (Ws ++ [E]).getD j [] = Ws.getD j [] := fun j hj => by
    rw [List.getD_eq_getElem?_getD, List.getD_eq_getElem?_getD, List.getElem?_append_left hj]
  refine fnd_some.mpr ⟨by rw [List.length_append]; omega, by rw [hg i h1]; exact h2, fun j hj => by rw [hg j (by omega)]; exact h3 j hj⟩
/-- insults are names without digits -/
def WsOk (Ws : List (List Nat)) : Prop := Ws.length ≤ 8 ∧ ∀ D, D ∈ Ws → (1 ≤ D.length ∧ D.length ≤ 10) ∧ ∀ d, d ∈ D → 1 ≤ d ∧ d ≤ 26
theorem tkn_ok {n : Nat} {f : Nat → Int32} {t : Nat} (h : tkk n f t = 2) : (1 ≤ (tkn n f t).length ∧ (tkn n f t).length ≤ 10) ∧ dg (tkn n f t) := by
  obtain ⟨t1, t2, t3, t4, t5⟩ := tok_word h
  have tl : (tkn n f t).length = tke n f t - tks n f t := nmD_len _ _ _
  exact ⟨⟨by omega, by omega⟩, nmD_dg t5⟩
theorem hsD_no {D : List Nat} (h : hsD D = false) (hd : dg D) : ∀ d, d ∈ D → 1 ≤ d ∧ d ≤ 26 := fun d m => by
  have h1 := List.any_eq_false.mp h d m
  have h2 := hd d m
  have : ¬ 26 < d := fun q => h1 (decide_eq_true q)
  omega
theorem seS_ok {n : Nat} {f : Nat → Int32} {a : SeM} {e : Nat × Nat} (ih : WsOk a.1 ∧ a.2.1 ≤ 16) (he : e.1 = 2 ∨ tkk n f e.2 = 2) : WsOk (seS n f a e).1 ∧ (seS n f a e).2.1 ≤ 16 := by
  unfold seS se1
  obtain ⟨⟨i1, i2⟩, i3⟩ := ih
  by_cases e1 : e.1 = 1
  · simp only [if_pos e1]
    by_cases a1 : (fnd a.1 (tkn n f e.2)).isSome = true
    · simp only [if_pos a1]; exact ⟨⟨i1, i2⟩, i3⟩
    · simp only [if_neg a1]
      by_cases a2 : 8 ≤ a.1.length
      · simp only [if_pos a2]; exact ⟨⟨i1, i2⟩, i3⟩
      · simp only [if_neg a2]
        by_cases a3 : hsD (tkn n f e.2) = true
        · simp only [if_pos a3]; exact ⟨⟨i1, i2⟩, i3⟩
        · simp only [if_neg a3]
          have hk : tkk n f e.2 = 2 := he.resolve_left (by omega)
          refine ⟨⟨by rw [List.length_append]; show _ + 1 ≤ 8; omega, fun D hD => ?_⟩, i3⟩
          rcases List.mem_append.mp hD with q | q
          · exact i2 D q
          · rw [List.mem_singleton.mp q]
            exact ⟨(tkn_ok hk).1, hsD_no (by simpa using a3) (tkn_ok hk).2⟩
  · simp only [if_neg e1]
    by_cases e2 : e.1 = 2
    · simp only [if_pos e2]
      by_cases a1 : 16 ≤ a.2.1
      · simp only [if_pos a1]; exact ⟨⟨i1, i2⟩, i3⟩
      · simp only [if_neg a1]; exact ⟨⟨i1, i2⟩, by omega⟩
    · simp only [if_neg e2]
      by_cases e3 : e.1 = 3
      · simp only [if_pos e3]
        split <;> exact ⟨⟨i1, i2⟩, i3⟩
      · simp only [if_neg e3]
        split <;> exact ⟨⟨i1, i2⟩, i3⟩

theorem seF_Ws {n : Nat} {f : Nat → Int32} {V : List (Nat × Nat)} (h : ∀ e, e ∈ V → e.1 = 2 ∨ tkk n f e.2 = 2) : WsOk (seF n f V).1 ∧ (seF n f V).2.1 ≤ 16 := by
  have key : ∀ (V : List (Nat × Nat)) (a : SeM), (∀ e, e ∈ V → e.1 = 2 ∨ tkk n f e.2 = 2) → WsOk a.1 ∧ a.2.1 ≤ 16 → WsOk (V.foldl (seS n f) a).1 ∧ (V.foldl (seS n f) a).2.1 ≤ 16 := by
    intro V
    induction V with
    | nil => intro a _ ha; exact ha
    | cons e V ih =>
      intro a h ha
      exact ih _ (fun x hx => h x (List.mem_cons_of_mem _ hx)) (seS_ok ha (h e List.mem_cons_self))
  exact key V _ h ⟨⟨by decide, fun D h => by cases h⟩, by decide⟩
/-- a parser's state as the grammar keeps it -/
def PsOk (n : Nat) (f : Nat → Int32) (s : PSt) : Prop := s.1 ≤ tkl n f ∧ s.2.1.length ≤ s.1 ∧ VS (tkk n f) 0 s.1 s.2.2 ∧ AbX s.2.1 s.2.2
theorem PsOk.step {n : Nat} {f : Nat → Int32} {s : PSt} {F : PF} {u w : Int} {A : List (Nat × Nat) → Prop} (h : PsOk n f s) (hF : Ps (tkk n f) (tkl n f) F u w A) (hu : 0 ≤ u) (hw : 0 ≤ w) : PsOk n f (F s).2 := by
  obtain ⟨h1, h2, h3, h4⟩ := h
  obtain ⟨X, V, g1, g2, g3, g4, g5, g6, g7⟩ := hF s h1
  have e1 : (F s).2.2.1 = s.2.1 ++ X := by rw [g1]
  have e2 : (F s).2.2.2 = s.2.2 ++ V := by rw [g1]
  refine ⟨g3, ?_, by rw [e2]; exact h3.app g5 (Nat.zero_le _) g2, by rw [e1, e2]; exact h4.app g4⟩
  rw [e1, List.length_append]
  cases hb : (F s).1 with
  | true => have := (g6 hb).1; omega
  | false => have := g7 hb; omega
theorem PsOk.ws {n : Nat} {f : Nat → Int32} {s : PSt} (h : PsOk n f s) : WsOk (seF n f s.2.2).1 ∧ (seF n f s.2.2).2.1 ≤ 16 := seF_Ws (fun e he => (h.2.2.1.2 e he).2.2.1)
/-- the operand of a step -/
def xvW (n : Nat) (f : Nat → Int32) (Ws : List (List Nat)) (x : Nat × Nat) : Int32 := if x.1 = 15 ∨ x.1 = 16 ∨ x.1 = 18 then oI (fnd Ws (tkn n f x.2)) else nI x.2
