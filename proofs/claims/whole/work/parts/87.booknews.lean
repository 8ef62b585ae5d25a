/-! the math of the book: which news belongs to which order -/
/-- values and tests tell only of names of insults -/
def N5 (f : PF) : Prop := ∀ s : PSt, ∃ X V, (f s).2.2 = (s.2.1 ++ X, s.2.2 ++ V) ∧ ∀ e, e ∈ V → e.1 = 5
theorem N5.seq {a b : PF} (h : N5 a) (g : N5 b) : N5 (pSq a b) := fun s => by
  obtain ⟨X, V, h1, h2⟩ := h s
  by_cases e : (a s).1 = true
  · obtain ⟨Y, W, g1, g2⟩ := g (a s).2
    rw [pSq_y e, g1, h1]
    exact ⟨X ++ Y, V ++ W, by simp only [List.append_assoc], fun e he => (List.mem_append.mp he).elim (h2 e) (g2 e)⟩
  · have e : (a s).1 = false := by simpa using e
    rw [pSq_n e]
    exact ⟨X, V, h1, h2⟩
theorem N5.id {b : Bool} {s : PSt} : ∃ X V, ((b, s) : Bool × PSt).2.2 = (s.2.1 ++ X, s.2.2 ++ V) ∧ ∀ e, e ∈ V → e.1 = 5 := ⟨[], [], by simp, (fun e he => by cases he)⟩
theorem N5.tk {K : Nat → Nat} {c : Nat} : N5 (pTk K c) := fun s => by
  unfold pTk; split
  · exact ⟨[], [], by simp, (fun e he => by cases he)⟩
  · exact ⟨[], [], by simp, (fun e he => by cases he)⟩
theorem N5.pt {c x : Nat} : N5 (pPt c x) := fun s => ⟨[(c, x)], [], by simp [pPt], (fun e he => by cases he)⟩
theorem N5.nm {K : Nat → Nat} : N5 (pNm K 5) := fun s => by
  unfold pNm; split
  · exact ⟨[], [(5, s.1)], by simp, fun e he => by rw [List.mem_singleton.mp he]⟩
  · exact ⟨[], [], by simp, (fun e he => by cases he)⟩
theorem N5.no : N5 pNo := fun s => N5.id
theorem N5.ab {K : Nat → Nat} {c : Nat} : N5 (pAb K c) := fun s => (N5.nm.seq N5.pt) s
theorem N5.lp {K : Nat → Nat} {op : Nat → Bool} {f : PF} (hf : N5 f) : ∀ n, N5 (pLp K op f n) := by
  intro n
  induction n with
  | zero => exact fun s => N5.id
  | succ n ih =>
    intro s
    by_cases e : op (K s.1) = true
    · rw [show pLp K op f (n + 1) s = _ from if_pos e]
      exact (N5.tk.seq (hf.seq (N5.pt.seq ih))) s
    · rw [show pLp K op f (n + 1) s = _ from if_neg e]
      exact N5.id
theorem N5.ch {K : Nat → Nat} {op : Nat → Bool} {f : PF} (hf : N5 f) : N5 (pCh K op f) := hf.seq (N5.lp hf _)
theorem N5.v {K nu : Nat → Nat} {lo : Option (PF × PF)} (h : ∀ q, lo = some q → N5 q.1 ∧ N5 q.2) : N5 (pV K nu lo) := fun s => by
  unfold pV
  split
  · exact (N5.tk.seq N5.pt) s
  · split
    · exact (N5.tk.seq N5.pt) s
    · split
      · exact (N5.tk.seq (N5.tk.seq N5.ab)) s
      · cases lo with
        | none =>
          by_cases e : K s.1 = 22 ∨ K s.1 = 23
          · simp only [if_pos e]
            exact (N5.tk.seq N5.no) s
          · simp only [if_neg e]
            exact ⟨[], [], by simp, (fun e he => by cases he)⟩
        | some q =>
          obtain ⟨h1, h2⟩ := h q rfl
          by_cases e : K s.1 = 31
          · simp only [if_pos e]
            exact (N5.tk.seq (h1.seq N5.pt)) s
          · simp only [if_neg e]
            by_cases e2 : K s.1 = 24
            · simp only [if_pos e2]
              exact (N5.tk.seq (h2.seq N5.tk)) s
            · simp only [if_neg e2]
              by_cases e3 : K s.1 = 22 ∨ K s.1 = 23
              · simp only [if_pos e3]
                exact (N5.tk.seq (N5.tk.seq (h2.seq (N5.tk.seq (h2.seq (N5.tk.seq N5.pt)))))) s
              · simp only [if_neg e3]
                exact ⟨[], [], by simp, (fun e he => by cases he)⟩
theorem n5_V {K nu : Nat → Nat} : ∀ D, N5 (lvV K nu D).1 ∧ N5 (lvV K nu D).2 := by
  intro D
  induction D with
  | zero =>
    have h : N5 (pV K nu none) := N5.v (fun q e => by cases e)
    exact ⟨h, N5.ch (N5.ch h)⟩
  | succ D ih =>
    have h : N5 (pV K nu (some (lvV K nu D))) := N5.v (fun q e => by cases e; exact ih)
    exact ⟨h, N5.ch (N5.ch h)⟩
theorem N5.cm {K : Nat → Nat} {u : PF} (h : N5 u) : N5 (pCm K u) := N5.seq h (fun s => by
  by_cases e : 34 ≤ K s.1 ∧ K s.1 ≤ 38
  · simp only [if_pos e]
    exact (N5.tk.seq (h.seq N5.pt)) s
  · simp only [if_neg e]
    exact ⟨[], [], by simp, (fun e he => by cases he)⟩)
theorem N5.s {K : Nat → Nat} {lo : Option (PF × PF)} {u : PF} (hu : N5 u) (h : ∀ q, lo = some q → N5 q.1 ∧ N5 q.2) : N5 (pS K lo u) := fun s => by
  unfold pS
  by_cases h1 : K s.1 = 19
  · simp only [if_pos h1]
    cases lo with
    | none => exact ⟨[], [], by simp, (fun e he => by cases he)⟩
    | some q => exact (N5.tk.seq ((h q rfl).1.seq N5.pt)) s
  · simp only [if_neg h1]
    by_cases h2 : K s.1 = 26
    · simp only [if_pos h2]
      cases lo with
      | none => exact ⟨[], [], by simp, (fun e he => by cases he)⟩
      | some q => exact (N5.tk.seq ((h q rfl).2.seq N5.tk)) s
    · simp only [if_neg h2]
      by_cases h3 : K s.1 = 18
      · simp only [if_pos h3]; exact (N5.tk.seq N5.ab) s
      · simp only [if_neg h3]; exact (N5.cm hu) s
theorem n5_T {K nu : Nat → Nat} : ∀ D, N5 (lvT K nu D).1 ∧ N5 (lvT K nu D).2 := by
  intro D
  induction D with
  | zero =>
    have h : N5 (pS K none (lvV K nu 0).2) := N5.s (n5_V 0).2 (fun q e => by cases e)
    exact ⟨h, N5.ch (N5.ch h)⟩
  | succ D ih =>
    have h : N5 (pS K (some (lvT K nu D)) (lvV K nu (D + 1)).2) := N5.s (n5_V (D + 1)).2 (fun q e => by cases e; exact ih)
    exact ⟨h, N5.ch (N5.ch h)⟩
/-- each order's name among the news, and each such news belongs to an order -/
def BkN (s : PLt) : Prop := (∀ i o, s.2[i]? = some o → (o.1 = 6 → ∃ P S, s.1.2.2 = P ++ (3, o.2.1) :: S ∧ nOr P = i + 1) ∧ (o.1 = 7 → ∃ P S, s.1.2.2 = P ++ (4, o.2.1) :: S ∧ nOr P = i + 1)) ∧ ∀ P e S, s.1.2.2 = P ++ e :: S → (e.1 = 3 → ∃ i o, nOr P = i + 1 ∧ s.2[i]? = some o ∧ o.1 = 6 ∧ o.2.1 = e.2) ∧ (e.1 = 4 → ∃ i o, nOr P = i + 1 ∧ s.2[i]? = some o ∧ o.1 = 7 ∧ o.2.1 = e.2)
/-- where a piece of news stands in what was there and what came -/
theorem app_cut {α : Type} {V X P : List α} {e : α} {S : List α} (h : V ++ X = P ++ e :: S) : (∃ S', V = P ++ e :: S') ∨ ∃ P', P = V ++ P' ∧ X = P' ++ e :: S := by
  rcases List.append_eq_append_iff.mp h with ⟨W, h1, h2⟩ | ⟨W, h1, h2⟩
  · exact Or.inr ⟨W, h1, h2⟩
  · cases W with
    | nil => exact Or.inr ⟨[], by rw [h1, List.append_nil, List.append_nil], by rw [h2]; rfl⟩
    | cons w W =>
      rw [List.cons_append] at h2
      cases h2
      exact Or.inl ⟨W, h1⟩
/-- news that is neither an order nor an order's name changes nothing -/
theorem BkN.ext {s : PLt} {s' : PSt} {X : List (Nat × Nat)} (h : BkN s) (hV : s'.2.2 = s.1.2.2 ++ X) (hX : ∀ e, e ∈ X → e.1 ≠ 3 ∧ e.1 ≠ 4) : BkN (s', s.2) := by
  refine ⟨fun i o ho => ⟨fun q => ?_, fun q => ?_⟩, fun P e S hP => ?_⟩
  · obtain ⟨P, S, h1, h2⟩ := (h.1 i o ho).1 q
    exact ⟨P, S ++ X, by show s'.2.2 = _; rw [hV, h1, List.append_assoc]; rfl, h2⟩
  · obtain ⟨P, S, h1, h2⟩ := (h.1 i o ho).2 q
    exact ⟨P, S ++ X, by show s'.2.2 = _; rw [hV, h1, List.append_assoc]; rfl, h2⟩
  · have hP2 : s.1.2.2 ++ X = P ++ e :: S := by rw [← hV]; exact hP
    rcases app_cut hP2 with ⟨S', h1⟩ | ⟨P', h1, h2⟩
    · exact h.2 P e S' h1
    · have := hX e (by rw [h2]; simp)
      exact ⟨fun q => absurd q this.1, fun q => absurd q this.2⟩
/-- an order more -/
theorem BkN.ord {s : PLt} {s' : PSt} {o : OrT} {Y X : List (Nat × Nat)} (h : BkN s) (hc : s.2.length = nOr s.1.2.2) (hV : s'.2.2 = s.1.2.2 ++ ((2, o.2.1 - 1) :: (Y ++ X))) (hX : ∀ e, e ∈ X → e.1 = 5) (hY : (o.1 = 6 ∧ Y = [(3, o.2.1)]) ∨ (o.1 = 7 ∧ Y = [(4, o.2.1)]) ∨ (o.1 ≠ 6 ∧ o.1 ≠ 7 ∧ Y = [])) : BkN (s', s.2 ++ [o]) := by
  have hn2 : ∀ t, nOr (s.1.2.2 ++ [(2, t)]) = s.2.length + 1 := fun t => by rw [nOr_app, ← hc]; rfl
  have hget : (s.2 ++ [o])[s.2.length]? = some o := by rw [List.getElem?_append_right (Nat.le_refl _), Nat.sub_self]; rfl
  refine ⟨fun i x hx => ?_, fun P e S hP => ?_⟩
  · have hx2 : (s.2 ++ [o])[i]? = some x := hx
    rcases Nat.lt_trichotomy i s.2.length with w | w | w
    · rw [List.getElem?_append_left w] at hx2
      refine ⟨fun q => ?_, fun q => ?_⟩
      · obtain ⟨P, S, h1, h2⟩ := (h.1 i x hx2).1 q
        exact ⟨P, S ++ ((2, o.2.1 - 1) :: (Y ++ X)), by show s'.2.2 = _; rw [hV, h1, List.append_assoc]; rfl, h2⟩
      · obtain ⟨P, S, h1, h2⟩ := (h.1 i x hx2).2 q
        exact ⟨P, S ++ ((2, o.2.1 - 1) :: (Y ++ X)), by show s'.2.2 = _; rw [hV, h1, List.append_assoc]; rfl, h2⟩
    · subst w
      rw [hget] at hx2
      cases hx2
      refine ⟨fun q => ?_, fun q => ?_⟩
      · rcases hY with ⟨-, y⟩ | ⟨y, -⟩ | ⟨y, -, -⟩
        · exact ⟨s.1.2.2 ++ [(2, o.2.1 - 1)], X, by show s'.2.2 = _; rw [hV, y]; simp, hn2 _⟩
        · omega
        · exact absurd q y
      · rcases hY with ⟨y, -⟩ | ⟨-, y⟩ | ⟨-, y, -⟩
        · omega
        · exact ⟨s.1.2.2 ++ [(2, o.2.1 - 1)], X, by show s'.2.2 = _; rw [hV, y]; simp, hn2 _⟩
        · exact absurd q y
    · rw [List.getElem?_append_right (by omega), List.getElem?_eq_none (by show 1 ≤ _; omega)] at hx2
      cases hx2
  · have hP2 : s.1.2.2 ++ ((2, o.2.1 - 1) :: (Y ++ X)) = P ++ e :: S := by rw [← hV]; exact hP
    have up : ∀ (i : Nat) (x : OrT), s.2[i]? = some x → (s.2 ++ [o])[i]? = some x := fun i x hx => by rw [List.getElem?_append_left (List.getElem?_eq_some_iff.mp hx).1]; exact hx
    rcases app_cut hP2 with ⟨S', h1⟩ | ⟨P', h1, h2⟩
    · obtain ⟨a1, a2⟩ := h.2 P e S' h1
      refine ⟨fun q => ?_, fun q => ?_⟩
      · obtain ⟨i, x, b1, b2, b3⟩ := a1 q
        exact ⟨i, x, b1, up i x b2, b3⟩
      · obtain ⟨i, x, b1, b2, b3⟩ := a2 q
        exact ⟨i, x, b1, up i x b2, b3⟩
    · cases P' with
      | nil =>
        rw [List.nil_append] at h2
        cases h2
        exact ⟨(fun q => by cases q), (fun q => by cases q)⟩
      | cons p P' =>
        rw [List.cons_append] at h2
        injection h2 with h3 h4
        subst h3
        rcases app_cut h4 with ⟨S', h5⟩ | ⟨P2, h5, h6⟩
        · have fin : P' = [] ∧ Y = [e] := by
            rcases hY with ⟨-, y⟩ | ⟨-, y⟩ | ⟨-, -, y⟩ <;> rw [y] at h5
            · cases P' with
              | nil => cases h5; exact ⟨rfl, y⟩
              | cons a b => cases b <;> simp at h5
            · cases P' with
              | nil => cases h5; exact ⟨rfl, y⟩
              | cons a b => cases b <;> simp at h5
            · cases P' <;> simp at h5
          obtain ⟨f1, f2⟩ := fin
          subst f1
          rw [h1]
          refine ⟨fun q => ⟨s.2.length, o, hn2 _, hget, ?_⟩, fun q => ⟨s.2.length, o, hn2 _, hget, ?_⟩⟩
          · rcases hY with ⟨y1, y⟩ | ⟨y1, y⟩ | ⟨-, -, y⟩ <;> rw [y] at f2 <;> cases f2
            · exact ⟨y1, rfl⟩
            · cases q
          · rcases hY with ⟨y1, y⟩ | ⟨y1, y⟩ | ⟨-, -, y⟩ <;> rw [y] at f2 <;> cases f2
            · cases q
            · exact ⟨y1, rfl⟩
        · have := hX e (by rw [h6]; simp)
          exact ⟨fun q => by omega, fun q => by omega⟩
theorem pLn_bkN {n : Nat} {f : Nat → Int32} {s : PLt} (hB : BkOk n f s) (h : BkN s) (hl : (pLn (tkk n f) (tku n f) s).1 = true) : BkN (pLn (tkk n f) (tku n f) s).2 := by
  unfold pLn at hl ⊢
  by_cases e5 : tkk n f s.1.1 = 5
  · rw [if_pos e5] at hl ⊢
    have hl2 : (pNm (tkk n f) 1 (s.1.1 + 1, s.1.2)).1 = true := hl
    have hk := pNm_1 hl2
    show BkN ((pNm (tkk n f) 1 (s.1.1 + 1, s.1.2)).2, s.2)
    rw [pNm_y hk]
    exact h.ext (X := [(1, s.1.1 + 1)]) rfl (fun e he => by rw [List.mem_singleton.mp he]; exact ⟨(show ¬ 1 = 3 by decide), (show ¬ 1 = 4 by decide)⟩)
  · rw [if_neg e5] at hl ⊢
    by_cases ha : 6 ≤ tkk n f s.1.1 ∧ tkk n f s.1.1 ≤ 9
    · rw [if_pos ha] at hl ⊢
      rw [pOr_eq] at hl ⊢
      by_cases e : (pWh (tkk n f) (tku n f) (tkk n f s.1.1) (pAc s.1)).1 = true
      · rw [if_pos e] at hl ⊢
        by_cases e2 : (pTs (tkk n f) (tku n f) (pWh (tkk n f) (tku n f) (tkk n f s.1.1) (pAc s.1)).2).1 = true
        · rw [if_pos e2]
          have hU : ∃ U, (pTs (tkk n f) (tku n f) (pWh (tkk n f) (tku n f) (tkk n f s.1.1) (pAc s.1)).2).2.2.2 = (pWh (tkk n f) (tku n f) (tkk n f s.1.1) (pAc s.1)).2.2.2 ++ U ∧ ∀ e, e ∈ U → e.1 = 5 := by
            unfold pTs
            split
            · obtain ⟨X, V, a1, a2⟩ := (n5_T (K := tkk n f) (nu := tku n f) 8).2 ((pWh (tkk n f) (tku n f) (tkk n f s.1.1) (pAc s.1)).2.1 + 1, (pWh (tkk n f) (tku n f) (tkk n f s.1.1) (pAc s.1)).2.2)
              exact ⟨V, (Prod.ext_iff.mp a1).2, a2⟩
            · exact ⟨[], by rw [List.append_nil], (fun e he => by cases he)⟩
          obtain ⟨U, u1, u2⟩ := hU
          have hV : ∃ Y V, (pWh (tkk n f) (tku n f) (tkk n f s.1.1) (pAc s.1)).2.2.2 = (s.1.2.2 ++ [(2, s.1.1)]) ++ (Y ++ V) ∧ (∀ e, e ∈ V → e.1 = 5) ∧ ((tkk n f s.1.1 = 6 ∧ Y = [(3, s.1.1 + 1)]) ∨ (tkk n f s.1.1 = 7 ∧ Y = [(4, s.1.1 + 1)]) ∨ (tkk n f s.1.1 ≠ 6 ∧ tkk n f s.1.1 ≠ 7 ∧ Y = [])) := by
            by_cases h6 : tkk n f s.1.1 = 6
            · rw [h6] at e ⊢
              have hF : pWh (tkk n f) (tku n f) 6 = pNm (tkk n f) 3 := rfl
              rw [hF] at e ⊢
              rw [pNm_y (pNm_1 e)]
              exact ⟨[(3, s.1.1 + 1)], [], rfl, (fun e he => by cases he), Or.inl ⟨rfl, rfl⟩⟩
            · by_cases h7 : tkk n f s.1.1 = 7
              · rw [h7] at e ⊢
                have hF : pWh (tkk n f) (tku n f) 7 = pNm (tkk n f) 4 := rfl
                rw [hF] at e ⊢
                rw [pNm_y (pNm_1 e)]
                exact ⟨[(4, s.1.1 + 1)], [], rfl, (fun e he => by cases he), Or.inr (Or.inl ⟨rfl, rfl⟩)⟩
              · have hF : pWh (tkk n f) (tku n f) (tkk n f s.1.1) = (lvV (tkk n f) (tku n f) 8).2 := by unfold pWh; rw [if_neg h6, if_neg h7]
                obtain ⟨X, V, a1, a2⟩ := (n5_V (K := tkk n f) (nu := tku n f) 8).2 (pAc s.1)
                rw [hF]
                exact ⟨[], V, (Prod.ext_iff.mp a1).2, a2, Or.inr (Or.inr ⟨h6, h7, rfl⟩)⟩
          obtain ⟨Y, V, v1, v2, v3⟩ := hV
          refine h.ord (o := (tkk n f s.1.1, s.1.1 + 1, _, _, _)) hB.2.1 (Y := Y) (X := V ++ U) ?_ (fun e he => (List.mem_append.mp he).elim (v2 e) (u2 e)) v3
          show (pTs (tkk n f) (tku n f) (pWh (tkk n f) (tku n f) (tkk n f s.1.1) (pAc s.1)).2).2.2.2 = s.1.2.2 ++ ((2, s.1.1 + 1 - 1) :: (Y ++ (V ++ U)))
          rw [u1, v1]
          simp only [List.append_assoc, Nat.add_sub_cancel, List.cons_append, List.nil_append]
        · rw [if_neg e2] at hl; cases hl
      · rw [if_neg e] at hl; cases hl
    · rw [if_neg ha] at hl; cases hl
/-- a book that was read to its end -/
theorem bkR_ok {n : Nat} {f : Nat → Int32} (h : (bkR n f).1 = true) : BkOk n f (bkR n f).2 ∧ BkN (bkR n f).2 := by
  have key : ∀ (N : Nat) (s : PLt), BkOk n f s → BkN s → (pBk (tkk n f) (tku n f) N s).1 = true → BkOk n f (pBk (tkk n f) (tku n f) N s).2 ∧ BkN (pBk (tkk n f) (tku n f) N s).2 := by
    intro N
    induction N with
    | zero => intro s h1 h2 _; exact ⟨h1, h2⟩
    | succ N ih =>
      intro s h1 h2 h3
      have hpb : pBk (tkk n f) (tku n f) (N + 1) s = (if tkk n f s.1.1 = 1 then (true, s) else if (pLn (tkk n f) (tku n f) s).1 = true then (if tkk n f (pLn (tkk n f) (tku n f) s).2.1.1 = 28 then pBk (tkk n f) (tku n f) N (((pLn (tkk n f) (tku n f) s).2.1.1 + 1, (pLn (tkk n f) (tku n f) s).2.1.2), (pLn (tkk n f) (tku n f) s).2.2) else (false, (pLn (tkk n f) (tku n f) s).2)) else (false, (pLn (tkk n f) (tku n f) s).2)) := rfl
      rw [hpb] at h3 ⊢
      by_cases e1 : tkk n f s.1.1 = 1
      · rw [if_pos e1]; exact ⟨h1, h2⟩
      · rw [if_neg e1] at h3 ⊢
        by_cases e2 : (pLn (tkk n f) (tku n f) s).1 = true
        · rw [if_pos e2] at h3 ⊢
          by_cases e3 : tkk n f (pLn (tkk n f) (tku n f) s).2.1.1 = 28
          · rw [if_pos e3] at h3 ⊢
            have b1 := ((pLn_ok h1).2.2 e2).1
            have p3 := PsOk.step b1.1 (Ps.tk (tkl_spec n f).2.1 (c := 28) (by decide)) (by decide) (by decide)
            rw [pTk_y e3] at p3
            exact ih _ ⟨p3, b1.2.1, b1.2.2⟩ (pLn_bkN h1 h2 e2) h3
          · rw [if_neg e3] at h3; cases h3
        · rw [if_neg e2] at h3; cases h3
  exact key 401 ((0, [], []), []) ⟨⟨Nat.zero_le _, Nat.zero_le _, VS.nil, fun x hx => by cases hx⟩, rfl, fun o ho => by cases ho⟩ ⟨(fun i o ho => by cases ho), (fun P e S hP => by cases P <;> cases hP)⟩ h
