/-! the math of the book: steps are kinds of tokens -/
/-- steps are kinds of tokens -/
def C39 (f : PF) : Prop := ∀ s : PSt, ∃ X V, (f s).2.2 = (s.2.1 ++ X, s.2.2 ++ V) ∧ ∀ e, e ∈ X → e.1 < 39
theorem C39.seq {a b : PF} (h : C39 a) (g : C39 b) : C39 (pSq a b) := fun s => by
  obtain ⟨X, V, h1, h2⟩ := h s
  by_cases e : (a s).1 = true
  · obtain ⟨Y, W, g1, g2⟩ := g (a s).2
    rw [pSq_y e, g1, h1]
    exact ⟨X ++ Y, V ++ W, by simp only [List.append_assoc], fun e he => (List.mem_append.mp he).elim (h2 e) (g2 e)⟩
  · have e : (a s).1 = false := by simpa using e
    rw [pSq_n e]
    exact ⟨X, V, h1, h2⟩
theorem C39.id {b : Bool} {s : PSt} : ∃ X V, ((b, s) : Bool × PSt).2.2 = (s.2.1 ++ X, s.2.2 ++ V) ∧ ∀ e, e ∈ X → e.1 < 39 := ⟨[], [], by simp, (fun e he => by cases he)⟩
theorem C39.tk {K : Nat → Nat} {c : Nat} : C39 (pTk K c) := fun s => by
  unfold pTk; split
  · exact ⟨[], [], by simp, (fun e he => by cases he)⟩
  · exact ⟨[], [], by simp, (fun e he => by cases he)⟩
theorem C39.pt {c x : Nat} (h : c < 39) : C39 (pPt c x) := fun s => ⟨[(c, x)], [], by simp [pPt], (fun e he => by rw [List.mem_singleton.mp he]; exact h)⟩
theorem C39.nm {K : Nat → Nat} {m : Nat} : C39 (pNm K m) := fun s => by
  unfold pNm; split
  · exact ⟨[], [(m, s.1)], by simp, (fun e he => by cases he)⟩
  · exact ⟨[], [], by simp, (fun e he => by cases he)⟩
theorem C39.no : C39 pNo := fun s => C39.id
theorem C39.ab {K : Nat → Nat} {c : Nat} (h : c < 39) : C39 (pAb K c) := fun s => (C39.nm.seq (C39.pt h)) s
theorem C39.lp {K : Nat → Nat} {op : Nat → Bool} {f : PF} (hK : ∀ i, K i < 39) (hf : C39 f) : ∀ n, C39 (pLp K op f n) := by
  intro n
  induction n with
  | zero => exact fun s => C39.id
  | succ n ih =>
    intro s
    by_cases e : op (K s.1) = true
    · rw [show pLp K op f (n + 1) s = _ from if_pos e]
      exact (C39.tk.seq (hf.seq ((C39.pt (by first | decide | exact hK _)).seq ih))) s
    · rw [show pLp K op f (n + 1) s = _ from if_neg e]
      exact C39.id
theorem C39.ch {K : Nat → Nat} {op : Nat → Bool} {f : PF} (hK : ∀ i, K i < 39) (hf : C39 f) : C39 (pCh K op f) := hf.seq (C39.lp hK hf _)
theorem C39.v {K nu : Nat → Nat} {lo : Option (PF × PF)} (hK : ∀ i, K i < 39) (h : ∀ q, lo = some q → C39 q.1 ∧ C39 q.2) : C39 (pV K nu lo) := fun s => by
  unfold pV
  split
  · exact (C39.tk.seq (C39.pt (by first | decide | exact hK _))) s
  · split
    · exact (C39.tk.seq (C39.pt (by first | decide | exact hK _))) s
    · split
      · exact (C39.tk.seq (C39.tk.seq (C39.ab (by first | decide | exact hK _)))) s
      · cases lo with
        | none =>
          by_cases e : K s.1 = 22 ∨ K s.1 = 23
          · simp only [if_pos e]
            exact (C39.tk.seq C39.no) s
          · simp only [if_neg e]
            exact ⟨[], [], by simp, (fun e he => by cases he)⟩
        | some q =>
          obtain ⟨h1, h2⟩ := h q rfl
          by_cases e : K s.1 = 31
          · simp only [if_pos e]
            exact (C39.tk.seq (h1.seq (C39.pt (by first | decide | exact hK _)))) s
          · simp only [if_neg e]
            by_cases e2 : K s.1 = 24
            · simp only [if_pos e2]
              exact (C39.tk.seq (h2.seq C39.tk)) s
            · simp only [if_neg e2]
              by_cases e3 : K s.1 = 22 ∨ K s.1 = 23
              · simp only [if_pos e3]
                exact (C39.tk.seq (C39.tk.seq (h2.seq (C39.tk.seq (h2.seq (C39.tk.seq (C39.pt (by first | decide | exact hK _)))))))) s
              · simp only [if_neg e3]
                exact ⟨[], [], by simp, (fun e he => by cases he)⟩
theorem c39_V {K nu : Nat → Nat} (hK : ∀ i, K i < 39) : ∀ D, C39 (lvV K nu D).1 ∧ C39 (lvV K nu D).2 := by
  intro D
  induction D with
  | zero =>
    have h : C39 (pV K nu none) := C39.v hK (fun q e => by cases e)
    exact ⟨h, C39.ch hK (C39.ch hK h)⟩
  | succ D ih =>
    have h : C39 (pV K nu (some (lvV K nu D))) := C39.v hK (fun q e => by cases e; exact ih)
    exact ⟨h, C39.ch hK (C39.ch hK h)⟩
theorem C39.cm {K : Nat → Nat} {u : PF} (hK : ∀ i, K i < 39) (h : C39 u) : C39 (pCm K u) := C39.seq h (fun s => by
  by_cases e : 34 ≤ K s.1 ∧ K s.1 ≤ 38
  · simp only [if_pos e]
    exact (C39.tk.seq (h.seq (C39.pt (by first | decide | exact hK _)))) s
  · simp only [if_neg e]
    exact ⟨[], [], by simp, (fun e he => by cases he)⟩)
theorem C39.s {K : Nat → Nat} {lo : Option (PF × PF)} {u : PF} (hK : ∀ i, K i < 39) (hu : C39 u) (h : ∀ q, lo = some q → C39 q.1 ∧ C39 q.2) : C39 (pS K lo u) := fun s => by
  unfold pS
  by_cases h1 : K s.1 = 19
  · simp only [if_pos h1]
    cases lo with
    | none => exact ⟨[], [], by simp, (fun e he => by cases he)⟩
    | some q => exact (C39.tk.seq ((h q rfl).1.seq (C39.pt (by first | decide | exact hK _)))) s
  · simp only [if_neg h1]
    by_cases h2 : K s.1 = 26
    · simp only [if_pos h2]
      cases lo with
      | none => exact ⟨[], [], by simp, (fun e he => by cases he)⟩
      | some q => exact (C39.tk.seq ((h q rfl).2.seq C39.tk)) s
    · simp only [if_neg h2]
      by_cases h3 : K s.1 = 18
      · simp only [if_pos h3]; exact (C39.tk.seq (C39.ab (by first | decide | exact hK _))) s
      · simp only [if_neg h3]; exact (C39.cm hK hu) s
theorem c39_T {K nu : Nat → Nat} (hK : ∀ i, K i < 39) : ∀ D, C39 (lvT K nu D).1 ∧ C39 (lvT K nu D).2 := by
  intro D
  induction D with
  | zero =>
    have h : C39 (pS K none (lvV K nu 0).2) := C39.s hK (c39_V hK 0).2 (fun q e => by cases e)
    exact ⟨h, C39.ch hK (C39.ch hK h)⟩
  | succ D ih =>
    have h : C39 (pS K (some (lvT K nu D)) (lvV K nu (D + 1)).2) := C39.s hK (c39_V hK (D + 1)).2 (fun q e => by cases e; exact ih)
    exact ⟨h, C39.ch hK (C39.ch hK h)⟩
theorem pLn_39 {n : Nat} {f : Nat → Int32} {s : PLt} (h : ∀ x, x ∈ s.1.2.1 → x.1 < 39) : ∀ x, x ∈ (pLn (tkk n f) (tku n f) s).2.1.2.1 → x.1 < 39 := by
  have hK := tkk_lt n f
  have ap : ∀ (F : PF) (t : PSt), C39 F → (∀ x, x ∈ t.2.1 → x.1 < 39) → ∀ x, x ∈ (F t).2.2.1 → x.1 < 39 := fun F t hF ht x hx => by
    obtain ⟨X, V, a1, a2⟩ := hF t
    rw [show (F t).2.2.1 = t.2.1 ++ X from by rw [a1]] at hx
    exact (List.mem_append.mp hx).elim (ht x) (a2 x)
  have hW : C39 (pWh (tkk n f) (tku n f) (tkk n f s.1.1)) := by
    unfold pWh
    split
    · exact C39.nm
    · split
      · exact C39.nm
      · exact (c39_V hK 8).2
  unfold pLn
  split
  · exact ap (pNm (tkk n f) 1) (s.1.1 + 1, s.1.2) C39.nm h
  · split
    · rw [pOr_eq]
      have h1 := ap _ (pAc s.1) hW h
      have h2 : ∀ x, x ∈ (pTs (tkk n f) (tku n f) (pWh (tkk n f) (tku n f) (tkk n f s.1.1) (pAc s.1)).2).2.2.1 → x.1 < 39 := by
        unfold pTs
        split
        · exact ap _ _ (c39_T hK 8).2 h1
        · exact h1
      split
      · split
        · exact h2
        · exact h2
      · exact h1
    · exact h
theorem bkR_39 {n : Nat} {f : Nat → Int32} : ∀ x, x ∈ (bkR n f).2.1.2.1 → x.1 < 39 := by
  have key : ∀ (N : Nat) (s : PLt), (∀ x, x ∈ s.1.2.1 → x.1 < 39) → ∀ x, x ∈ (pBk (tkk n f) (tku n f) N s).2.1.2.1 → x.1 < 39 := by
    intro N
    induction N with
    | zero => intro s h; exact h
    | succ N ih =>
      intro s h
      have hpb : pBk (tkk n f) (tku n f) (N + 1) s = (if tkk n f s.1.1 = 1 then (true, s) else if (pLn (tkk n f) (tku n f) s).1 = true then (if tkk n f (pLn (tkk n f) (tku n f) s).2.1.1 = 28 then pBk (tkk n f) (tku n f) N (((pLn (tkk n f) (tku n f) s).2.1.1 + 1, (pLn (tkk n f) (tku n f) s).2.1.2), (pLn (tkk n f) (tku n f) s).2.2) else (false, (pLn (tkk n f) (tku n f) s).2)) else (false, (pLn (tkk n f) (tku n f) s).2)) := rfl
      rw [hpb]
      have h1 := pLn_39 (n := n) (f := f) h
      split
      · exact h
      · split
        · split
          · exact ih (((pLn (tkk n f) (tku n f) s).2.1.1 + 1, (pLn (tkk n f) (tku n f) s).2.1.2), (pLn (tkk n f) (tku n f) s).2.2) h1
          · exact h1
        · exact h1
  exact key 401 ((0, [], []), []) (fun x hx => by cases hx)
theorem bkR_rc {n : Nat} {f : Nat → Int32} : ∀ x, x ∈ (bkR n f).2.1.2.1 → rc x.1 < 2000 := fun x hx => rc_lt (bkR_39 x hx)
