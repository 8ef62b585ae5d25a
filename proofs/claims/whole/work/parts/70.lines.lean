/-! the math of lines: what is read stays in order -/
theorem Ps.nm {K : Nat → Nat} {l m : Nat} (hl : K l ≤ 1) (h1 : 1 ≤ m) (h5 : m ≤ 5) : Ps K l (pNm K m) 1 0 (fun X => X = []) := fun s hs => by
  by_cases e : K s.1 = 2
  · have hne : s.1 ≠ l := fun q => by rw [q] at e; omega
    rw [pNm_y e]
    exact ⟨[], [(m, s.1)], by simp, by show s.1 ≤ s.1 + 1; omega, by show s.1 + 1 ≤ l; omega, (fun x hx => by cases hx), VS.one (Nat.le_refl _) (Nat.lt_succ_self _) (Or.inr e) h1 h5, fun _ => ⟨by simp, rfl⟩, fun q => by simp at q⟩
  · rw [show pNm K m s = (false, s) from if_neg e]
    exact ⟨[], [], by simp, Nat.le_refl _, hs, (fun x hx => by cases hx), VS.nil, fun q => by simp at q, fun _ => by simp⟩
/-- behind the action of an order -/
abbrev pAc (s : PSt) : PSt := (s.1 + 1, s.2.1, s.2.2 ++ [(2, s.1)])
theorem PsOk.act {n : Nat} {f : Nat → Int32} {s : PSt} (h : PsOk n f s) (hk : 2 ≤ tkk n f s.1) : PsOk n f (pAc s) := by
  obtain ⟨h1, h2, h3, h4⟩ := h
  have hlt := tk_lt hk h1
  refine ⟨by show s.1 + 1 ≤ _; omega, by show s.2.1.length ≤ s.1 + 1; omega, h3.app (VS.one (Nat.le_refl _) (Nat.lt_succ_self _) (Or.inl rfl) (by decide) (by decide)) (Nat.zero_le _) (by show s.1 ≤ s.1 + 1; omega), fun x hx q => List.mem_append_left _ (h4 x hx q)⟩
theorem pWh_ok {n : Nat} {f : Nat → Int32} (a : Nat) : ∃ w : Int, 0 ≤ w ∧ Ps (tkk n f) (tkl n f) (pWh (tkk n f) (tku n f) a) 0 w (fun X => 8 ≤ a → Gd X false 64) := by
  have hl := (tkl_spec n f).2.1
  unfold pWh
  by_cases h6 : a = 6
  · rw [if_pos h6]
    exact ⟨0, by decide, (Ps.nm hl (by decide) (by decide)).mono (by decide) (by decide) (fun X _ q => by omega)⟩
  · rw [if_neg h6]
    by_cases h7 : a = 7
    · rw [if_pos h7]
      exact ⟨0, by decide, (Ps.nm hl (by decide) (by decide)).mono (by decide) (by decide) (fun X _ q => by omega)⟩
    · rw [if_neg h7]
      exact ⟨0, by decide, ((lvV_ok (nu := tku n f) hl 8).2).mono (by decide) (by decide) (fun X q _ => q.more (by decide))⟩
theorem nOr_V {K : Nat → Nat} {nu : Nat → Nat} {l : Nat} {f : PF} {u w : Int} {A : List (Nat × Nat) → Prop} {s : PSt} {X V : List (Nat × Nat)} (h : (f s).2.2 = (s.2.1 ++ X, s.2.2 ++ V)) : (f s).2.2.1 = s.2.1 ++ X ∧ (f s).2.2.2 = s.2.2 ++ V := by rw [h]; exact ⟨rfl, rfl⟩
/-- the test behind WHEN, or none -/
def pTs (K nu : Nat → Nat) (s : PSt) : Bool × PSt := if K s.1 = 10 then (lvT K nu 8).2 (s.1 + 1, s.2) else (true, s)
theorem pOr_eq (K nu : Nat → Nat) (s : PLt) : pOr K nu s = (if (pWh K nu (K s.1.1) (pAc s.1)).1 = true then (if (pTs K nu (pWh K nu (K s.1.1) (pAc s.1)).2).1 = true then (true, ((pTs K nu (pWh K nu (K s.1.1) (pAc s.1)).2).2, s.2 ++ [(K s.1.1, s.1.1 + 1, s.1.2.1.length, (pWh K nu (K s.1.1) (pAc s.1)).2.2.1.length, (pTs K nu (pWh K nu (K s.1.1) (pAc s.1)).2).2.2.1.length)])) else (false, ((pTs K nu (pWh K nu (K s.1.1) (pAc s.1)).2).2, s.2))) else (false, ((pWh K nu (K s.1.1) (pAc s.1)).2, s.2))) := rfl
/-- no order is told of but by its action -/
def NoO (f : PF) : Prop := ∀ s : PSt, ∃ X V, (f s).2.2 = (s.2.1 ++ X, s.2.2 ++ V) ∧ nOr V = 0
theorem NoO.seq {a b : PF} (h : NoO a) (g : NoO b) : NoO (pSq a b) := fun s => by
  obtain ⟨X, V, h1, h2⟩ := h s
  by_cases e : (a s).1 = true
  · obtain ⟨Y, W, g1, g2⟩ := g (a s).2
    rw [pSq_y e, g1, h1]
    exact ⟨X ++ Y, V ++ W, by simp only [List.append_assoc], by rw [nOr_app]; omega⟩
  · have e : (a s).1 = false := by simpa using e
    rw [pSq_n e]
    exact ⟨X, V, h1, h2⟩
theorem NoO.id {b : Bool} {s : PSt} : ∃ X V, ((b, s) : Bool × PSt).2.2 = (s.2.1 ++ X, s.2.2 ++ V) ∧ nOr V = 0 := ⟨[], [], by simp, rfl⟩
theorem NoO.tk {K : Nat → Nat} {c : Nat} : NoO (pTk K c) := fun s => by
  unfold pTk; split
  · exact ⟨[], [], by simp, rfl⟩
  · exact ⟨[], [], by simp, rfl⟩
theorem NoO.pt {c x : Nat} : NoO (pPt c x) := fun s => ⟨[(c, x)], [], by simp [pPt], rfl⟩
theorem NoO.nm {K : Nat → Nat} {m : Nat} (h : m ≠ 2) : NoO (pNm K m) := fun s => by
  unfold pNm; split
  · refine ⟨[], [(m, s.1)], by simp, ?_⟩
    unfold nOr
    rw [List.countP_cons, List.countP_nil, if_neg (by simpa using h)]
  · exact ⟨[], [], by simp, rfl⟩
theorem NoO.no : NoO pNo := fun s => NoO.id
theorem NoO.ab {K : Nat → Nat} {c : Nat} : NoO (pAb K c) := fun s => ((NoO.nm (by decide)).seq NoO.pt) s
theorem NoO.lp {K : Nat → Nat} {op : Nat → Bool} {f : PF} (hf : NoO f) : ∀ n, NoO (pLp K op f n) := by
  intro n
  induction n with
  | zero => exact fun s => NoO.id
  | succ n ih =>
    intro s
    by_cases e : op (K s.1) = true
    · rw [show pLp K op f (n + 1) s = _ from if_pos e]
      exact (NoO.tk.seq (hf.seq (NoO.pt.seq ih))) s
    · rw [show pLp K op f (n + 1) s = _ from if_neg e]
      exact NoO.id
theorem NoO.ch {K : Nat → Nat} {op : Nat → Bool} {f : PF} (hf : NoO f) : NoO (pCh K op f) := hf.seq (NoO.lp hf _)
theorem NoO.v {K nu : Nat → Nat} {lo : Option (PF × PF)} (h : ∀ q, lo = some q → NoO q.1 ∧ NoO q.2) : NoO (pV K nu lo) := fun s => by
  unfold pV
  split
  · exact (NoO.tk.seq NoO.pt) s
  · split
    · exact (NoO.tk.seq NoO.pt) s
    · split
      · exact (NoO.tk.seq (NoO.tk.seq NoO.ab)) s
      · cases lo with
        | none =>
          by_cases e : K s.1 = 22 ∨ K s.1 = 23
          · simp only [if_pos e]
            exact (NoO.tk.seq NoO.no) s
          · simp only [if_neg e]
            exact ⟨[], [], by simp, rfl⟩
        | some q =>
          obtain ⟨h1, h2⟩ := h q rfl
          by_cases e : K s.1 = 31
          · simp only [if_pos e]
            exact (NoO.tk.seq (h1.seq NoO.pt)) s
          · simp only [if_neg e]
            by_cases e2 : K s.1 = 24
            · simp only [if_pos e2]
              exact (NoO.tk.seq (h2.seq NoO.tk)) s
            · simp only [if_neg e2]
              by_cases e3 : K s.1 = 22 ∨ K s.1 = 23
              · simp only [if_pos e3]
                exact (NoO.tk.seq (NoO.tk.seq (h2.seq (NoO.tk.seq (h2.seq (NoO.tk.seq NoO.pt)))))) s
              · simp only [if_neg e3]
                exact ⟨[], [], by simp, rfl⟩
theorem noO_V {K nu : Nat → Nat} : ∀ D, NoO (lvV K nu D).1 ∧ NoO (lvV K nu D).2 := by
  intro D
  induction D with
  | zero =>
    have h : NoO (pV K nu none) := NoO.v (fun q e => by cases e)
    exact ⟨h, NoO.ch (NoO.ch h)⟩
  | succ D ih =>
    have h : NoO (pV K nu (some (lvV K nu D))) := NoO.v (fun q e => by cases e; exact ih)
    exact ⟨h, NoO.ch (NoO.ch h)⟩
theorem NoO.cm {K : Nat → Nat} {u : PF} (h : NoO u) : NoO (pCm K u) := NoO.seq h (fun s => by
  by_cases e : 34 ≤ K s.1 ∧ K s.1 ≤ 38
  · simp only [if_pos e]
    exact (NoO.tk.seq (h.seq NoO.pt)) s
  · simp only [if_neg e]
    exact ⟨[], [], by simp, rfl⟩)
theorem NoO.s {K : Nat → Nat} {lo : Option (PF × PF)} {u : PF} (hu : NoO u) (h : ∀ q, lo = some q → NoO q.1 ∧ NoO q.2) : NoO (pS K lo u) := fun s => by
  unfold pS
  by_cases h1 : K s.1 = 19
  · simp only [if_pos h1]
    cases lo with
    | none => exact ⟨[], [], by simp, rfl⟩
    | some q => exact (NoO.tk.seq ((h q rfl).1.seq NoO.pt)) s
  · simp only [if_neg h1]
    by_cases h2 : K s.1 = 26
    · simp only [if_pos h2]
      cases lo with
      | none => exact ⟨[], [], by simp, rfl⟩
      | some q => exact (NoO.tk.seq ((h q rfl).2.seq NoO.tk)) s
    · simp only [if_neg h2]
      by_cases h3 : K s.1 = 18
      · simp only [if_pos h3]; exact (NoO.tk.seq NoO.ab) s
      · simp only [if_neg h3]; exact (NoO.cm hu) s
theorem noO_T {K nu : Nat → Nat} : ∀ D, NoO (lvT K nu D).1 ∧ NoO (lvT K nu D).2 := by
  intro D
  induction D with
  | zero =>
    have h : NoO (pS K none (lvV K nu 0).2) := NoO.s (noO_V 0).2 (fun q e => by cases e)
    exact ⟨h, NoO.ch (NoO.ch h)⟩
  | succ D ih =>
    have h : NoO (pS K (some (lvT K nu D)) (lvV K nu (D + 1)).2) := NoO.s (noO_V (D + 1)).2 (fun q e => by cases e; exact ih)
    exact ⟨h, NoO.ch (NoO.ch h)⟩
theorem noO_W {K nu : Nat → Nat} {a : Nat} : NoO (pWh K nu a) := by
  unfold pWh
  split
  · exact NoO.nm (by decide)
  · split
    · exact NoO.nm (by decide)
    · exact (noO_V 8).2
theorem NoO.len {f : PF} (h : NoO f) (s : PSt) : nOr (f s).2.2.2 = nOr s.2.2 := by
  obtain ⟨X, V, h1, h2⟩ := h s
  rw [show (f s).2.2.2 = s.2.2 ++ V from by rw [h1], nOr_app, h2]
  rfl
/-- what is read of an order keeps the tape's state -/
theorem pTs_ok {n : Nat} {f : Nat → Int32} {s : PSt} (h : PsOk n f s) : PsOk n f (pTs (tkk n f) (tku n f) s).2 ∧ ∃ X V, (pTs (tkk n f) (tku n f) s).2.2 = (s.2.1 ++ X, s.2.2 ++ V) ∧ nOr V = 0 ∧ s.1 ≤ (pTs (tkk n f) (tku n f) s).2.1 ∧ ((pTs (tkk n f) (tku n f) s).1 = true → X ≠ [] → Gd X true 64) := by
  have hl := (tkl_spec n f).2.1
  unfold pTs
  by_cases e : tkk n f s.1 = 10
  · rw [if_pos e]
    have h1 := h.step (Ps.tk hl (c := 10) (by decide)) (by decide) (by decide)
    rw [pTk_y e] at h1
    have hT := (lvT_ok (nu := tku n f) hl 8).2
    obtain ⟨X, V, a1, a2, a3⟩ := h1.mono hT
    have a4 : s.1 + 1 ≤ ((lvT (tkk n f) (tku n f) 8).2 (s.1 + 1, s.2)).2.1 := a2
    refine ⟨PsOk.step h1 hT (by decide) (by decide), X, V, a1, ?_, by omega, fun q _ => (a3 q).more (by decide)⟩
    have := (noO_T (K := tkk n f) (nu := tku n f) 8).2.len (s.1 + 1, s.2)
    rw [show ((lvT (tkk n f) (tku n f) 8).2 (s.1 + 1, s.2)).2.2.2 = s.2.2 ++ V from by rw [a1], nOr_app] at this
    have e2 : nOr (s.1 + 1, s.2).2.2 = nOr s.2.2 := rfl
    omega
  · rw [if_neg e]
    exact ⟨h, [], [], by simp, rfl, Nat.le_refl _, fun _ q => absurd rfl q⟩
theorem pOr_ok {n : Nat} {f : Nat → Int32} {s : PLt} (h : BkOk n f s) (ha : 6 ≤ tkk n f s.1.1 ∧ tkk n f s.1.1 ≤ 9) : PsOk n f (pOr (tkk n f) (tku n f) s).2.1 ∧ s.1.1 < (pOr (tkk n f) (tku n f) s).2.1.1 ∧ ((pOr (tkk n f) (tku n f) s).1 = true → BkOk n f (pOr (tkk n f) (tku n f) s).2) := by
  obtain ⟨h1, h2, h3⟩ := h
  have hA := h1.act (by omega)
  obtain ⟨w, hw, hW⟩ := pWh_ok (n := n) (f := f) (tkk n f s.1.1)
  have hWs := PsOk.step hA hW (by decide) hw
  obtain ⟨X, V, a1, a2, a3⟩ := hA.mono hW
  have a2' : s.1.1 + 1 ≤ (pWh (tkk n f) (tku n f) (tkk n f s.1.1) (pAc s.1)).2.1 := a2
  obtain ⟨t1, Y, U, t2, t3, t4, t5⟩ := pTs_ok hWs
  rw [pOr_eq]
  by_cases e : (pWh (tkk n f) (tku n f) (tkk n f s.1.1) (pAc s.1)).1 = true
  · rw [if_pos e]
    by_cases e2 : (pTs (tkk n f) (tku n f) (pWh (tkk n f) (tku n f) (tkk n f s.1.1) (pAc s.1)).2).1 = true
    · rw [if_pos e2]
      refine ⟨t1, by show s.1.1 < _; exact Nat.lt_of_lt_of_le (by omega) t4, fun _ => ⟨t1, ?_, fun o ho => ?_⟩⟩
      · show (s.2 ++ [_]).length = nOr _
        have n1 := (noO_W (K := tkk n f) (nu := tku n f) (a := tkk n f s.1.1)).len (pAc s.1)
        rw [show (pTs (tkk n f) (tku n f) (pWh (tkk n f) (tku n f) (tkk n f s.1.1) (pAc s.1)).2).2.2.2 = (pWh (tkk n f) (tku n f) (tkk n f s.1.1) (pAc s.1)).2.2.2 ++ U from by rw [t2], nOr_app, n1, t3, List.length_append, h2]
        show nOr s.1.2.2 + 1 = nOr (s.1.2.2 ++ [(2, s.1.1)]) + 0
        rw [nOr_app]; rfl
      · have e3 : (pTs (tkk n f) (tku n f) (pWh (tkk n f) (tku n f) (tkk n f s.1.1) (pAc s.1)).2).2.2.1 = s.1.2.1 ++ (X ++ Y) := by
          rw [show (pTs (tkk n f) (tku n f) (pWh (tkk n f) (tku n f) (tkk n f s.1.1) (pAc s.1)).2).2.2.1 = (pWh (tkk n f) (tku n f) (tkk n f s.1.1) (pAc s.1)).2.2.1 ++ Y from by rw [t2], show (pWh (tkk n f) (tku n f) (tkk n f s.1.1) (pAc s.1)).2.2.1 = s.1.2.1 ++ X from by rw [a1]]
          simp only [List.append_assoc]
        have e4 : (pTs (tkk n f) (tku n f) (pWh (tkk n f) (tku n f) (tkk n f s.1.1) (pAc s.1)).2).2.2.2 = s.1.2.2 ++ ((2, s.1.1) :: (V ++ U)) := by
          rw [show (pTs (tkk n f) (tku n f) (pWh (tkk n f) (tku n f) (tkk n f s.1.1) (pAc s.1)).2).2.2.2 = (pWh (tkk n f) (tku n f) (tkk n f s.1.1) (pAc s.1)).2.2.2 ++ U from by rw [t2], show (pWh (tkk n f) (tku n f) (tkk n f s.1.1) (pAc s.1)).2.2.2 = (s.1.2.2 ++ [(2, s.1.1)]) ++ V from by rw [a1]]
          simp only [List.append_assoc, List.cons_append, List.nil_append]
        show OrK (pTs (tkk n f) (tku n f) (pWh (tkk n f) (tku n f) (tkk n f s.1.1) (pAc s.1)).2).2.2.1 (pTs (tkk n f) (tku n f) (pWh (tkk n f) (tku n f) (tkk n f s.1.1) (pAc s.1)).2).2.2.2 o
        rw [e3, e4]
        rcases List.mem_append.mp ho with q | q
        · exact (h3 o q).app
        · rw [List.mem_singleton.mp q]
          have l1 : (pWh (tkk n f) (tku n f) (tkk n f s.1.1) (pAc s.1)).2.2.1 = s.1.2.1 ++ X := by rw [a1]
          rw [l1, e3]
          have c6 : tkk n f s.1.1 = 6 → (3, s.1.1 + 1) ∈ V := fun q => by
            have e5 := e; have a5 := a1
            rw [q] at e5 a5
            have e6 : pWh (tkk n f) (tku n f) 6 = pNm (tkk n f) 3 := rfl
            rw [e6] at e5 a5
            rw [pNm_y (pNm_1 e5)] at a5
            have a6 : (s.1.2.2 ++ [(2, s.1.1)]) ++ [(3, s.1.1 + 1)] = (s.1.2.2 ++ [(2, s.1.1)]) ++ V := (Prod.ext_iff.mp a5).2
            rw [← List.append_cancel_left a6]
            exact List.mem_singleton.mpr rfl
          have c7 : tkk n f s.1.1 = 7 → (4, s.1.1 + 1) ∈ V := fun q => by
            have e5 := e; have a5 := a1
            rw [q] at e5 a5
            have e6 : pWh (tkk n f) (tku n f) 7 = pNm (tkk n f) 4 := rfl
            rw [e6] at e5 a5
            rw [pNm_y (pNm_1 e5)] at a5
            have a6 : (s.1.2.2 ++ [(2, s.1.1)]) ++ [(4, s.1.1 + 1)] = (s.1.2.2 ++ [(2, s.1.1)]) ++ V := (Prod.ext_iff.mp a5).2
            rw [← List.append_cancel_left a6]
            exact List.mem_singleton.mpr rfl
          have m1 : ∀ e, e ∈ V → e ∈ s.1.2.2 ++ ((2, s.1.1) :: (V ++ U)) := fun e he => List.mem_append_right _ (List.mem_cons_of_mem _ (List.mem_append_left _ he))
          refine ⟨ha, ⟨by show s.1.2.1.length ≤ (s.1.2.1 ++ X).length; rw [List.length_append]; omega, by show (s.1.2.1 ++ X).length ≤ (s.1.2.1 ++ (X ++ Y)).length; simp only [List.length_append]; omega, Nat.le_refl _⟩, fun q => m1 _ (c6 q), fun q => m1 _ (c7 q), fun q => ?_, fun q => ?_⟩
          · show Gd (slc (s.1.2.1 ++ (X ++ Y)) s.1.2.1.length (s.1.2.1 ++ X).length) false 64
            rw [← List.append_assoc, slc_app (by rw [List.length_append]; omega) (Nat.le_refl _), slc_end]
            exact a3 e q
          · show Gd (slc (s.1.2.1 ++ (X ++ Y)) (s.1.2.1 ++ X).length (s.1.2.1 ++ (X ++ Y)).length) true 64
            rw [← List.append_assoc, slc_end]
            refine t5 e2 (fun hY => q ?_)
            show (s.1.2.1 ++ X).length = (s.1.2.1 ++ (X ++ Y)).length
            rw [hY, List.append_nil]
    · rw [if_neg e2]
      exact ⟨t1, Nat.lt_of_lt_of_le (by omega) t4, fun q => by cases q⟩
  · rw [if_neg e]
    exact ⟨hWs, a2', fun q => by cases q⟩
