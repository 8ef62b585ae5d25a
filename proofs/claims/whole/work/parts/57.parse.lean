/-! the math of the grammar: a parser over kinds of tokens; what it puts is good for a stack -/
abbrev PSt : Type := Nat × List (Nat × Nat) × List (Nat × Nat)
abbrev PF : Type := PSt → Bool × PSt
section PAR
variable (K : Nat → Nat) (nu : Nat → Nat)
def pTk (c : Nat) : PF := fun s => if K s.1 = c then (true, (s.1 + 1, s.2)) else (false, s)
def pPt (c x : Nat) : PF := fun s => (true, (s.1, s.2.1 ++ [(c, x)], s.2.2))
def pNm (m : Nat) : PF := fun s => if K s.1 = 2 then (true, (s.1 + 1, s.2.1, s.2.2 ++ [(m, s.1)])) else (false, s)
def pNo : PF := fun s => (false, s)
def pSq (a b : PF) : PF := fun s => if (a s).1 = true then b (a s).2 else (false, (a s).2)
/-- a word about an insult: the token of its name stands for it -/
def pAb (c : Nat) : PF := fun s => pSq (pNm K 5) (pPt c s.1) s
def pLp (op : Nat → Bool) (f : PF) : Nat → PF
  | 0 => fun s => (true, s)
  | n + 1 => fun s => if op (K s.1) = true then pSq (pTk K (K s.1)) (pSq f (pSq (pPt (K s.1) 0) (pLp op f n))) s else (true, s)
def pCh (op : Nat → Bool) (f : PF) : PF := pSq f (pLp K op f 401)
def pV (lo : Option (PF × PF)) : PF := fun s =>
  if K s.1 = 3 then pSq (pTk K 3) (pPt 3 (nu s.1)) s
  else if 11 ≤ K s.1 ∧ K s.1 ≤ 14 then pSq (pTk K (K s.1)) (pPt (K s.1) 0) s
  else if K s.1 = 15 ∨ K s.1 = 16 then pSq (pTk K (K s.1)) (pSq (pTk K 17) (pAb K (K s.1))) s
  else match lo with
    | none => if K s.1 = 22 ∨ K s.1 = 23 then pSq (pTk K (K s.1)) pNo s else (false, s)
    | some lo => if K s.1 = 31 then pSq (pTk K 31) (pSq lo.1 (pPt 4 0)) s
      else if K s.1 = 24 then pSq (pTk K 24) (pSq lo.2 (pTk K 25)) s
      else if K s.1 = 22 ∨ K s.1 = 23 then pSq (pTk K (K s.1)) (pSq (pTk K 24) (pSq lo.2 (pSq (pTk K 29) (pSq lo.2 (pSq (pTk K 25) (pPt (K s.1) 0)))))) s
      else (false, s)
def opT (c : Nat) : Bool := c == 32 || c == 33
def opS (c : Nat) : Bool := c == 30 || c == 31
def opA (c : Nat) : Bool := c == 20
def opO (c : Nat) : Bool := c == 21
/-- value and sum, with D more depths below -/
def lvV : Nat → PF × PF
  | 0 => (pV K nu none, pCh K opS (pCh K opT (pV K nu none)))
  | D + 1 => (pV K nu (some (lvV D)), pCh K opS (pCh K opT (pV K nu (some (lvV D)))))
def pCm (u : PF) : PF := pSq u (fun s => if 34 ≤ K s.1 ∧ K s.1 ≤ 38 then pSq (pTk K (K s.1)) (pSq u (pPt (K s.1) 0)) s else (false, s))
def pS (lo : Option (PF × PF)) (u : PF) : PF := fun s =>
  if K s.1 = 19 then (match lo with
    | none => (false, s)
    | some lo => pSq (pTk K 19) (pSq lo.1 (pPt 19 0)) s)
  else if K s.1 = 26 then (match lo with
    | none => (false, s)
    | some lo => pSq (pTk K 26) (pSq lo.2 (pTk K 27)) s)
  else if K s.1 = 18 then pSq (pTk K 18) (pAb K 18) s
  else pCm K u s
/-- single and test -/
def lvT : Nat → PF × PF
  | 0 => (pS K none (lvV K nu 0).2, pCh K opO (pCh K opA (pS K none (lvV K nu 0).2)))
  | D + 1 => (pS K (some (lvT D)) (lvV K nu (D + 1)).2, pCh K opO (pCh K opA (pS K (some (lvT D)) (lvV K nu (D + 1)).2)))
end PAR
def rnL (a : Nat → Int32 → Int32) (xv : Nat × Nat → Int32) : List (Nat × Nat) → List Int32 → Option (List Int32)
  | [], st => some st
  | x :: X, st => match stp a x.1 (xv x) st with
    | none => none
    | some st' => rnL a xv X st'
theorem rnL_app {a : Nat → Int32 → Int32} {xv : Nat × Nat → Int32} : ∀ {X Y : List (Nat × Nat)} {st st' : List Int32}, rnL a xv X st = some st' → rnL a xv (X ++ Y) st = rnL a xv Y st' := by
  intro X
  induction X with
  | nil => intro Y st st' h; cases h; rfl
  | cons x X ih =>
    intro Y st st' h
    have e1 : rnL a xv (x :: X) st = (match stp a x.1 (xv x) st with
      | none => none
      | some st' => rnL a xv X st') := rfl
    have e2 : rnL a xv (x :: X ++ Y) st = (match stp a x.1 (xv x) st with
      | none => none
      | some st' => rnL a xv (X ++ Y) st') := rfl
    rw [e1] at h
    rw [e2]
    cases e : stp a x.1 (xv x) st with
    | none => rw [e] at h; cases h
    | some st1 => rw [e] at h; exact ih h
theorem rn_rnL {a : Nat → Int32 → Int32} {xv : Nat × Nat → Int32} {S : Nat → Nat × Int32} : ∀ {X : List (Nat × Nat)} {i : Nat} {st : List Int32}, (∀ j, (h : j < X.length) → S (i + j) = (X[j].1, xv X[j])) → rn a S X.length i st = rnL a xv X st := by
  intro X
  induction X with
  | nil => intro i st _; rfl
  | cons x X ih =>
    intro i st h
    have h0 := h 0 (Nat.succ_pos _)
    rw [Nat.add_zero] at h0
    show rn a S (X.length + 1) i st = _
    unfold rn rnL
    rw [h0]
    show (match stp a x.1 (xv x) st with | none => none | some st' => rn a S X.length (i + 1) st') = _
    cases stp a x.1 (xv x) st with
    | none => rfl
    | some st' => exact ih (fun j hj => by have := h (j + 1) (Nat.succ_lt_succ hj); rw [show i + 1 + j = i + (j + 1) by omega]; exact this)
/-- a row of steps that leaves one number more, over no more than k places; b: it is 0 or 1 -/
def Gd (X : List (Nat × Nat)) (b : Bool) (k : Nat) : Prop := ∀ (a : Nat → Int32 → Int32) (xv : Nat × Nat → Int32), (∀ x, a 18 x = 0 ∨ a 18 x = 1) → ∀ (st : List Int32), st.length + k ≤ 64 → ∃ v, rnL a xv X st = some (v :: st) ∧ (b = true → v = 0 ∨ v = 1)
theorem Gd.more {X : List (Nat × Nat)} {b : Bool} {k k' : Nat} (h : Gd X b k) (hk : k ≤ k') : Gd X b k' := fun a xv ha st hs => h a xv ha st (by omega)
theorem Gd.num {X : List (Nat × Nat)} {b : Bool} {k : Nat} (h : Gd X b k) : Gd X false k := fun a xv ha st hs => by
  obtain ⟨v, h1, -⟩ := h a xv ha st hs
  exact ⟨v, h1, fun q => by cases q⟩
theorem Gd.atom {c x : Nat} (hc : isAt c = true) : Gd [(c, x)] false 1 := fun a xv ha st hs => by
  refine ⟨a c (xv (c, x)), ?_, fun q => by cases q⟩
  unfold rnL stp
  rw [if_pos hc, if_pos (by omega)]
  rfl
theorem Gd.know {x : Nat} : Gd [(18, x)] true 1 := fun a xv ha st hs => by
  refine ⟨a 18 (xv (18, x)), ?_, fun _ => ha _⟩
  unfold rnL stp
  rw [if_pos (show isAt 18 = true by decide), if_pos (by omega)]
  rfl
theorem Gd.neg {X : List (Nat × Nat)} {b : Bool} {k x : Nat} (h : Gd X b k) : Gd (X ++ [(4, x)]) false k := fun a xv ha st hs => by
  obtain ⟨v, h1, -⟩ := h a xv ha st hs
  exact ⟨-v, by rw [rnL_app h1]; rfl, fun q => by cases q⟩
theorem Gd.not {X : List (Nat × Nat)} {k x : Nat} (h : Gd X true k) : Gd (X ++ [(19, x)]) true k := fun a xv ha st hs => by
  obtain ⟨v, h1, h2⟩ := h a xv ha st hs
  have hv := h2 rfl
  refine ⟨b2i (decide (v = 0)), ?_, fun _ => by cases decide (v = 0) <;> simp [b2i]⟩
  rw [rnL_app h1]
  have e : stp a 19 (xv (19, x)) (v :: st) = some (b2i (decide (v = 0)) :: st) := by
    unfold stp
    rw [if_neg (by decide), if_neg (by decide), if_pos rfl]
    exact if_pos hv
  show (match stp a 19 (xv (19, x)) (v :: st) with
      | none => none
      | some st' => rnL a xv [] st') = _
  rw [e]
  rfl
theorem isBi_at {c : Nat} (h : isBi c = true) : ¬ isAt c = true ∧ ¬ c = 4 ∧ ¬ c = 19 := by
  have h39 := code_lt (c := c) (by rw [h]; simp)
  rcases isBi_cases c h39 h with rfl | rfl | rfl | rfl | rfl | rfl | rfl | rfl | rfl | rfl | rfl | rfl | rfl <;> decide
theorem Gd.bin {X Y : List (Nat × Nat)} {b d : Bool} {k c x : Nat} (hc : isBi c = true) (h : Gd X b (k + 1)) (g : Gd Y b k) (hd : d = true → ∀ p q : Int32, (b = true → (p = 0 ∨ p = 1) ∧ (q = 0 ∨ q = 1)) → bop c p q = 0 ∨ bop c p q = 1) : Gd (X ++ Y ++ [(c, x)]) d (k + 1) := fun a xv ha st hs => by
  obtain ⟨v, h1, h2⟩ := h a xv ha st (by omega)
  obtain ⟨w, g1, g2⟩ := g a xv ha (v :: st) (by rw [List.length_cons]; omega)
  refine ⟨bop c v w, ?_, fun q => hd q v w (fun e => ⟨h2 e, g2 e⟩)⟩
  rw [List.append_assoc, rnL_app h1, rnL_app g1]
  obtain ⟨q1, q2, q3⟩ := isBi_at hc
  unfold rnL stp
  rw [if_neg q1, if_neg q2, if_neg q3, if_pos hc]
  rfl
theorem b2i_01 (b : Bool) : b2i b = 0 ∨ b2i b = 1 := by cases b <;> simp [b2i]
theorem bop_test {c : Nat} (hc : 34 ≤ c ∧ c ≤ 38) (p q : Int32) : bop c p q = 0 ∨ bop c p q = 1 := by
  obtain ⟨h1, h2⟩ := hc
  rcases (show c = 34 ∨ c = 35 ∨ c = 36 ∨ c = 37 ∨ c = 38 by omega) with rfl | rfl | rfl | rfl | rfl <;> exact b2i_01 _
theorem bop_both {c : Nat} (hc : c = 20 ∨ c = 21) (p q : Int32) (h : (p = 0 ∨ p = 1) ∧ (q = 0 ∨ q = 1)) : bop c p q = 0 ∨ bop c p q = 1 := by
  obtain ⟨hp, hq⟩ := h
  rcases hc with rfl | rfl <;> rcases hp with rfl | rfl <;> rcases hq with rfl | rfl <;> decide
/-- steps about an insult have told of its name -/
abbrev AbX (X V : List (Nat × Nat)) : Prop := ∀ x, x ∈ X → (x.1 = 15 ∨ x.1 = 16 ∨ x.1 = 18) → (5, x.2) ∈ V
theorem AbX.app {X Y V W : List (Nat × Nat)} (h : AbX X V) (g : AbX Y W) : AbX (X ++ Y) (V ++ W) := fun x hx hc => by
  rcases List.mem_append.mp hx with q | q
  · exact List.mem_append_left _ (h x q hc)
  · exact List.mem_append_right _ (g x q hc)
/-- news in the order of their tokens, from lo on and ahead of hi -/
def VS (K : Nat → Nat) (lo hi : Nat) (V : List (Nat × Nat)) : Prop := V.Pairwise (fun p q => p.2 < q.2) ∧ ∀ e, e ∈ V → lo ≤ e.2 ∧ e.2 < hi ∧ (e.1 = 2 ∨ K e.2 = 2) ∧ 1 ≤ e.1 ∧ e.1 ≤ 5
theorem VS.nil {K : Nat → Nat} {lo hi : Nat} : VS K lo hi [] := ⟨List.Pairwise.nil, fun e he => by cases he⟩
theorem VS.one {K : Nat → Nat} {lo hi m k : Nat} (h1 : lo ≤ k) (h2 : k < hi) (h3 : m = 2 ∨ K k = 2) (h4 : 1 ≤ m) (h5 : m ≤ 5) : VS K lo hi [(m, k)] := ⟨List.pairwise_singleton _ _, fun e he => by rw [List.mem_singleton.mp he]; exact ⟨h1, h2, h3, h4, h5⟩⟩
theorem VS.app {K : Nat → Nat} {a b c : Nat} {V W : List (Nat × Nat)} (h : VS K a b V) (g : VS K b c W) (hab : a ≤ b) (hbc : b ≤ c) : VS K a c (V ++ W) := by
  refine ⟨List.pairwise_append.mpr ⟨h.1, g.1, fun x hx y hy => ?_⟩, fun e he => ?_⟩
  · have := h.2 x hx; have := g.2 y hy; omega
  · rcases List.mem_append.mp he with q | q
    · obtain ⟨h1, h2, h3⟩ := h.2 e q; exact ⟨h1, by omega, h3⟩
    · obtain ⟨h1, h2, h3⟩ := g.2 e q; exact ⟨by omega, h2, h3⟩
def Ps (K : Nat → Nat) (l : Nat) (f : PF) (u w : Int) (A : List (Nat × Nat) → Prop) : Prop := ∀ s : PSt, s.1 ≤ l → ∃ X V, (f s).2.2 = (s.2.1 ++ X, s.2.2 ++ V) ∧ s.1 ≤ (f s).2.1 ∧ (f s).2.1 ≤ l ∧ AbX X V ∧ VS K s.1 (f s).2.1 V ∧ ((f s).1 = true → (X.length : Int) + s.1 + u ≤ (f s).2.1 ∧ A X) ∧ ((f s).1 = false → (X.length : Int) + s.1 + w ≤ (f s).2.1)
theorem Ps.mono {K : Nat → Nat} {l : Nat} {f : PF} {u w u' w' : Int} {A B : List (Nat × Nat) → Prop} (h : Ps K l f u w A) (hu : u' ≤ u) (hw : w' ≤ w) (hA : ∀ X, A X → B X) : Ps K l f u' w' B := fun s hs => by
  obtain ⟨X, V, h1, h2, h3, h4, h7, h5, h6⟩ := h s hs
  exact ⟨X, V, h1, h2, h3, h4, h7, fun q => ⟨by have := (h5 q).1; omega, hA X (h5 q).2⟩, fun q => by have := h6 q; omega⟩
theorem Ps.seq {K : Nat → Nat} {l : Nat} {a b : PF} {u w u' w' : Int} {A B : List (Nat × Nat) → Prop} (h : Ps K l a u w A) (g : Ps K l b u' w' B) : Ps K l (pSq a b) (u + u') (min w (u + w')) (fun Z => ∃ X Y, Z = X ++ Y ∧ A X ∧ B Y) := fun s hs => by
  obtain ⟨X, V, h1, h2, h3, h4, h7, h5, h6⟩ := h s hs
  by_cases e : (a s).1 = true
  · obtain ⟨Y, W, g1, g2, g3, g4, g7, g5, g6⟩ := g (a s).2 h3
    have ee : pSq a b s = b (a s).2 := if_pos e
    have h5 := h5 e
    rw [ee]
    rw [h1] at g1
    refine ⟨X ++ Y, V ++ W, by rw [g1]; simp only [List.append_assoc], by omega, g3, h4.app g4, h7.app g7 h2 g2, fun q => ⟨?_, X, Y, rfl, h5.2, (g5 q).2⟩, fun q => ?_⟩
    · have := (g5 q).1; rw [List.length_append]; omega
    · have := g6 q; rw [List.length_append]; omega
  · have ee : pSq a b s = (false, (a s).2) := if_neg e
    have h6 := h6 (by simpa using e)
    rw [ee]
    exact ⟨X, V, h1, h2, h3, h4, h7, fun q => by simp at q, fun _ => by show _ ≤ (((a s).2.1 : Nat) : Int); omega⟩
theorem Ps.no {K : Nat → Nat} {l : Nat} : Ps K l pNo 0 0 (fun _ => False) := fun s hs => ⟨[], [], by simp [pNo], Nat.le_refl _, hs, (fun x hx => by cases hx), VS.nil, fun q => by simp [pNo] at q, fun _ => by simp [pNo]⟩
theorem Ps.tk {K : Nat → Nat} {l : Nat} (hl : K l ≤ 1) {c : Nat} (hc : 2 ≤ c) : Ps K l (pTk K c) 1 0 (fun X => X = []) := fun s hs => by
  by_cases e : K s.1 = c
  · have hne : s.1 ≠ l := fun q => by rw [q] at e; omega
    have ee : pTk K c s = (true, (s.1 + 1, s.2)) := if_pos e
    rw [ee]
    exact ⟨[], [], by simp, by show s.1 ≤ s.1 + 1; omega, by show s.1 + 1 ≤ l; omega, (fun x hx => by cases hx), VS.nil, fun _ => ⟨by simp, rfl⟩, fun q => by simp at q⟩
  · have ee : pTk K c s = (false, s) := if_neg e
    rw [ee]
    exact ⟨[], [], by simp, Nat.le_refl _, hs, (fun x hx => by cases hx), VS.nil, fun q => by simp at q, fun _ => by simp⟩
theorem Ps.pt {K : Nat → Nat} {l c x : Nat} (hc : ¬ (c = 15 ∨ c = 16 ∨ c = 18)) : Ps K l (pPt c x) (-1) 0 (fun X => X = [(c, x)]) := fun s hs =>
  ⟨[(c, x)], [], by simp [pPt], Nat.le_refl _, hs, (fun y hy q => by rw [List.mem_singleton.mp hy] at q; exact absurd q hc), VS.nil, fun _ => ⟨by show (1 : Int) + s.1 + -1 ≤ s.1; omega, rfl⟩, fun q => by simp [pPt] at q⟩
theorem Ps.ab {K : Nat → Nat} {l : Nat} (hl : K l ≤ 1) (c : Nat) : Ps K l (pAb K c) 0 0 (fun X => ∃ x, X = [(c, x)]) := fun s hs => by
  unfold pAb pSq pNm
  by_cases e : K s.1 = 2
  · have hne : s.1 ≠ l := fun q => by rw [q] at e; omega
    rw [if_pos e]
    refine ⟨[(c, s.1)], [(5, s.1)], by simp [pPt], ?_, ?_, (fun y hy _ => by rw [List.mem_singleton.mp hy]; exact List.mem_singleton.mpr rfl), VS.one (Nat.le_refl _) (Nat.lt_succ_self _) (Or.inr e) (by decide) (by decide), fun _ => ⟨?_, s.1, rfl⟩, fun q => by simp [pPt] at q⟩
    · show s.1 ≤ s.1 + 1; omega
    · show s.1 + 1 ≤ l; omega
    · show (1 : Int) + s.1 + 0 ≤ ((s.1 + 1 : Nat) : Int); omega
  · rw [if_neg e]
    exact ⟨[], [], by simp, Nat.le_refl _, hs, (fun y hy => by cases hy), VS.nil, fun q => by simp at q, fun _ => by simp⟩
/-- a parser that puts what is good for a stack -/
abbrev Pg (K : Nat → Nat) (l : Nat) (f : PF) (b : Bool) (k : Nat) : Prop := Ps K l f 0 0 (fun X => Gd X b k)
theorem Pg.lp {K : Nat → Nat} {l : Nat} (hl : K l ≤ 1) {op : Nat → Bool} {f : PF} {b : Bool} {k : Nat} (hop : ∀ c, op c = true → isBi c = true ∧ ∀ p q : Int32, b = true → (p = 0 ∨ p = 1) ∧ (q = 0 ∨ q = 1) → bop c p q = 0 ∨ bop c p q = 1) (hf : Pg K l f b k) : ∀ n, Ps K l (pLp K op f n) 0 0 (fun Z => ∀ X, Gd X b (k + 1) → Gd (X ++ Z) b (k + 1)) := by
  intro n
  induction n with
  | zero => exact fun s hs => ⟨[], [], by simp [pLp], Nat.le_refl _, hs, (fun x hx => by cases hx), VS.nil, fun _ => ⟨by simp [pLp], fun X h => by rw [List.append_nil]; exact h⟩, fun q => by simp [pLp] at q⟩
  | succ n ih =>
    intro s hs
    by_cases e : op (K s.1) = true
    · obtain ⟨hb, hv⟩ := hop _ e
      have h39 := code_lt (c := K s.1) (by rw [hb]; simp)
      have h2 : 2 ≤ K s.1 ∧ ¬ (K s.1 = 15 ∨ K s.1 = 16 ∨ K s.1 = 18) := by
        rcases isBi_cases _ h39 hb with q | q | q | q | q | q | q | q | q | q | q | q | q <;> omega
      have ee : pLp K op f (n + 1) s = pSq (pTk K (K s.1)) (pSq f (pSq (pPt (K s.1) 0) (pLp K op f n))) s := if_pos e
      rw [ee]
      refine ((Ps.tk hl h2.1).seq (hf.seq ((Ps.pt h2.2).seq ih))).mono (by omega) (by omega) ?_ s hs
      rintro Z ⟨X0, Y0, rfl, rfl, X1, Y1, rfl, g1, X2, Y2, rfl, rfl, g2⟩ X hX
      have := g2 _ (Gd.bin (x := 0) hb hX g1 (d := b) (fun q p r h => hv p r q (h q)))
      simpa only [List.append_assoc, List.nil_append] using this
    · have ee : pLp K op f (n + 1) s = (true, s) := if_neg e
      rw [ee]
      exact ⟨[], [], by simp, Nat.le_refl _, hs, (fun x hx => by cases hx), VS.nil, fun _ => ⟨by simp, fun X h => by rw [List.append_nil]; exact h⟩, fun q => by simp at q⟩
theorem Pg.ch {K : Nat → Nat} {l : Nat} (hl : K l ≤ 1) {op : Nat → Bool} {f : PF} {b : Bool} {k : Nat} (hop : ∀ c, op c = true → isBi c = true ∧ ∀ p q : Int32, b = true → (p = 0 ∨ p = 1) ∧ (q = 0 ∨ q = 1) → bop c p q = 0 ∨ bop c p q = 1) (hf : Pg K l f b k) : Pg K l (pCh K op f) b (k + 1) := by
  refine (hf.seq (Pg.lp hl hop hf 401)).mono (by omega) (by omega) ?_
  rintro Z ⟨X, Y, rfl, h1, h2⟩
  exact h2 X (h1.more (Nat.le_succ k))
theorem opT_ok : ∀ c, opT c = true → isBi c = true ∧ ∀ p q : Int32, false = true → (p = 0 ∨ p = 1) ∧ (q = 0 ∨ q = 1) → bop c p q = 0 ∨ bop c p q = 1 := fun c h => by
  unfold opT at h; simp only [Bool.or_eq_true, beq_iff_eq] at h
  rcases h with rfl | rfl <;> exact ⟨by decide, fun _ _ q => by cases q⟩
theorem opS_ok : ∀ c, opS c = true → isBi c = true ∧ ∀ p q : Int32, false = true → (p = 0 ∨ p = 1) ∧ (q = 0 ∨ q = 1) → bop c p q = 0 ∨ bop c p q = 1 := fun c h => by
  unfold opS at h; simp only [Bool.or_eq_true, beq_iff_eq] at h
  rcases h with rfl | rfl <;> exact ⟨by decide, fun _ _ q => by cases q⟩
theorem opA_ok : ∀ c, opA c = true → isBi c = true ∧ ∀ p q : Int32, true = true → (p = 0 ∨ p = 1) ∧ (q = 0 ∨ q = 1) → bop c p q = 0 ∨ bop c p q = 1 := fun c h => by
  unfold opA at h; simp only [beq_iff_eq] at h
  subst h; exact ⟨by decide, fun p q _ h => bop_both (Or.inl rfl) p q h⟩
theorem opO_ok : ∀ c, opO c = true → isBi c = true ∧ ∀ p q : Int32, true = true → (p = 0 ∨ p = 1) ∧ (q = 0 ∨ q = 1) → bop c p q = 0 ∨ bop c p q = 1 := fun c h => by
  unfold opO at h; simp only [beq_iff_eq] at h
  subst h; exact ⟨by decide, fun p q _ h => bop_both (Or.inr rfl) p q h⟩
theorem Pg.stop {K : Nat → Nat} {l : Nat} {b : Bool} {k : Nat} (s : PSt) (hs : s.1 ≤ l) (r : Bool × PSt) (e : r = (false, s)) : ∃ X V, r.2.2 = (s.2.1 ++ X, s.2.2 ++ V) ∧ s.1 ≤ r.2.1 ∧ r.2.1 ≤ l ∧ AbX X V ∧ VS K s.1 r.2.1 V ∧ (r.1 = true → (X.length : Int) + s.1 + 0 ≤ r.2.1 ∧ Gd X b k) ∧ (r.1 = false → (X.length : Int) + s.1 + 0 ≤ r.2.1) := by
  subst e
  exact ⟨[], [], by simp, Nat.le_refl _, hs, (fun x hx => by cases hx), VS.nil, fun q => by simp at q, fun _ => by simp⟩
theorem Pg.v {K nu : Nat → Nat} {l : Nat} (hl : K l ≤ 1) (lo : Option (PF × PF)) (k : Nat) (hk : 1 ≤ k) (hlo : ∀ q, lo = some q → Pg K l q.1 false k ∧ Pg K l q.2 false k ∧ Pg K l q.2 false (k - 1)) : Pg K l (pV K nu lo) false k := by
  intro s hs
  unfold pV
  by_cases h1 : K s.1 = 3
  · simp only [if_pos h1]
    refine ((Ps.tk hl (by decide)).seq (Ps.pt (c := 3) (x := nu s.1) (by decide))).mono (by omega) (by omega) ?_ s hs
    rintro Z ⟨X, Y, rfl, rfl, rfl⟩
    exact (Gd.atom (by decide)).more hk
  · simp only [if_neg h1]
    by_cases h2 : 11 ≤ K s.1 ∧ K s.1 ≤ 14
    · simp only [if_pos h2]
      refine ((Ps.tk hl (by omega)).seq (Ps.pt (c := K s.1) (x := 0) (by omega))).mono (by omega) (by omega) ?_ s hs
      rintro Z ⟨X, Y, rfl, rfl, rfl⟩
      refine (Gd.atom ?_).more hk
      rcases (show K s.1 = 11 ∨ K s.1 = 12 ∨ K s.1 = 13 ∨ K s.1 = 14 by omega) with q | q | q | q <;> rw [q] <;> decide
    · simp only [if_neg h2]
      by_cases h3 : K s.1 = 15 ∨ K s.1 = 16
      · simp only [if_pos h3]
        refine ((Ps.tk hl (by omega)).seq ((Ps.tk hl (c := 17) (by decide)).seq (Ps.ab hl (K s.1)))).mono (by omega) (by omega) ?_ s hs
        rintro Z ⟨X, Y, rfl, rfl, X1, Y1, rfl, rfl, x, rfl⟩
        refine (Gd.atom ?_).more hk
        rcases h3 with q | q <;> rw [q] <;> decide
      · simp only [if_neg h3]
        cases lo with
        | none =>
          by_cases h4 : K s.1 = 22 ∨ K s.1 = 23
          · simp only [if_pos h4]
            refine ((Ps.tk hl (by omega)).seq Ps.no).mono (by omega) (by omega) ?_ s hs
            rintro Z ⟨X, Y, rfl, rfl, q⟩
            exact q.elim
          · exact Pg.stop s hs _ (if_neg h4)
        | some lo =>
          obtain ⟨g1, g2, g3⟩ := hlo lo rfl
          by_cases h4 : K s.1 = 31
          · simp only [if_pos h4]
            refine ((Ps.tk hl (by decide)).seq (g1.seq (Ps.pt (c := 4) (x := 0) (by decide)))).mono (by omega) (by omega) ?_ s hs
            rintro Z ⟨X, Y, rfl, rfl, X1, Y1, rfl, q, rfl⟩
            exact q.neg
          · simp only [if_neg h4]
            by_cases h5 : K s.1 = 24
            · simp only [if_pos h5]
              refine ((Ps.tk hl (by decide)).seq (g2.seq (Ps.tk hl (c := 25) (by decide)))).mono (by omega) (by omega) ?_ s hs
              rintro Z ⟨X, Y, rfl, rfl, X1, Y1, rfl, q, rfl⟩
              rw [List.append_nil]
              exact q
            · simp only [if_neg h5]
              by_cases h6 : K s.1 = 22 ∨ K s.1 = 23
              · simp only [if_pos h6]
                refine ((Ps.tk hl (by omega)).seq ((Ps.tk hl (c := 24) (by decide)).seq (g2.seq ((Ps.tk hl (c := 29) (by decide)).seq (g3.seq ((Ps.tk hl (c := 25) (by decide)).seq (Ps.pt (c := K s.1) (x := 0) (by omega)))))))).mono (by omega) (by omega) ?_ s hs
                rintro Z ⟨X, Y, rfl, rfl, X1, Y1, rfl, rfl, X2, Y2, rfl, q2, X3, Y3, rfl, rfl, X4, Y4, rfl, q4, X5, Y5, rfl, rfl, rfl⟩
                have hb : isBi (K s.1) = true := by rcases h6 with q | q <;> rw [q] <;> decide
                have := Gd.bin (x := 0) (k := k - 1) hb (by rw [Nat.sub_add_cancel hk]; exact q2) q4 (d := false) (fun q => by cases q)
                rw [Nat.sub_add_cancel hk] at this
                simpa only [List.append_assoc, List.nil_append] using this
              · exact Pg.stop s hs _ (if_neg h6)
theorem lvV_ok {K nu : Nat → Nat} {l : Nat} (hl : K l ≤ 1) : ∀ D, Pg K l (lvV K nu D).1 false (1 + 3 * D) ∧ Pg K l (lvV K nu D).2 false (3 + 3 * D) := by
  intro D
  induction D with
  | zero =>
    have h := Pg.v (nu := nu) hl none 1 (Nat.le_refl _) (fun q e => by cases e)
    exact ⟨h, Pg.ch hl opS_ok (Pg.ch hl opT_ok h)⟩
  | succ D ih =>
    have h := Pg.v (nu := nu) hl (some (lvV K nu D)) (1 + 3 * (D + 1)) (by omega) (fun q e => by
      cases e
      exact ⟨ih.1.mono (Int.le_refl _) (Int.le_refl _) (fun X q => q.more (by omega)), ih.2.mono (Int.le_refl _) (Int.le_refl _) (fun X q => q.more (by omega)), ih.2.mono (Int.le_refl _) (Int.le_refl _) (fun X q => q.more (by omega))⟩)
    refine ⟨h, (Pg.ch hl opS_ok (Pg.ch hl opT_ok h)).mono (Int.le_refl _) (Int.le_refl _) (fun X q => q.more (by omega))⟩
theorem Pg.cm {K : Nat → Nat} {l k : Nat} (hl : K l ≤ 1) {u : PF} (hu : Pg K l u false k) : Pg K l (pCm K u) true (k + 1) := by
  have hb : Ps K l (fun s => if 34 ≤ K s.1 ∧ K s.1 ≤ 38 then pSq (pTk K (K s.1)) (pSq u (pPt (K s.1) 0)) s else (false, s)) 0 0 (fun Z => ∀ X, Gd X false (k + 1) → Gd (X ++ Z) true (k + 1)) := by
    intro s hs
    by_cases h : 34 ≤ K s.1 ∧ K s.1 ≤ 38
    · simp only [if_pos h]
      refine ((Ps.tk hl (by omega)).seq (hu.seq (Ps.pt (c := K s.1) (x := 0) (by omega)))).mono (by omega) (by omega) ?_ s hs
      rintro Z ⟨X, Y, rfl, rfl, X1, Y1, rfl, q, rfl⟩ W hW
      have hbi : isBi (K s.1) = true := by rcases (show K s.1 = 34 ∨ K s.1 = 35 ∨ K s.1 = 36 ∨ K s.1 = 37 ∨ K s.1 = 38 by omega) with q | q | q | q | q <;> rw [q] <;> decide
      have := Gd.bin (x := 0) hbi hW q (d := true) (fun _ p r _ => bop_test h p r)
      simpa only [List.append_assoc, List.nil_append] using this
    · simp only [if_neg h]
      exact ⟨[], [], by simp, Nat.le_refl _, hs, (fun x hx => by cases hx), VS.nil, fun q => by simp at q, fun _ => by simp⟩
  refine (hu.seq hb).mono (by omega) (by omega) ?_
  rintro Z ⟨X, Y, rfl, h1, h2⟩
  exact h2 X (h1.more (Nat.le_succ k))
theorem Pg.s {K : Nat → Nat} {l k : Nat} (hl : K l ≤ 1) (lo : Option (PF × PF)) {u : PF} (hu : Pg K l u false k) (hlo : ∀ q, lo = some q → Pg K l q.1 true (k + 1) ∧ Pg K l q.2 true (k + 1)) : Pg K l (pS K lo u) true (k + 1) := by
  intro s hs
  unfold pS
  by_cases h1 : K s.1 = 19
  · simp only [if_pos h1]
    cases lo with
    | none => exact Pg.stop s hs _ rfl
    | some lo =>
      refine ((Ps.tk hl (by decide)).seq ((hlo lo rfl).1.seq (Ps.pt (c := 19) (x := 0) (by decide)))).mono (by omega) (by omega) ?_ s hs
      rintro Z ⟨X, Y, rfl, rfl, X1, Y1, rfl, q, rfl⟩
      exact q.not
  · simp only [if_neg h1]
    by_cases h2 : K s.1 = 26
    · simp only [if_pos h2]
      cases lo with
      | none => exact Pg.stop s hs _ rfl
      | some lo =>
        refine ((Ps.tk hl (by decide)).seq ((hlo lo rfl).2.seq (Ps.tk hl (c := 27) (by decide)))).mono (by omega) (by omega) ?_ s hs
        rintro Z ⟨X, Y, rfl, rfl, X1, Y1, rfl, q, rfl⟩
        rw [List.append_nil]
        exact q
    · simp only [if_neg h2]
      by_cases h3 : K s.1 = 18
      · simp only [if_pos h3]
        refine ((Ps.tk hl (c := 18) (by decide)).seq (Ps.ab hl 18)).mono (by omega) (by omega) ?_ s hs
        rintro Z ⟨X, Y, rfl, rfl, x, rfl⟩
        exact Gd.know.more (by omega)
      · simp only [if_neg h3]
        exact Pg.cm hl hu s hs
theorem lvT_ok {K nu : Nat → Nat} {l : Nat} (hl : K l ≤ 1) : ∀ D, Pg K l (lvT K nu D).1 true (4 + 3 * D) ∧ Pg K l (lvT K nu D).2 true (6 + 3 * D) := by
  intro D
  induction D with
  | zero =>
    have h := Pg.s hl none (lvV_ok (nu := nu) hl 0).2 (fun q e => by cases e)
    exact ⟨h, Pg.ch hl opO_ok (Pg.ch hl opA_ok h)⟩
  | succ D ih =>
    have h := Pg.s hl (some (lvT K nu D)) (lvV_ok (nu := nu) hl (D + 1)).2 (fun q e => by
      cases e
      exact ⟨ih.1.mono (Int.le_refl _) (Int.le_refl _) (fun X q => q.more (by omega)), ih.2.mono (Int.le_refl _) (Int.le_refl _) (fun X q => q.more (by omega))⟩)
    exact ⟨h.mono (Int.le_refl _) (Int.le_refl _) (fun X q => q.more (by omega)), (Pg.ch hl opO_ok (Pg.ch hl opA_ok h)).mono (Int.le_refl _) (Int.le_refl _) (fun X q => q.more (by omega))⟩
