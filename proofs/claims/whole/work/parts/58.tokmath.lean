/-! the math of tokens: a tape of n bytes f is cut -/
/-- the first place from p on, not behind n, where P fails -/
def scn (P : Int32 → Bool) (n : Nat) (f : Nat → Int32) : Nat → Nat → Nat
  | 0, p => p
  | k + 1, p => if p < n ∧ P (f p) = true then scn P n f k (p + 1) else p
def sce (P : Int32 → Bool) (n : Nat) (f : Nat → Int32) (p : Nat) : Nat := scn P n f (n - p) p
theorem scn_spec (P : Int32 → Bool) (n : Nat) (f : Nat → Int32) : ∀ k p, n ≤ p + k → p ≤ scn P n f k p ∧ (∀ i, p ≤ i → i < scn P n f k p → i < n ∧ P (f i) = true) ∧ (scn P n f k p < n → P (f (scn P n f k p)) = false) := by
  intro k
  induction k with
  | zero => intro p h; exact ⟨Nat.le_refl _, fun i h1 h2 => by unfold scn at h2; omega, fun q => by unfold scn at q; omega⟩
  | succ k ih =>
    intro p h
    by_cases e : p < n ∧ P (f p) = true
    · have ee : scn P n f (k + 1) p = scn P n f k (p + 1) := if_pos e
      obtain ⟨h1, h2, h3⟩ := ih (p + 1) (by omega)
      rw [ee]
      refine ⟨by omega, fun i g1 g2 => ?_, h3⟩
      by_cases q : i = p
      · subst q; exact e
      · exact h2 i (by omega) g2
    · have ee : scn P n f (k + 1) p = p := if_neg e
      rw [ee]
      exact ⟨Nat.le_refl _, fun i g1 g2 => by omega, fun q => by
        cases hp : P (f p) with
        | false => rfl
        | true => exact absurd ⟨q, hp⟩ e⟩
theorem sce_spec (P : Int32 → Bool) (n : Nat) (f : Nat → Int32) (p : Nat) : p ≤ sce P n f p ∧ (∀ i, p ≤ i → i < sce P n f p → i < n ∧ P (f i) = true) ∧ (sce P n f p < n → P (f (sce P n f p)) = false) := scn_spec P n f (n - p) p (by omega)
theorem sce_uniq {P : Int32 → Bool} {n : Nat} {f : Nat → Int32} {p e : Nat} (h1 : p ≤ e) (h2 : ∀ i, p ≤ i → i < e → i < n ∧ P (f i) = true) (h3 : e < n → P (f e) = false) : sce P n f p = e := by
  obtain ⟨g1, g2, g3⟩ := sce_spec P n f p
  rcases Nat.lt_trichotomy (sce P n f p) e with q | q | q
  · obtain ⟨a1, a2⟩ := h2 _ g1 q
    rw [g3 a1] at a2; cases a2
  · exact q
  · obtain ⟨a1, a2⟩ := g2 _ h1 q
    rw [h3 a1] at a2; cases a2
theorem sce_le {P : Int32 → Bool} {n : Nat} {f : Nat → Int32} {p : Nat} (h : p ≤ n) : sce P n f p ≤ n := by
  obtain ⟨g1, g2, g3⟩ := sce_spec P n f p
  rcases Nat.lt_or_ge n (sce P n f p) with q | q
  · have := (g2 n h q).1; omega
  · exact q
theorem sce_step {P : Int32 → Bool} {n : Nat} {f : Nat → Int32} {p : Nat} (h : p < n) (hP : P (f p) = true) : sce P n f p = sce P n f (p + 1) := by
  obtain ⟨g1, g2, g3⟩ := sce_spec P n f (p + 1)
  refine sce_uniq (by omega) (fun i h1 h2 => ?_) g3
  by_cases e : i = p
  · subst e; exact ⟨h, hP⟩
  · exact g2 i (by omega) h2
theorem sce_stop {P : Int32 → Bool} {n : Nat} {f : Nat → Int32} {p : Nat} (h : p < n → P (f p) = false) : sce P n f p = p := sce_uniq (Nat.le_refl _) (fun i h1 h2 => by omega) h
def bLD (x : Int32) : Bool := isLe x || isDi x
/-- the token of a sign and the sign behind it, 0 where it is none -/
def sy (b nx : Int32) : Nat := if b = nI 40 then 24 else if b = nI 41 then 25 else if b = nI 91 then 26 else if b = nI 93 then 27 else if b = nI 59 then 28 else if b = nI 44 then 29 else if b = nI 43 then 30 else if b = nI 45 then 31 else if b = nI 42 then 32 else if b = nI 47 then 33 else if b = nI 60 then (if nx = nI 61 then 37 else 34) else if b = nI 62 then (if nx = nI 61 then 38 else 35) else if b = nI 61 then 36 else 0
def syl (c : Nat) : Nat := if c = 37 ∨ c = 38 then 2 else if c = 0 then 0 else 1
/-- the text of token c stands from s to e -/
def wm (f : Nat → Int32) (s e c : Nat) : Bool := decide ((tkT.getD c []).length = e - s ∧ ∀ i, i < (tkT.getD c []).length → f (s + i) = nI ((tkT.getD c []).getD i 0))
def wcd (f : Nat → Int32) (s e : Nat) : Nat := (fstA (wm f s e) 19 5).getD 2
def tkK (n : Nat) (f : Nat → Int32) (s : Nat) : Nat := if n ≤ s then 1 else if isLe (f s) = true then (if 10 < sce bLD n f s - s then 0 else wcd f s (sce bLD n f s)) else if isDi (f s) = true then (if 6 < sce isDi n f s - s then 0 else 3) else sy (f s) (byt n f (s + 1))
def tkE (n : Nat) (f : Nat → Int32) (s : Nat) : Nat := if n ≤ s then s else if isLe (f s) = true then sce bLD n f s else if isDi (f s) = true then sce isDi n f s else s + syl (sy (f s) (byt n f (s + 1)))
/-- where token i starts -/
def tks (n : Nat) (f : Nat → Int32) : Nat → Nat
  | 0 => sce isBl n f 0
  | i + 1 => sce isBl n f (tkE n f (tks n f i))
def tke (n : Nat) (f : Nat → Int32) (i : Nat) : Nat := tkE n f (tks n f i)
def tkk (n : Nat) (f : Nat → Int32) (i : Nat) : Nat := if n ≤ tks n f i then 1 else if i < 400 then tkK n f (tks n f i) else 0
/-- the last token -/
def tkl (n : Nat) (f : Nat → Int32) : Nat := lst (fun i => decide (tkk n f i ≤ 1)) 401
theorem tkl_spec (n : Nat) (f : Nat → Int32) : tkl n f ≤ 400 ∧ tkk n f (tkl n f) ≤ 1 ∧ ∀ i, i < tkl n f → 2 ≤ tkk n f i := by
  have h : tkk n f 400 ≤ 1 := by unfold tkk; split <;> simp
  obtain ⟨h1, h2, h3, h4⟩ := lst_spec (P := fun i => decide (tkk n f i ≤ 1)) (n := 401) (x := 400) (by decide) (decide_eq_true h)
  exact ⟨h3, of_decide_eq_true h2, fun i hi => by have := of_decide_eq_false (h4 i hi); omega⟩
theorem i32_nat {x : Int32} {lo hi : Nat} (hh : hi < 2 ^ 31) (h1 : nI lo ≤ x) (h2 : x ≤ nI hi) (hl : lo ≤ hi) : lo ≤ x.toNatClampNeg ∧ x.toNatClampNeg ≤ hi ∧ x = nI x.toNatClampNeg := by
  have e1 : (nI lo).toInt = (lo : Int) := nI_toInt (by omega)
  have e2 : (nI hi).toInt = (hi : Int) := nI_toInt hh
  have h3 : x.toNatClampNeg = x.toInt.toNat := rfl
  simp only [Int32.le_iff_toInt_le] at h1 h2
  refine ⟨by omega, by omega, Int32.toInt_inj.mp ?_⟩
  rw [nI_toInt (by omega)]
  omega
theorem isLe_nat {x : Int32} (h : isLe x = true) : 97 ≤ x.toNatClampNeg ∧ x.toNatClampNeg ≤ 122 ∧ x = nI x.toNatClampNeg := i32_nat (by decide) (of_decide_eq_true h).1 (of_decide_eq_true h).2 (by decide)
theorem isDi_nat {x : Int32} (h : isDi x = true) : 48 ≤ x.toNatClampNeg ∧ x.toNatClampNeg ≤ 57 ∧ x = nI x.toNatClampNeg := i32_nat (by decide) (of_decide_eq_true h).1 (of_decide_eq_true h).2 (by decide)
/-- the digit of base 37 of a sign -/
def sgD (x : Int32) : Nat := if isLe x = true then x.toNatClampNeg - 96 else x.toNatClampNeg - 21
theorem sgD_ok {x : Int32} (h : bLD x = true) : sgn x = nI (sgD x) ∧ 1 ≤ sgD x ∧ sgD x ≤ 36 := by
  unfold sgn sgD
  by_cases e : isLe x = true
  · rw [if_pos e, if_pos e]
    obtain ⟨h1, h2, h3⟩ := isLe_nat e
    generalize x.toNatClampNeg = b at h1 h2 h3
    subst h3
    refine ⟨?_, by omega, by omega⟩
    rw [pk_sub h1, nI_add]; congr 1; omega
  · rw [if_neg e, if_neg e]
    unfold bLD at h
    rw [Bool.or_eq_true] at h
    obtain ⟨h1, h2, h3⟩ := isDi_nat (h.resolve_left e)
    generalize x.toNatClampNeg = b at h1 h2 h3
    subst h3
    refine ⟨?_, by omega, by omega⟩
    rw [pk_sub h1, nI_add]; congr 1; omega
/-- the digits of the name from s to e -/
def nmD (f : Nat → Int32) (s e : Nat) : List Nat := (List.range (e - s)).map (fun i => sgD (f (s + i)))
theorem nmD_len (f : Nat → Int32) (s e : Nat) : (nmD f s e).length = e - s := by unfold nmD; simp
theorem nmD_at {f : Nat → Int32} {s e i : Nat} (h : i < e - s) : (nmD f s e)[i]'(by rw [nmD_len]; exact h) = sgD (f (s + i)) := by unfold nmD; simp
theorem nmD_app {f : Nat → Int32} {s e : Nat} (h : s ≤ e) : nmD f s (e + 1) = nmD f s e ++ [sgD (f e)] := by
  unfold nmD
  rw [show e + 1 - s = (e - s) + 1 by omega, List.range_succ, List.map_append]
  simp only [List.map_cons, List.map_nil]
  rw [show s + (e - s) = e by omega]
theorem nmD_dg {f : Nat → Int32} {s e : Nat} (h : ∀ i, s ≤ i → i < e → bLD (f i) = true) : dg (nmD f s e) := by
  intro d hd
  unfold nmD at hd
  obtain ⟨i, hi, rfl⟩ := List.mem_map.mp hd
  have := List.mem_range.mp hi
  exact (sgD_ok (h (s + i) (by omega) (by omega))).2
/-- the number from s to e -/
def nuV (f : Nat → Int32) (s e : Nat) : Nat := (List.range (e - s)).foldl (fun a i => 10 * a + ((f (s + i)).toNatClampNeg - 48)) 0
theorem nuV_app {f : Nat → Int32} {s e : Nat} (h : s ≤ e) : nuV f s (e + 1) = 10 * nuV f s e + ((f e).toNatClampNeg - 48) := by
  unfold nuV
  rw [show e + 1 - s = (e - s) + 1 by omega, List.range_succ, List.foldl_append]
  simp only [List.foldl_cons, List.foldl_nil]
  rw [show s + (e - s) = e by omega]
theorem nuV_self (f : Nat → Int32) (s : Nat) : nuV f s s = 0 := by unfold nuV; rw [Nat.sub_self]; rfl
theorem nuV_lt {f : Nat → Int32} {s : Nat} : ∀ {k : Nat}, (∀ i, s ≤ i → i < s + k → isDi (f i) = true) → nuV f s (s + k) < 10 ^ k := by
  intro k
  induction k with
  | zero => intro _; rw [Nat.add_zero, nuV_self]; decide
  | succ k ih =>
    intro h
    have h1 := ih (fun i a b => h i a (by omega))
    have h2 := isDi_nat (h (s + k) (by omega) (by omega))
    rw [← Nat.add_assoc, nuV_app (by omega), Nat.pow_succ]
    omega
/-- what is known of token i ahead of the last one -/
theorem sy_cs (b nx : Int32) : (b = nI 40 ∧ sy b nx = 24) ∨ (b = nI 41 ∧ sy b nx = 25) ∨ (b = nI 91 ∧ sy b nx = 26) ∨ (b = nI 93 ∧ sy b nx = 27) ∨ (b = nI 59 ∧ sy b nx = 28) ∨ (b = nI 44 ∧ sy b nx = 29) ∨ (b = nI 43 ∧ sy b nx = 30) ∨ (b = nI 45 ∧ sy b nx = 31) ∨ (b = nI 42 ∧ sy b nx = 32) ∨ (b = nI 47 ∧ sy b nx = 33) ∨ (b = nI 60 ∧ nx = nI 61 ∧ sy b nx = 37) ∨ (b = nI 60 ∧ ¬ nx = nI 61 ∧ sy b nx = 34) ∨ (b = nI 62 ∧ nx = nI 61 ∧ sy b nx = 38) ∨ (b = nI 62 ∧ ¬ nx = nI 61 ∧ sy b nx = 35) ∨ (b = nI 61 ∧ sy b nx = 36) ∨ (¬ b = nI 40 ∧ ¬ b = nI 41 ∧ ¬ b = nI 91 ∧ ¬ b = nI 93 ∧ ¬ b = nI 59 ∧ ¬ b = nI 44 ∧ ¬ b = nI 43 ∧ ¬ b = nI 45 ∧ ¬ b = nI 42 ∧ ¬ b = nI 47 ∧ ¬ b = nI 60 ∧ ¬ b = nI 62 ∧ ¬ b = nI 61 ∧ sy b nx = 0) := by
  by_cases h40 : b = nI 40
  · exact Or.inl (⟨h40, by unfold sy; rw [if_pos h40]⟩)
  by_cases h41 : b = nI 41
  · exact Or.inr (Or.inl (⟨h41, by unfold sy; rw [if_neg h40, if_pos h41]⟩))
  by_cases h91 : b = nI 91
  · exact Or.inr (Or.inr (Or.inl (⟨h91, by unfold sy; rw [if_neg h40, if_neg h41, if_pos h91]⟩)))
  by_cases h93 : b = nI 93
  · exact Or.inr (Or.inr (Or.inr (Or.inl (⟨h93, by unfold sy; rw [if_neg h40, if_neg h41, if_neg h91, if_pos h93]⟩))))
  by_cases h59 : b = nI 59
  · exact Or.inr (Or.inr (Or.inr (Or.inr (Or.inl (⟨h59, by unfold sy; rw [if_neg h40, if_neg h41, if_neg h91, if_neg h93, if_pos h59]⟩)))))
  by_cases h44 : b = nI 44
  · exact Or.inr (Or.inr (Or.inr (Or.inr (Or.inr (Or.inl (⟨h44, by unfold sy; rw [if_neg h40, if_neg h41, if_neg h91, if_neg h93, if_neg h59, if_pos h44]⟩))))))
  by_cases h43 : b = nI 43
  · exact Or.inr (Or.inr (Or.inr (Or.inr (Or.inr (Or.inr (Or.inl (⟨h43, by unfold sy; rw [if_neg h40, if_neg h41, if_neg h91, if_neg h93, if_neg h59, if_neg h44, if_pos h43]⟩)))))))
  by_cases h45 : b = nI 45
  · exact Or.inr (Or.inr (Or.inr (Or.inr (Or.inr (Or.inr (Or.inr (Or.inl (⟨h45, by unfold sy; rw [if_neg h40, if_neg h41, if_neg h91, if_neg h93, if_neg h59, if_neg h44, if_neg h43, if_pos h45]⟩))))))))
  by_cases h42 : b = nI 42
  · exact Or.inr (Or.inr (Or.inr (Or.inr (Or.inr (Or.inr (Or.inr (Or.inr (Or.inl (⟨h42, by unfold sy; rw [if_neg h40, if_neg h41, if_neg h91, if_neg h93, if_neg h59, if_neg h44, if_neg h43, if_neg h45, if_pos h42]⟩)))))))))
  by_cases h47 : b = nI 47
  · exact Or.inr (Or.inr (Or.inr (Or.inr (Or.inr (Or.inr (Or.inr (Or.inr (Or.inr (Or.inl (⟨h47, by unfold sy; rw [if_neg h40, if_neg h41, if_neg h91, if_neg h93, if_neg h59, if_neg h44, if_neg h43, if_neg h45, if_neg h42, if_pos h47]⟩))))))))))
  by_cases h60 : b = nI 60
  · by_cases g : nx = nI 61
    · exact Or.inr (Or.inr (Or.inr (Or.inr (Or.inr (Or.inr (Or.inr (Or.inr (Or.inr (Or.inr (Or.inl (⟨h60, g, by unfold sy; rw [if_neg h40, if_neg h41, if_neg h91, if_neg h93, if_neg h59, if_neg h44, if_neg h43, if_neg h45, if_neg h42, if_neg h47, if_pos h60, if_pos g]⟩)))))))))))
    · exact Or.inr (Or.inr (Or.inr (Or.inr (Or.inr (Or.inr (Or.inr (Or.inr (Or.inr (Or.inr (Or.inr (Or.inl (⟨h60, g, by unfold sy; rw [if_neg h40, if_neg h41, if_neg h91, if_neg h93, if_neg h59, if_neg h44, if_neg h43, if_neg h45, if_neg h42, if_neg h47, if_pos h60, if_neg g]⟩))))))))))))
  by_cases h62 : b = nI 62
  · by_cases g : nx = nI 61
    · exact Or.inr (Or.inr (Or.inr (Or.inr (Or.inr (Or.inr (Or.inr (Or.inr (Or.inr (Or.inr (Or.inr (Or.inr (Or.inl (⟨h62, g, by unfold sy; rw [if_neg h40, if_neg h41, if_neg h91, if_neg h93, if_neg h59, if_neg h44, if_neg h43, if_neg h45, if_neg h42, if_neg h47, if_neg h60, if_pos h62, if_pos g]⟩)))))))))))))
    · exact Or.inr (Or.inr (Or.inr (Or.inr (Or.inr (Or.inr (Or.inr (Or.inr (Or.inr (Or.inr (Or.inr (Or.inr (Or.inr (Or.inl (⟨h62, g, by unfold sy; rw [if_neg h40, if_neg h41, if_neg h91, if_neg h93, if_neg h59, if_neg h44, if_neg h43, if_neg h45, if_neg h42, if_neg h47, if_neg h60, if_pos h62, if_neg g]⟩))))))))))))))
  by_cases h61 : b = nI 61
  · exact Or.inr (Or.inr (Or.inr (Or.inr (Or.inr (Or.inr (Or.inr (Or.inr (Or.inr (Or.inr (Or.inr (Or.inr (Or.inr (Or.inr (Or.inl (⟨h61, by unfold sy; rw [if_neg h40, if_neg h41, if_neg h91, if_neg h93, if_neg h59, if_neg h44, if_neg h43, if_neg h45, if_neg h42, if_neg h47, if_neg h60, if_neg h62, if_pos h61]⟩)))))))))))))))
  exact Or.inr (Or.inr (Or.inr (Or.inr (Or.inr (Or.inr (Or.inr (Or.inr (Or.inr (Or.inr (Or.inr (Or.inr (Or.inr (Or.inr (Or.inr (⟨h40, h41, h91, h93, h59, h44, h43, h45, h42, h47, h60, h62, h61, by unfold sy; rw [if_neg h40, if_neg h41, if_neg h91, if_neg h93, if_neg h59, if_neg h44, if_neg h43, if_neg h45, if_neg h42, if_neg h47, if_neg h60, if_neg h62, if_neg h61]⟩)))))))))))))))
theorem sy_lt (b nx : Int32) : sy b nx < 39 ∧ (sy b nx = 0 ∨ 24 ≤ sy b nx) := by
  rcases sy_cs b nx with ⟨-, q⟩ | ⟨-, q⟩ | ⟨-, q⟩ | ⟨-, q⟩ | ⟨-, q⟩ | ⟨-, q⟩ | ⟨-, q⟩ | ⟨-, q⟩ | ⟨-, q⟩ | ⟨-, q⟩ | ⟨-, -, q⟩ | ⟨-, -, q⟩ | ⟨-, -, q⟩ | ⟨-, -, q⟩ | ⟨-, q⟩ | ⟨-, -, -, -, -, -, -, -, -, -, -, -, -, q⟩ <;> (rw [q]; decide)
theorem sy_two {b nx : Int32} (h : sy b nx = 37 ∨ sy b nx = 38) : nx = nI 61 := by
  rcases sy_cs b nx with ⟨-, q⟩ | ⟨-, q⟩ | ⟨-, q⟩ | ⟨-, q⟩ | ⟨-, q⟩ | ⟨-, q⟩ | ⟨-, q⟩ | ⟨-, q⟩ | ⟨-, q⟩ | ⟨-, q⟩ | ⟨-, g, q⟩ | ⟨-, -, q⟩ | ⟨-, g, q⟩ | ⟨-, -, q⟩ | ⟨-, q⟩ | ⟨-, -, -, -, -, -, -, -, -, -, -, -, -, q⟩ <;> first | exact g | (rw [q] at h; exact absurd h (by decide))
theorem wcd_lt (f : Nat → Int32) (s e : Nat) : wcd f s e = 2 ∨ (5 ≤ wcd f s e ∧ wcd f s e ≤ 23) := by
  unfold wcd
  cases h : fstA (wm f s e) 19 5 with
  | none => exact Or.inl rfl
  | some c =>
    obtain ⟨h1, h2, -⟩ := fstA_some.mp h
    exact Or.inr ⟨h1, by show c ≤ 23; omega⟩
theorem tkk_lt (n : Nat) (f : Nat → Int32) (i : Nat) : tkk n f i < 39 := by
  unfold tkk tkK
  have h1 := wcd_lt f (tks n f i) (sce bLD n f (tks n f i))
  have h2 := (sy_lt (f (tks n f i)) (byt n f (tks n f i + 1))).1
  repeat' split
  all_goals omega
