/-! the math of names: digits of base 37; rows for longs over Nat -/
def nm (D : List Nat) : Nat := D.foldl (fun a d => 37 * a + d) 0
abbrev dg (D : List Nat) : Prop := ∀ d, d ∈ D → 1 ≤ d ∧ d ≤ 36
def wl (D : List Nat) : List Int32 := D.map nI
theorem wl_len (D : List Nat) : (wl D).length = D.length := List.length_map ..
theorem wl_lt {D : List Nat} {i : Nat} (h : i < D.length) : lt (wl D) i = nI D[i] := by
  rw [lt_lt (by rw [wl_len]; exact h)]; exact List.getElem_map ..
theorem nm_from : ∀ (D : List Nat) (a : Nat), D.foldl (fun a d => 37 * a + d) a = a * 37 ^ D.length + nm D := by
  intro D
  induction D with
  | nil => intro a; simp [nm]
  | cons d D ih =>
    intro a
    have h2 : nm (d :: D) = d * 37 ^ D.length + nm D := by
      show D.foldl (fun a d => 37 * a + d) (37 * 0 + d) = _
      rw [ih]; simp
    show D.foldl (fun a d => 37 * a + d) (37 * a + d) = _
    rw [ih, h2, List.length_cons, Nat.pow_succ, Nat.add_mul, ← Nat.add_assoc, Nat.mul_comm 37 a, Nat.mul_assoc, Nat.mul_comm 37]
theorem nm_cons (d : Nat) (D : List Nat) : nm (d :: D) = d * 37 ^ D.length + nm D := by
  show D.foldl (fun a d => 37 * a + d) (37 * 0 + d) = _
  rw [nm_from]; simp
theorem nm_app (D : List Nat) (d : Nat) : nm (D ++ [d]) = 37 * nm D + d := by simp [nm]
theorem nm_lt : ∀ {D : List Nat}, dg D → nm D < 37 ^ D.length := by
  intro D
  induction D with
  | nil => intro _; decide
  | cons d D ih =>
    intro h
    have h1 := ih (fun x hx => h x (List.mem_cons_of_mem _ hx))
    have h2 := (h d List.mem_cons_self).2
    have h3 := Nat.mul_le_mul_right (37 ^ D.length) h2
    rw [nm_cons, List.length_cons, Nat.pow_succ]
    omega
theorem nm_ge {d : Nat} {D : List Nat} (h : 1 ≤ d) : 37 ^ D.length ≤ nm (d :: D) := by
  have h3 := Nat.mul_le_mul_right (37 ^ D.length) h
  rw [nm_cons]; omega
theorem p37_pos (n : Nat) : 0 < 37 ^ n := Nat.pow_pos (by decide)
theorem p37_mono {a b : Nat} (h : a ≤ b) : 37 ^ a ≤ 37 ^ b := Nat.pow_le_pow_right (by decide) h
theorem p37_10 {n : Nat} (h : n ≤ 11) : 37 ^ n < 2 ^ 62 := Nat.lt_of_le_of_lt (p37_mono h) (by decide)
theorem nm_len {D E : List Nat} (hD : dg D) (hE : dg E) (h : nm D = nm E) : ¬ D.length < E.length := by
  intro hl
  cases E with
  | nil => exact absurd hl (Nat.not_lt_zero _)
  | cons e E =>
    have h1 := nm_lt hD
    have h2 := nm_ge (d := e) (D := E) (hE e List.mem_cons_self).1
    have h3 := p37_mono (a := D.length) (b := E.length) (by rw [List.length_cons] at hl; omega)
    omega
theorem nm_inj : ∀ {D E : List Nat}, dg D → dg E → nm D = nm E → D = E := by
  intro D
  induction D with
  | nil =>
    intro E hD hE h
    have := nm_len hD hE h
    cases E with
    | nil => rfl
    | cons e E => exact absurd (Nat.succ_pos _) this
  | cons d D ih =>
    intro E hD hE h
    have h1 := nm_len hD hE h
    have h2 := nm_len hE hD h.symm
    cases E with
    | nil => exact absurd (Nat.succ_pos _) h2
    | cons e E =>
      have hl : D.length = E.length := by rw [List.length_cons, List.length_cons] at h1 h2; omega
      have hD' : dg D := fun x hx => hD x (List.mem_cons_of_mem _ hx)
      have hE' : dg E := fun x hx => hE x (List.mem_cons_of_mem _ hx)
      rw [nm_cons, nm_cons, hl] at h
      have a1 := nm_lt hD'
      have a2 := nm_lt hE'
      rw [hl] at a1
      have hp := p37_pos E.length
      have e1 : (d * 37 ^ E.length + nm D) / 37 ^ E.length = d := by rw [Nat.mul_comm, Nat.mul_add_div hp, Nat.div_eq_of_lt a1]; rfl
      have e2 : (e * 37 ^ E.length + nm E) / 37 ^ E.length = e := by rw [Nat.mul_comm, Nat.mul_add_div hp, Nat.div_eq_of_lt a2]; rfl
      have e3 : d = e := by rw [← e1, h, e2]
      subst e3
      rw [ih hD' hE' (by omega)]
theorem nm_drop {D : List Nat} {j : Nat} (h : j < D.length) : nm (D.drop j) = D[j] * 37 ^ (D.length - 1 - j) + nm (D.drop (j + 1)) := by
  rw [List.drop_eq_getElem_cons h, nm_cons, List.length_drop, show D.length - (j + 1) = D.length - 1 - j by omega]
theorem dg_drop {D : List Nat} (j : Nat) (h : dg D) : dg (D.drop j) := fun x hx => h x (List.mem_of_mem_drop hx)
theorem nm_div {D : List Nat} {j : Nat} (hd : dg D) (h : j < D.length) : nm (D.drop j) / 37 ^ (D.length - 1 - j) = D[j] ∧ nm (D.drop j) % 37 ^ (D.length - 1 - j) = nm (D.drop (j + 1)) := by
  have a1 := nm_lt (dg_drop (j + 1) hd)
  rw [List.length_drop, show D.length - (j + 1) = D.length - 1 - j by omega] at a1
  have hp := p37_pos (D.length - 1 - j)
  rw [nm_drop h]
  exact ⟨by rw [Nat.mul_comm, Nat.mul_add_div hp, Nat.div_eq_of_lt a1]; rfl, by rw [Nat.mul_comm, Nat.mul_add_mod, Nat.mod_eq_of_lt a1]⟩
theorem nm_small {D : List Nat} (hd : dg D) (h : D.length ≤ 10) : nm D < 2 ^ 62 := Nat.lt_of_lt_of_le (nm_lt hd) (Nat.le_of_lt (p37_10 (by omega)))
section GN4
variable {X : gX} {F : gF} {cc : ByteArray} {nL : Nat} {own : String} {R : Nat × Nat × Nat} {k n pc : Nat} {lv : List (Option Value)} {st : List Value} {h : gH} {z : Nat}
theorem g_lmulN {a b : Nat} (d : decode cc pc = .ok (.lmul, 1)) (kk : G X F cc nL own R k n (pc + 1) lv (.long (lN (a * b)) :: st) h z) : G X F cc nL own R k n pc lv (.long (lN b) :: .long (lN a) :: st) h z := g_lmul d (by rw [lN_mul]; exact kk)
theorem g_laddN {a b : Nat} (d : decode cc pc = .ok (.ladd, 1)) (kk : G X F cc nL own R k n (pc + 1) lv (.long (lN (a + b)) :: st) h z) : G X F cc nL own R k n pc lv (.long (lN b) :: .long (lN a) :: st) h z := g_ladd d (by rw [lN_add]; exact kk)
theorem lN_ne0 {b : Nat} (h0 : 0 < b) (hb : b < 2 ^ 63) : ¬ lN b = 0 := fun e => by
  have := (pk_lEQ hb (show 0 < 2 ^ 63 by decide)).mp e
  omega
theorem g_ldivN {a b : Nat} (d : decode cc pc = .ok (.ldiv, 1)) (ha : a < 2 ^ 63) (h0 : 0 < b) (hb : b < 2 ^ 63) (kk : G X F cc nL own R k n (pc + 1) lv (.long (lN (a / b)) :: st) h z) : G X F cc nL own R k n pc lv (.long (lN b) :: .long (lN a) :: st) h z := g_ldiv d (lN_ne0 h0 hb) (by rw [pk_lDiv ha h0 hb]; exact kk)
theorem g_lremN {a b : Nat} (d : decode cc pc = .ok (.lrem, 1)) (ha : a < 2 ^ 63) (h0 : 0 < b) (hb : b < 2 ^ 63) (kk : G X F cc nL own R k n (pc + 1) lv (.long (lN (a % b)) :: st) h z) : G X F cc nL own R k n pc lv (.long (lN b) :: .long (lN a) :: st) h z := g_lrem d (lN_ne0 h0 hb) (by rw [pk_lRem ha h0 hb]; exact kk)
theorem g_l2iN {a : Nat} (d : decode cc pc = .ok (.l2i, 1)) (kk : G X F cc nL own R k n (pc + 1) lv (.int (nI a) :: st) h z) : G X F cc nL own R k n pc lv (.long (lN a) :: st) h z := g_l2i d (by rw [lN_i]; exact kk)
theorem g_i2lN {a : Nat} (ha : a < 2 ^ 31) (d : decode cc pc = .ok (.i2l, 1)) (kk : G X F cc nL own R k n (pc + 1) lv (.long (lN a) :: st) h z) : G X F cc nL own R k n pc lv (.int (nI a) :: st) h z := g_i2l d (by rw [nI_l ha]; exact kk)
theorem g_37 {own : String} {idx : Nat} (hw : Cond.constantLong own idx 37 ∈ lw_tbl) (d : decode cc pc = .ok (.ldc2_w idx, 3)) (kk : G X F cc nL own R k n (pc + 3) lv (.long (lN 37) :: st) h z) : G X F cc nL own R k n pc lv st h z := g_ldc2 (lN 37) d hw kk
end GN4
theorem w37 : Cond.constantLong RX12 86 37 ∈ lw_tbl := gm6 161 (by decide +kernel)
theorem w26 : Cond.constantLong RX12 332 26 ∈ lw_tbl := gm7 15 (by decide +kernel)
theorem cmpN {a b : Nat} (ha : a < 2 ^ 63) (hb : b < 2 ^ 63) : (0 < lg_cmp (lN a) (lN b) ↔ b < a) ∧ (lg_cmp (lN a) (lN b) ≤ 0 ↔ a ≤ b) ∧ (lg_cmp (lN a) (lN b) = 0 ↔ a = b) := ⟨(lg_cmp_gt _ _).trans (pk_lLT hb ha), (lg_cmp_le _ _).trans (pk_lLE ha hb), (lg_cmp_eq _ _).trans (pk_lEQ ha hb)⟩
