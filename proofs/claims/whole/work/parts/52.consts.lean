/-! constants of the start: what is read of them -/
abbrev gZ (X : gX) (C n d : String) (v : Value) : Prop := va_Z C n d v (gFree X) X.1 X.1.heap
abbrev gO (X : gX) (C : String) (a : Nat) : Prop := va_O C a (gFree X) X.1 X.1.heap
abbrev gOF (X : gX) (o n d : String) (v : Value) (a : Nat) : Prop := va_OF o n d v a (gFree X) X.1 X.1.heap
abbrev gTb (X : gX) (ty : FieldType) (t N : Nat) (f : Nat → Value) : Prop := va_T ty t N f (gFree X) X.1 X.1.heap
theorem gAbs.old {X : gX} {h : gH} {z : Nat} {H : Heap} (hA : gAbs X h z H) {a : Nat} {c : Cell} (hc : X.1.heap[a]? = some c) : H[a]? = some c := by
  rw [hA.2.2.1 a (Array.getElem?_eq_some_iff.mp hc).1]; exact hc
theorem gO.at {X : gX} {h : gH} {z : Nat} {H : Heap} {s : State} {C : String} {a : Nat} (hO : gO X C a) (hA : gAbs X h z H) (hW : X.1.WarmedH s.vm) : ∃ cell : Cell, H[a]? = some cell ∧ cell.vm.isStatics = false ∧ s.vm.findClass C = some cell.cls := by
  obtain ⟨cell, h1, h2, h3, -⟩ := va_O.moved hW.alike hO
  exact ⟨cell, hA.old h1, h2, h3⟩
/-- what a call of a method that a class inherits asks -/
def gWU (own : String) (idx : Nat) (C owner : String) (x y : MethodName) (cc : ByteArray) (nL : Nat) (ret : Option FieldType) (n : Nat) : Prop := (Cond.methodLink own idx x ∈ lw_tbl ∧ Cond.sameMethod x.cls owner x.name x.desc ∈ lw_tbl ∧ Cond.selects C x y ∈ lw_tbl ∧ Cond.instanceMethod y ∈ lw_tbl ∧ Cond.initialized y.cls ∈ lw_tbl ∧ Cond.code y cc nL ret ∈ lw_tbl) ∧ y = ⟨owner, x.name, x.desc⟩ ∧ owner ≠ "java/lang/invoke/MethodHandle" ∧ owner ≠ "java/lang/invoke/VarHandle" ∧ (parseMethodDescriptor x.desc).map (fun d => d.parameters.length) = some n
/-- a method that does not throw, in the plain form -/
def gMp (X : gX) (y : MethodName) (cc : ByteArray) (nL : Nat) (ret : Option FieldType) (R : Nat × Nat × Nat) (av : List Value) (h : gH) (z : Nat) (post : Option Value → gH → Nat → Prop) : Prop :=
  Met X.2.2.2 y [Cond.code y cc nL ret] (gRoom R) (gPc X av h z) (gQc X post) R.2.1 R.2.2 (gFree X)
def gEndp (X : gX) (F : gF) (ret : Option FieldType) (R : Nat × Nat × Nat) (post : Option Value → gH → Nat → Prop) : Prop := match F with
  | (_, _, _, s, _, args, below, meth, c, Q) => Q = MQ below (gQc X post) args s R.2.1 R.2.2 (gFree X) ∧ meth.sig.returnType = ret ∧ meth.locks = false
section GC5
variable {X : gX} {F : gF} {cc : ByteArray} {nL : Nat} {own : String} {R : Nat × Nat × Nat} {k n pc : Nat} {lv : List (Option Value)} {st : List Value} {h : gH} {z : Nat}
theorem g_gets {C nm d : String} {v : Value} {idx : Nat} (hZ : gZ X C nm d v) (w : Cond.fieldLink own idx C nm d ∈ lw_tbl) (dg : decode cc pc = .ok (.getstatic idx, 3)) (kk : G X F cc nL own R k n (pc + 3) lv (v :: st) h z) : G X F cc nL own R k n pc lv st h z := by
  obtain ⟨p, e, Rm, s, m, args, below, meth, c, Q⟩ := F
  intro ok H locs ls hA hq hl
  obtain ⟨cf, kf, fi, f, a, cell, h1, h2, h3, h4, h5, h6, h7, h8⟩ := va_Z.moved ok.2.2.1.alike hZ
  exact W.gets ok.1.1 ok.1.2.1 ok.1.2.2.2 (gword ok.2.1 ok.2.2.1 w rfl args) h1 h2 h3 h4 (hA.old h5) (fun e => by rw [e] at h6; cases h6) h7 rfl dg (kk ok H locs ls hA hq hl)
theorem g_getO {o nm d : String} {v : Value} {a idx : Nat} (hF : gOF X o nm d v a) (w : Cond.fieldLink own idx o nm d ∈ lw_tbl) (dg : decode cc pc = .ok (.getfield idx, 3)) (kk : G X F cc nL own R k n (pc + 3) lv (v :: st) h z) : G X F cc nL own R k n pc lv (.ref a :: st) h z := by
  obtain ⟨p, e, Rm, s, m, args, below, meth, c, Q⟩ := F
  intro ok H locs ls hA hq hl
  obtain ⟨cf, kf, fi, f, cell, h1, h2, h3, h4, h5, h6⟩ := va_OF.moved ok.2.2.1.alike hF
  exact W.getf ok.1.1 ok.1.2.1 ok.1.2.2.2 (gword ok.2.1 ok.2.2.1 w rfl args) h1 h2 (hA.old h3) h4 h5 rfl rfl dg (kk ok H locs ls hA hq hl)
theorem g_getON {o nm d host : String} {v : Value} {a idx : Nat} (hF : gOF X o nm d v a) (w : Cond.fieldLinkNest own idx o nm d host ∈ lw_tbl) (dg : decode cc pc = .ok (.getfield idx, 3)) (kk : G X F cc nL own R k n (pc + 3) lv (v :: st) h z) : G X F cc nL own R k n pc lv (.ref a :: st) h z := by
  obtain ⟨p, e, Rm, s, m, args, below, meth, c, Q⟩ := F
  intro ok H locs ls hA hq hl
  obtain ⟨cf, kf, fi, f, cell, h1, h2, h3, h4, h5, h6⟩ := va_OF.moved ok.2.2.1.alike hF
  exact va_Wgetf ok.1.1 ok.1.2.1 ok.1.2.2.2 (gnestF ok.2.1 ok.2.2.1 w args) h1 h2 (hA.old h3) h4 h5 rfl rfl dg (kk ok H locs ls hA hq hl)
theorem g_tald {t N j : Nat} {f : Nat → Value} (hT : gTb X .int t N f) (hj : j < N) (hj2 : j < 2 ^ 31) (dg : decode cc pc = .ok (.iaload, 1)) (kk : G X F cc nL own R k n (pc + 1) lv (f j :: st) h z) : G X F cc nL own R k n pc lv (.int (nI j) :: .ref t :: st) h z := by
  obtain ⟨p, e, Rm, s, m, args, below, meth, c, Q⟩ := F
  intro ok H locs ls hA hq hl
  obtain ⟨cell, h1, h2, h3, h4, h5, h6, h7⟩ := va_T.moved ok.2.2.1.alike hT
  exact W.iald ok.1.1 ok.1.2.1 (hA.old h1) h2 h3 (by rw [nI_clamp hj2]; intro q; exact q.elim (nI_pos hj2) (fun q => by omega)) (by rw [nI_clamp hj2]; exact h6 j hj) rfl rfl dg (kk ok H locs ls hA hq hl)
theorem g_tbld {t N j : Nat} {f : Nat → Value} (hT : gTb X .byte t N f) (hj : j < N) (hj2 : j < 2 ^ 31) (dg : decode cc pc = .ok (.baload, 1)) (kk : G X F cc nL own R k n (pc + 1) lv (f j :: st) h z) : G X F cc nL own R k n pc lv (.int (nI j) :: .ref t :: st) h z := by
  obtain ⟨p, e, Rm, s, m, args, below, meth, c, Q⟩ := F
  intro ok H locs ls hA hq hl
  obtain ⟨cell, h1, h2, h3, h4, h5, h6, h7⟩ := va_T.moved ok.2.2.1.alike hT
  exact W.bald ok.1.1 ok.1.2.1 (hA.old h1) h2 h3 (by rw [nI_clamp hj2]; intro q; exact q.elim (nI_pos hj2) (fun q => by omega)) (by rw [nI_clamp hj2]; exact h6 j hj) rfl rfl dg (kk ok H locs ls hA hq hl)
theorem g_tqld {C : String} {t N j : Nat} {f : Nat → Value} (hT : gTb X (.object C) t N f) (hj : j < N) (hj2 : j < 2 ^ 31) (dg : decode cc pc = .ok (.aaload, 1)) (kk : G X F cc nL own R k n (pc + 1) lv (f j :: st) h z) : G X F cc nL own R k n pc lv (.int (nI j) :: .ref t :: st) h z := by
  obtain ⟨p, e, Rm, s, m, args, below, meth, c, Q⟩ := F
  intro ok H locs ls hA hq hl
  obtain ⟨cell, h1, h2, h3, h4, h5, h6, h7⟩ := va_T.moved ok.2.2.1.alike hT
  exact W.aald (ty := .object C) ok.1.1 ok.1.2.1 (hA.old h1) h2 rfl h3 (by rw [nI_clamp hj2]; intro q; exact q.elim (nI_pos hj2) (fun q => by omega)) (by rw [nI_clamp hj2]; exact h6 j hj) rfl rfl dg (kk ok H locs ls hA hq hl)
theorem g_tlen {ty : FieldType} {t N : Nat} {f : Nat → Value} (hT : gTb X ty t N f) (dg : decode cc pc = .ok (.arraylength, 1)) (kk : G X F cc nL own R k n (pc + 1) lv (.int (nI N) :: st) h z) : G X F cc nL own R k n pc lv (.ref t :: st) h z := by
  obtain ⟨p, e, Rm, s, m, args, below, meth, c, Q⟩ := F
  intro ok H locs ls hA hq hl
  obtain ⟨cell, h1, h2, h3, h4, h5, h6, h7⟩ := va_T.moved ok.2.2.1.alike hT
  exact W.alen (n := nI N) ok.1.1 ok.1.2.1 (hA.old h1) h2 h5 rfl rfl dg (kk ok H locs ls hA hq hl)
theorem g_i2c {x v : Int32} (hv : (x.toUInt32 % 65536).toInt32 = v) (d : decode cc pc = .ok (.i2c, 1)) (kk : G X F cc nL own R k n (pc + 1) lv (.int v :: st) h z) : G X F cc nL own R k n pc lv (.int x :: st) h z := by
  obtain ⟨p, e, Rm, s, m, args, below, meth, c, Q⟩ := F
  intro ok H locs ls hA hq hl
  exact lv_i2c ok.1.1 ok.1.2.1 d hv (kk ok H locs ls hA hq hl)
/-- a constant object is stored in an array of its own type -/
theorem g_aastO {t a N v j : Nat} {C : String} {f : Nat → Option Nat} (hh : h a = some (gRA X t N f)) (ht : (gT X)[t]? = some (X.2.2.1 t, .object C)) (hv : gO X C v) (hj : j < N) (hj2 : N < 2 ^ 31) (d : decode cc pc = .ok (.aastore, 1)) (kk : G X F cc nL own R k n (pc + 1) lv st (gset h a (gRA X t N (va_up f j (some v)))) z) : G X F cc nL own R k n pc lv (.ref v :: .int (nI j) :: .ref a :: st) h z := by
  obtain ⟨p, e, Rm, s, m, args, below, meth, c, Q⟩ := F
  intro ok H locs ls hA hq hl
  have hK := gK ok.2.1 ok.2.2.1
  obtain ⟨cellV, g1, g3, g2⟩ := hv.at hA ok.2.2.1
  obtain ⟨kA, comp, k1, k2, k3, -⟩ := (hK.2 t _ ht).2
  obtain ⟨kE, hkE, -⟩ := Vm.findClass_spec k3
  have hce : comp = cellV.cls := Option.some.inj (k3.symm.trans g2)
  have hcl : (nI j).toNatClampNeg = j := nI_clamp (by omega)
  subst hce
  refine W.aast ok.1.1 ok.1.2.1 (hA.one hh 0 _ rfl) (fun q h => by cases h) (fun h => by cases h) k1 k2 rfl hkE ⟨nI_pos (by omega), by rw [hcl]; show _ < (arrV _ _ _).slots.size; rw [arrV_size]; exact hj⟩ g1 (fun q h => by rw [h] at g3; cases g3) hkE (va_asg _ _) rfl rfl d fun H1 e1 z1 oq => ?_
  refine kk ok H1 _ ls (hA.put hh z1 oq ?_) (gloc hA hh hq _) hl
  show H1[a]? = some (vp_cell _ _)
  rw [e1, hcl]
  rw [vp_cell_q, vp_cell_q, arrV_store]
  congr 2
  funext q
  by_cases hq : q = j
  · subst hq
    simp [updV, va_up, va_rf]
  · simp [updV, va_up, hq]
variable {idx na : Nat} {y : MethodName} {cc' : ByteArray} {nL' : Nat} {ret' : Option FieldType} {R' : Nat × Nat × Nat} {As rest : List Value} {b : Nat} {post' : Option Value → gH → Nat → Prop} {px' : String → gH → Nat → Prop}
/-- a call whose receiver is a constant object -/
theorem g_callVO (kw : gWV own idx y cc' nL' ret' na) (M : gM X y cc' nL' ret' R' (.ref b :: As) h z post' px') (hr : gO X y.cls b) (hst : st = As.reverse ++ .ref b :: rest) (hna : As.length = na) (hcat : (rest.map fun v => v.category).sum ≤ 8) (hnl : nL' ≤ 22) (hd : R'.1 + 1 ≤ R.1) (hk : k + R'.2.1 ≤ R.2.1) (hn : n + R'.2.2 ≤ R.2.2) (d : decode cc pc = .ok (.invokevirtual idx, 3))
    (kx : ∀ (E : String) (h' : gH) (z' : Nat), px' E h' z' → False) (kk : ∀ (v : Option Value) (h' : gH) (z' : Nat), post' v h' z' → G X F cc nL own R (k + R'.2.1) (n + R'.2.2) (pc + 3) lv (v.toList ++ rest) h' z') : G X F cc nL own R k n pc lv st h z := by
  obtain ⟨p, e, Rm, s, m, args, below, meth, c, Q⟩ := F
  intro ok H locs ls hA hq hl
  have hX := ok.2.1
  have hW := ok.2.2.1
  have hR := ok.2.2.2
  obtain ⟨⟨w1, w2, w3, w4, w5⟩, hy⟩ := kw
  have hrun := vx_runV (p := p) (l := X.2.2.2) (e := e) (R := Rm) (s := s) (m := m) (args := args) (below := below) (meth := meth) (c := c) (H := H) (locs := locs) (cells := k) (slots := n) (C := y.cls) (b := b) (As := As) (rest := rest) (g := F0 m pc ls st) (Ts := []) ⟨ok.1.1, ok.1.2.1, ok.1.2.2.1, ok.1.2.2.2, fun _ q => by cases q⟩ M
    ⟨gcallB (R := R) hX hW w5 (gword hX hW w1 rfl args) w4 hy hnl hd hR.1 hR.2.2.2, gword hX hW w2 rfl args, gword hX hW w3 rfl args⟩
    ⟨gPc_blind X _ h z, hr.at hA hW, gPre hX hW hA⟩ rfl hna hl.1 hst (lv_room hcat) d ⟨Nat.le_trans hk hR.2.1, Nat.le_trans hn hR.2.2.1⟩
  intro T hT S
  rcases hrun T hT S with ⟨v, st₀, t, T', L, e0, S', hL, e1, e2, ⟨v2, h', z', hv, hA', hp⟩, go⟩ | ⟨q, st₀, t, T', L, E, ce, e0, S', hL, e1, e2, ⟨h', z', hA', hp⟩, -⟩
  · cases hv
    obtain ⟨t2, a1, b1⟩ := kk v h' z' hp ok T'.heap (locs ++ L) ls (by rw [e1]; exact hA') (fun q hq1 => (List.mem_append.mp hq1).elim (hq q) (fun h9 => hL q h9)) hl T' rfl S'
    exact ⟨t2, go t2 a1, b1⟩
  · exact (kx E h' z' hp).elim
theorem g_callVO0 (kw : gWV own idx y cc' nL' ret' na) {d' : Nat} (M : gM X y cc' nL' ret' (d', 0, 0) (.ref b :: As) h z post' gNoX) (hr : gO X y.cls b) (hst : st = As.reverse ++ .ref b :: rest) (hna : As.length = na) (hcat : (rest.map fun v => v.category).sum ≤ 8) (hnl : nL' ≤ 22) (hd : d' + 1 ≤ R.1) (hk : k ≤ R.2.1) (hn : n ≤ R.2.2) (d : decode cc pc = .ok (.invokevirtual idx, 3))
    (kk : ∀ (v : Option Value) (h' : gH) (z' : Nat), post' v h' z' → G X F cc nL own R k n (pc + 3) lv (v.toList ++ rest) h' z') : G X F cc nL own R k n pc lv st h z := g_callVO kw M hr hst hna hcat hnl hd hk hn d nox kk
theorem gMp.of {av : List Value} {ret : Option FieldType} {post : Option Value → gH → Nat → Prop}
    (hy : plainName y.cls = true) (hnl : (lg_sl av).length ≤ nL) (body : ∀ F : gF, gEndp X F ret R post → G X F cc nL y.cls R 0 0 0 (gLv av nL) [] h z) : gMp X y cc nL ret R av h z post := by
  refine Met.ofW (cc := cc) (maxL := nL) (ret := ret) hy rfl ?_
  intro p e s m args below meth c s₁ B hml hP
  obtain ⟨rfl, hA, hX, hW⟩ := hP
  rw [lg_entry_eq]
  exact body (p, e, _, s, m, _, below, meth, c, _) ⟨rfl, B.returns, B.notSynchronized⟩ ⟨⟨B.exec, B.bytes, hml, findClass_of_methodNamed B.named⟩, hX, hW, Nat.le_refl _, Nat.le_refl _, Nat.le_refl _, Nat.le_refl _⟩ s.heap [] _ hA (fun _ q => by cases q) (gLv_ok (lv_entry av hnl))
theorem g_iretp {post : Option Value → gH → Nat → Prop} {ty : FieldType} {v : Int32} (hE : gEndp X F (some ty) R post) (hv : narrow ty (.int v) = .int v) (hp : post (some (.int v)) h z) (d : decode cc pc = .ok (.ireturn, 1)) (hk : k ≤ R.2.1 := by exact Nat.zero_le _) (hn : n ≤ R.2.2 := by exact Nat.zero_le _) : G X F cc nL own R k n pc lv [.int v] h z := by
  obtain ⟨p, e, Rm, s, m, args, below, meth, c, Q⟩ := F
  intro ok H locs ls hA hq hl
  obtain ⟨rfl, hr, hlocks⟩ := hE
  refine W.widen hk hn ?_
  exact W.zret ok.1.1 ok.1.2.1 hr hv (fun t ht hW => ⟨_, h, z, rfl, by rw [ht]; exact hA, hp⟩) hq d hlocks
/-- a call of an inherited method on a constant object -/
theorem g_callUO {C owner : String} {x : MethodName} (kw : gWU own idx C owner x y cc' nL' ret' na) (M : gMp X y cc' nL' ret' R' (.ref b :: As) h z post') (hr : gO X C b) (hst : st = As.reverse ++ .ref b :: rest) (hna : As.length = na) (hcat : (rest.map fun v => v.category).sum ≤ 8) (hnl : nL' ≤ 22) (hd : R'.1 + 1 ≤ R.1) (hk : k + R'.2.1 ≤ R.2.1) (hn : n + R'.2.2 ≤ R.2.2) (d : decode cc pc = .ok (.invokevirtual idx, 3))
    (kk : ∀ (v : Option Value) (h' : gH) (z' : Nat), post' v h' z' → G X F cc nL own R (k + R'.2.1) (n + R'.2.2) (pc + 3) lv (v.toList ++ rest) h' z') : G X F cc nL own R k n pc lv st h z := by
  obtain ⟨p, e, Rm, s, m, args, below, meth, c, Q⟩ := F
  intro ok H locs ls hA hq hl
  have hX := ok.2.1
  have hW := ok.2.2.1
  have hR := ok.2.2.2
  obtain ⟨⟨w1, w2, w3, w4, w5, w6⟩, hyx, hy1, hy2, hy3⟩ := kw
  have hw6 : (Cond.code y cc' nL' ret').before args s = true := gword hX hW w6 (by first | rfl | simp [goodWord, Cond.onTables, Cond.keeps, Cond.steady]) args
  have hrun := va_runU (p := p) (l := X.2.2.2) (e := e) (R := Rm) (s := s) (m := m) (args := args) (below := below) (meth := meth) (c := c) (H := H) (locs := locs) (cells := k) (slots := n) (C := C) (owner := owner) (b := b) (As := As) (rest := rest) (g := F0 m pc ls st) (Ts := []) ⟨ok.1.1, ok.1.2.1, ok.1.2.2.1, ok.1.2.2.2, fun _ q => by cases q⟩ M
    (x := x) (n := na) (bytes := cc') (maxL := nL') (ret := ret') (ws := [Cond.code y cc' nL' ret']) (rm := gRoom R')
    (va_cwU (Ts := [Cond.methodLink own idx x, Cond.sameMethod x.cls owner x.name x.desc, Cond.selects C x y, Cond.instanceMethod y, Cond.initialized y.cls, Cond.code y cc' nL' ret']) na (fun w hw => by
      simp only [List.mem_cons, List.not_mem_nil, or_false] at hw
      rcases hw with rfl | rfl | rfl | rfl | rfl | rfl
      · exact gword hX hW w1 rfl args
      · exact gword hX hW w2 rfl args
      · exact gword hX hW w3 rfl args
      · exact gword hX hW w4 rfl args
      · exact gword hX hW w5 rfl args
      · exact hw6) (fun w hw => ⟨hw, by
      simp only [va_wsU, List.mem_append, List.mem_cons, List.not_mem_nil, or_false] at hw
      rcases hw with (rfl | rfl | rfl | rfl | rfl) | rfl <;> first | rfl | simp [goodWord, Cond.onTables, Cond.keeps, Cond.steady]⟩) rfl rfl rfl hyx ⟨hy1, hy2, hy3⟩ ⟨by show R'.1 + 1 ≤ _; omega, by show 8 + (nL' + 11) + 41 * R'.1 ≤ _; omega⟩)
    ⟨gPc_blind X _ h z, hr.at hA hW, gPre hX hW hA⟩ rfl hna hl.1 hst (lv_room hcat) d ⟨Nat.le_trans hk hR.2.1, Nat.le_trans hn hR.2.2.1⟩
  intro T hT S
  obtain ⟨v, st₀, t, T', L, e0, S', hL, e1, e2, ⟨v2, h', z', hv, hA', hp⟩, go⟩ := hrun T hT S
  cases hv
  obtain ⟨t2, a1, b1⟩ := kk v h' z' hp ok T'.heap (locs ++ L) ls (by rw [e1]; exact hA') (fun q hq1 => (List.mem_append.mp hq1).elim (hq q) (fun h9 => hL q h9)) hl T' rfl S'
  exact ⟨t2, go t2 a1, b1⟩
end GC5
