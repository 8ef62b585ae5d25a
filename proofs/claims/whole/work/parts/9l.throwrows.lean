/-! rows: what is thrown, what goes on to the caller, what is caught; contracts of methods with handlers -/
section GX
variable {X : gX} {F : gF} {cc : ByteArray} {nL : Nat} {own : String} {R : Nat × Nat × Nat} {k n pc : Nat} {lv : List (Option Value)} {st : List Value} {h : gH} {z : Nat}
variable {ret : Option FieldType} {post : Option Value → gH → Nat → Prop} {px : String → gH → Nat → Prop}
variable {idx na : Nat} {y : MethodName} {cc' : ByteArray} {nL' : Nat} {ret' : Option FieldType} {R' : Nat × Nat × Nat} {As rest : List Value} {b : Nat} {post' : Option Value → gH → Nat → Prop} {px' : String → gH → Nat → Prop}
/-- what is known of the start for throws -/
def gTh (X : gX) : Prop := X.2.2.2.stackTraces = false ∧ vx_Zq Bundle.tN "UNASSIGNED_STACK" Bundle.steD (gFree X) X.1 X.1.heap ∧ vx_Zq Bundle.tN "SUPPRESSED_SENTINEL" Bundle.listD (gFree X) X.1 X.1.heap
/-- the heap at the method's entry holds what the start held -/
def gSt (X : gX) (F : gF) : Prop := match F with
  | (_, _, _, s, _) => X.1.heap.size ≤ s.heap.size ∧ ∀ q : Nat, q < X.1.heap.size → s.heap[q]? = X.1.heap[q]?
theorem gM.ofS {av : List Value} (hy : plainName y.cls = true) (hnl : (lg_sl av).length ≤ nL) (body : ∀ F : gF, gEnd X F ret R post px → gSt X F → G X F cc nL y.cls R 0 0 0 (gLv av nL) [] h z) : gM X y cc nL ret R av h z post px := by
  refine vx_ofW (cc := cc) (maxL := nL) (ret := ret) hy rfl ?_
  intro p e s m args below meth c s₁ B hml hx hP
  obtain ⟨rfl, hA, hX, hW⟩ := hP
  rw [lg_entry_eq]
  exact body (p, e, _, s, m, _, below, meth, c, _) ⟨rfl, B.returns, B.notSynchronized, hx⟩ ⟨by rw [hA.1]; exact hA.2.1, hA.2.2.1⟩ ⟨⟨B.exec, B.bytes, hml, findClass_of_methodNamed B.named⟩, hX, hW, Nat.le_refl _, Nat.le_refl _, Nat.le_refl _, Nat.le_refl _⟩ s.heap [] _ hA (fun _ q => by cases q) (gLv_ok (lv_entry av hnl))
theorem exB_at {s : State} {A0 args : Array Value} {E : String} {w : Cond} (hW : X.1.WarmedH s.vm) (h : w.before A0 X.1 = true) (hw : w ∈ exB E) : w.before args s = true := by
  unfold exB at hw
  rcases List.mem_cons.mp hw with rfl | hw
  · exact va_Nw.use rfl (va_Nw.warmC hW (va_Nw.of rfl h))
  · rcases List.mem_cons.mp hw with rfl | hw
    · exact va_Nw.use rfl (va_Nw.warmD hW (va_Nw.of rfl h))
    · rcases List.mem_cons.mp hw with rfl | hw
      · exact va_Nw.use rfl (va_Nw.warmD hW (va_Nw.of rfl h))
      · rcases List.mem_cons.mp hw with rfl | hw
        · exact va_Nw.use rfl (va_Nw.warmD hW (va_Nw.of rfl h))
        · cases hw
theorem g_throwS {ik is ic : Nat} {E text : String} (hT : gTh X) (hSt : gSt X F) (hE : gEnd X F ret R post px) (w1 : Cond.classLink own ik E ∈ lw_tbl) (w2 : Cond.initialized E ∈ lw_tbl) (w3 : Cond.stringRef own is text ∈ lw_tbl) (w4 : ∀ w ∈ (vx_atS own ic E exN).filter goodWord, w ∈ lw_tbl) (w5 : ∀ w ∈ exB E, w ∈ lw_tbl) (w6 : ∀ w ∈ (vx_atS own ic E exN).filter (fun w => !goodWord w), w ∈ exB E) (w7 : ∀ w ∈ Cond.classLink own ik E :: Cond.initialized E :: vx_atS own ic E exN, vx_ot w = true) (w8 : Bundle.fit E = true)
    (d0 : decode cc pc = .ok (.new ik, 3)) (d3 : decode cc (pc + 3) = .ok (.dup, 1)) (d4 : decode cc (pc + 4) = .ok (.ldc is, 2)) (d6 : decode cc (pc + 6) = .ok (.invokespecial ic, 3)) (d9 : decode cc (pc + 9) = .ok (.athrow, 1)) (hd : 6 ≤ R.1) (hc : (st.map fun v => v.category).sum ≤ 8) (hk : k + 1 ≤ R.2.1) (hn : n + 6 ≤ R.2.2) (hp : ∀ z', z ≤ z' → px E h z') : G X F cc nL own R k n pc lv st h z := by
  obtain ⟨p, e, Rm, s, m, args, below, meth, c, Q⟩ := F
  intro ok H locs ls hA hq hl
  obtain ⟨rfl, hr, hlocks, hex⟩ := hE
  have hX := ok.2.1
  have hW := ok.2.2.1
  have hR := ok.2.2.2
  obtain ⟨⟨A0, h0⟩, -⟩ := id hX
  have hcur : X.1.vm.findClass own = some m.cls := by rw [← hW.alike.findClass]; exact ok.1.2.2.2
  obtain ⟨k9, cf, i9, a9, -, -, -, -, -, hev⟩ := Cond.stringRef_spec hcur (h0 _ w3)
  have hev2 := hev
  have hstr : vk_R own is text a9 s := vk_R.warm hW (vk_R.of (h0 _ w3) hev2)
  have hB : ∀ w ∈ exB E, w.before args s = true := fun w hw => exB_at hW (h0 w (w5 w hw)) hw
  have hat : ∀ w ∈ vx_atS own ic E exN, w.before args s = true := vx_hat (fun w hw => gword hX hW (w4 w hw) (List.mem_filter.mp hw).2 args) w6 hB
  have hZ : ∀ {C nm d : String}, vx_Zq C nm d (gFree X) X.1 X.1.heap → vx_Zq C nm d (gFree X) s s.heap := fun z9 => (vx_Zq.moved hW.alike z9).kept (fun a h1 h2 => hSt.2 a h1)
  intro T hT' S
  have hfr := vx_frame (U := T) S.same
  have hS : va_S (gFree X) s.heap H locs := by
    rw [← hT']
    exact ⟨hfr.1, fun q h1 h2 => hfr.2 q h1 (fun z9 hz e => h2 (by rw [← e]; exact hq z9 hz)), fun q h9 => hq q h9⟩
  exact vx_throwS ok.1.1 ok.1.2.1 hT.1 ok.1.2.2.2 w8 wftN (gword hX hW w1 rfl args) (gword hX hW w2 rfl args) hstr hat w7 (hZ hT.2.1) (hZ hT.2.2) hS (hl.1.trans ok.1.2.2.1.symm) d0 d3 d4 d6 d9 (fun x hx => (hex x hx).elim) (by show 2 + 3 < Rm.frames; omega) (by show _ + 82 ≤ Rm.locals; omega) (Nat.le_trans hk hR.2.1) (Nat.le_trans hn hR.2.2.1) hlocks (fun t _ h1 h2 => ⟨h, t.heap.size, hA.grow h1 h2, hp _ (by rw [← hA.1]; exact h1)⟩) hq hk hn T hT' S
theorem g_throwW {ik is ic : Nat} {E text : String} (hT : gTh X) (hSt : gSt X F) (hE : gEnd X F ret R post px) (w1 : Cond.classLink own ik E ∈ lw_tbl) (w2 : Cond.initialized E ∈ lw_tbl) (w3 : Cond.stringRef own is text ∈ lw_tbl) (w4 : ∀ w ∈ (vx_atS own ic E exN).filter goodWord, w ∈ lw_tbl) (w5 : ∀ w ∈ exB E, w ∈ lw_tbl) (w6 : ∀ w ∈ (vx_atS own ic E exN).filter (fun w => !goodWord w), w ∈ exB E) (w7 : ∀ w ∈ Cond.classLink own ik E :: Cond.initialized E :: vx_atS own ic E exN, vx_ot w = true) (w8 : Bundle.fit E = true)
    (d0 : decode cc pc = .ok (.new ik, 3)) (d3 : decode cc (pc + 3) = .ok (.dup, 1)) (d4 : decode cc (pc + 4) = .ok (.ldc_w is, 3)) (d7 : decode cc (pc + 7) = .ok (.invokespecial ic, 3)) (d10 : decode cc (pc + 10) = .ok (.athrow, 1)) (hd : 6 ≤ R.1) (hc : (st.map fun v => v.category).sum ≤ 8) (hk : k + 1 ≤ R.2.1) (hn : n + 6 ≤ R.2.2) (hp : ∀ z', z ≤ z' → px E h z') : G X F cc nL own R k n pc lv st h z := by
  obtain ⟨p, e, Rm, s, m, args, below, meth, c, Q⟩ := F
  intro ok H locs ls hA hq hl
  obtain ⟨rfl, hr, hlocks, hex⟩ := hE
  have hX := ok.2.1
  have hW := ok.2.2.1
  have hR := ok.2.2.2
  obtain ⟨⟨A0, h0⟩, -⟩ := id hX
  have hcur : X.1.vm.findClass own = some m.cls := by rw [← hW.alike.findClass]; exact ok.1.2.2.2
  obtain ⟨k9, cf, i9, a9, -, -, -, -, -, hev⟩ := Cond.stringRef_spec hcur (h0 _ w3)
  have hev2 := hev
  have hstr : vk_R own is text a9 s := vk_R.warm hW (vk_R.of (h0 _ w3) hev2)
  have hB : ∀ w ∈ exB E, w.before args s = true := fun w hw => exB_at hW (h0 w (w5 w hw)) hw
  have hat : ∀ w ∈ vx_atS own ic E exN, w.before args s = true := vx_hat (fun w hw => gword hX hW (w4 w hw) (List.mem_filter.mp hw).2 args) w6 hB
  have hZ : ∀ {C nm d : String}, vx_Zq C nm d (gFree X) X.1 X.1.heap → vx_Zq C nm d (gFree X) s s.heap := fun z9 => (vx_Zq.moved hW.alike z9).kept (fun a h1 h2 => hSt.2 a h1)
  intro T hT' S
  have hfr := vx_frame (U := T) S.same
  have hS : va_S (gFree X) s.heap H locs := by
    rw [← hT']
    exact ⟨hfr.1, fun q h1 h2 => hfr.2 q h1 (fun z9 hz e => h2 (by rw [← e]; exact hq z9 hz)), fun q h9 => hq q h9⟩
  exact vx_throwSW ok.1.1 ok.1.2.1 hT.1 ok.1.2.2.2 w8 wftN (gword hX hW w1 rfl args) (gword hX hW w2 rfl args) hstr hat w7 (hZ hT.2.1) (hZ hT.2.2) hS (hl.1.trans ok.1.2.2.1.symm) d0 d3 d4 d7 d10 (fun x hx => (hex x hx).elim) (by show 2 + 3 < Rm.frames; omega) (by show _ + 82 ≤ Rm.locals; omega) (Nat.le_trans hk hR.2.1) (Nat.le_trans hn hR.2.2.1) hlocks (fun t _ h1 h2 => ⟨h, t.heap.size, hA.grow h1 h2, hp _ (by rw [← hA.1]; exact h1)⟩) hq hk hn T hT' S
/-- a call that throws: it goes on to the caller -/
theorem g_callVX (kw : gWV own idx y cc' nL' ret' na) (M : gM X y cc' nL' ret' R' (.ref b :: As) h z post' px') {ci N : Nat} {T : u_T} {fs : List Value} (hh : h b = some (.inr (ci, fs))) (hcl : vwCl[ci]? = some (y.cls, T, N)) (hst : st = As.reverse ++ .ref b :: rest) (hna : As.length = na) (hcat : (rest.map fun v => v.category).sum ≤ 8) (hnl : nL' ≤ 22) (hd : R'.1 + 1 ≤ R.1) (hk : k + R'.2.1 ≤ R.2.1) (hn : n + R'.2.2 ≤ R.2.2) (d : decode cc pc = .ok (.invokevirtual idx, 3)) (hE : gEnd X F ret R post px) (hno : ∀ (v : Option Value) (h' : gH) (z' : Nat), post' v h' z' → False) (hpx : ∀ (E : String) (h' : gH) (z' : Nat), px' E h' z' → px E h' z') : G X F cc nL own R k n pc lv st h z := by
  obtain ⟨p, e, Rm, s, m, args, below, meth, c, Q⟩ := F
  intro ok H locs ls hA hq hl
  obtain ⟨rfl, hr, hlocks, hex⟩ := hE
  have hX := ok.2.1
  have hW := ok.2.2.1
  have hR := ok.2.2.2
  obtain ⟨⟨w1, w2, w3, w4, w5⟩, hy⟩ := kw
  have hrun := vx_runV (p := p) (l := X.2.2.2) (e := e) (R := Rm) (s := s) (m := m) (args := args) (below := below) (meth := meth) (c := c) (H := H) (locs := locs) (cells := k) (slots := n) (C := y.cls) (b := b) (As := As) (rest := rest) (g := F0 m pc ls st) (Ts := []) ⟨ok.1.1, ok.1.2.1, ok.1.2.2.1, ok.1.2.2.2, fun _ q => by cases q⟩ M
    ⟨gcallB (R := R) hX hW w5 (gword hX hW w1 rfl args) w4 hy hnl hd hR.1 hR.2.2.2, gword hX hW w2 rfl args, gword hX hW w3 rfl args⟩
    ⟨gPc_blind X _ h z, va_recv (gK hX hW) (hA.one hh) (ci := ci) (q0 := 0) hcl rfl, gPre hX hW hA⟩ rfl hna hl.1 hst (lv_room hcat) d ⟨Nat.le_trans hk hR.2.1, Nat.le_trans hn hR.2.2.1⟩
  intro T hT S
  rcases hrun T hT S with ⟨v, st₀, t, T', L, e0, S', hL, e1, e2, ⟨v2, h', z', hv, hA', hp⟩, go⟩ | ⟨q, st₀, t, T', L, E, ce, e0, S', hL, e1, e2, ⟨h', z', hA', hp⟩, hce, hcv, hcl2, go⟩
  · exact (hno v2 h' z' hp).elim
  · obtain ⟨t2, a1, b1⟩ := vx_out (p := p) (l := X.2.2.2) (e := e) (R := Rm) (s := s) (m := m) (args := args) (below := below) (meth := meth) (c := c) (H := T'.heap) (locs := locs ++ L) (cells := k + R'.2.1) (slots := n + R'.2.2) (free := gFree X) (ls := ls) (rest := rest) (Qc := gQc X post) (XC := gXC X px) (pc := pc) (E := E) (ce := ce) (q := q) (mc := R.2.1) (ms := R.2.2) (fun x hx => (hex x hx).elim) hlocks (by rw [e1]; exact hce) hcv hcl2 (fun t2 ht _ => ⟨h', z', by rw [ht, e1]; exact hA', hpx E h' z' hp⟩) (fun q9 hq9 => (List.mem_append.mp hq9).elim (hq q9) (fun h9 => hL q9 h9)) hk hn T' rfl S'
    exact ⟨t2, go.trans a1, b1⟩
/-- a contract of a method with one handler; it does not throw -/
def gMh (X : gX) (y : MethodName) (cc : ByteArray) (nL : Nat) (ret : Option FieldType) (hh : List (Nat × Nat × Nat × Nat)) (R : Nat × Nat × Nat) (av : List Value) (h : gH) (z : Nat) (post : Option Value → gH → Nat → Prop) : Prop :=
  vx_Met X.2.2.2 y [Cond.codeWith y cc nL ret hh] (gRoom R) (gPc X av h z) (gQc X post) (gXC X gNoX) R.2.1 R.2.2 (gFree X)
def gEndh (X : gX) (F : gF) (ret : Option FieldType) (hh : List (Nat × Nat × Nat × Nat)) (R : Nat × Nat × Nat) (post : Option Value → gH → Nat → Prop) : Prop := match F with
  | (_, _, _, s, _, args, below, meth, c, Q) => Q = vx_MQ below (gQc X post) (gXC X gNoX) args s R.2.1 R.2.2 (gFree X) ∧ meth.sig.returnType = ret ∧ meth.locks = false ∧ c.exceptionTable.toList = tableOf hh
theorem gMh.of {av : List Value} {hh : List (Nat × Nat × Nat × Nat)} (hy : plainName y.cls = true) (hnl : (lg_sl av).length ≤ nL) (body : ∀ F : gF, gEndh X F ret hh R post → G X F cc nL y.cls R 0 0 0 (gLv av nL) [] h z) : gMh X y cc nL ret hh R av h z post := by
  refine vx_ofWH (cc := cc) (maxL := nL) (ret := ret) (hh := hh) hy rfl ?_
  intro p e s m args below meth c s₁ B hml hP
  obtain ⟨rfl, hA, hX, hW⟩ := hP
  rw [lg_entry_eq]
  exact body (p, e, _, s, m, _, below, meth, c, _) ⟨rfl, B.returns, B.notSynchronized, vx_table (x := y) B (atoms_spec (ws := [Cond.codeWith y cc nL ret hh]) B.pre _ List.mem_cons_self)⟩ ⟨⟨B.exec, B.bytes, hml, findClass_of_methodNamed B.named⟩, hX, hW, Nat.le_refl _, Nat.le_refl _, Nat.le_refl _, Nat.le_refl _⟩ s.heap [] _ hA (fun _ q => by cases q) (gLv_ok (lv_entry av hnl))
theorem g_hret {hh : List (Nat × Nat × Nat × Nat)} {v : Int32} (hE : gEndh X F (some .int) hh R post) (hp : post (some (.int v)) h z) (d : decode cc pc = .ok (.ireturn, 1)) (hk : k ≤ R.2.1) (hn : n ≤ R.2.2) : G X F cc nL own R k n pc lv [.int v] h z := by
  obtain ⟨p, e, Rm, s, m, args, below, meth, c, Q⟩ := F
  intro ok H locs ls hA hq hl
  obtain ⟨rfl, hr, hlocks, -⟩ := hE
  refine vx_ret ?_
  refine W.widen hk hn ?_
  exact W.zret ok.1.1 ok.1.2.1 hr rfl (fun t ht hW => ⟨_, h, z, rfl, by rw [ht]; exact hA, hp⟩) hq d hlocks
/-- a call that throws, and is caught here -/
theorem g_callVC (kw : gWV own idx y cc' nL' ret' na) (M : gM X y cc' nL' ret' R' (.ref b :: As) h z post' px') {ci N : Nat} {T : u_T} {fs : List Value} (hh : h b = some (.inr (ci, fs))) (hcl : vwCl[ci]? = some (y.cls, T, N)) (hst : st = As.reverse ++ .ref b :: rest) (hna : As.length = na) (hcat : (rest.map fun v => v.category).sum ≤ 8) (hnl : nL' ≤ 22) (hd : R'.1 + 1 ≤ R.1) (hk : k + R'.2.1 ≤ R.2.1) (hn : n + R'.2.2 ≤ R.2.2) (d : decode cc pc = .ok (.invokevirtual idx, 3)) {a1 b1 hpc ct : Nat} {E : String} (hE : gEndh X F ret [(a1, b1, hpc, ct)] R post) (hno : ∀ (v : Option Value) (h' : gH) (z' : Nat), post' v h' z' → False) (hcov : covers ⟨a1, b1, hpc, ct⟩ pc = true) (h0 : ct ≠ 0) (w7 : Cond.classLink own ct E ∈ lw_tbl) (w8 : Cond.castable E E ∈ lw_tbl) (hpx : ∀ (E' : String) (h' : gH) (z' : Nat), px' E' h' z' → E' = E) (kx : ∀ (q : Nat) (h' : gH) (z' : Nat), px' E h' z' → G X F cc nL own R (k + R'.2.1) (n + R'.2.2) hpc lv [.ref q] h' z') : G X F cc nL own R k n pc lv st h z := by
  obtain ⟨p, e, Rm, s, m, args, below, meth, c, Q⟩ := F
  intro ok H locs ls hA hq hl
  obtain ⟨-, hr, hlocks, hex⟩ := hE
  have hX := ok.2.1
  have hW := ok.2.2.1
  have hR := ok.2.2.2
  obtain ⟨⟨A0, h00⟩, -⟩ := id hX
  obtain ⟨⟨w1, w2, w3, w4, w5⟩, hy⟩ := kw
  have hrun := vx_runV (p := p) (l := X.2.2.2) (e := e) (R := Rm) (s := s) (m := m) (args := args) (below := below) (meth := meth) (c := c) (H := H) (locs := locs) (cells := k) (slots := n) (C := y.cls) (b := b) (As := As) (rest := rest) (g := F0 m pc ls st) (Ts := []) ⟨ok.1.1, ok.1.2.1, ok.1.2.2.1, ok.1.2.2.2, fun _ q => by cases q⟩ M
    ⟨gcallB (R := R) hX hW w5 (gword hX hW w1 rfl args) w4 hy hnl hd hR.1 hR.2.2.2, gword hX hW w2 rfl args, gword hX hW w3 rfl args⟩
    ⟨gPc_blind X _ h z, va_recv (gK hX hW) (hA.one hh) (ci := ci) (q0 := 0) hcl rfl, gPre hX hW hA⟩ rfl hna hl.1 hst (lv_room hcat) d ⟨Nat.le_trans hk hR.2.1, Nat.le_trans hn hR.2.2.1⟩
  intro T hT S
  rcases hrun T hT S with ⟨v, st₀, t, T', L, e0, S', hL, e1, e2, ⟨v2, h', z', hv, hA', hp⟩, go⟩ | ⟨q, st₀, t, T', L, E', ce, e0, S', hL, e1, e2, ⟨h', z', hA', hp⟩, hce, hcv, hcl2, go⟩
  · exact (hno v2 h' z' hp).elim
  · have hE' := hpx E' h' z' hp
    subst hE'
    obtain ⟨t2, a2, b2⟩ := vx_catch (p := p) (l := X.2.2.2) (e := e) (R := Rm) (s := s) (m := m) (args := args) (below := below) (meth := meth) (c := c) (H := T'.heap) (locs := locs ++ L) (cells := k + R'.2.1) (slots := n + R'.2.2) (Q := Q) (ls := ls) (rest := rest) (pc := pc) (E := E') (ce := ce) (q := q) ok.1.2.2.2 [] ⟨a1, b1, hpc, ct⟩ [] hex (fun z9 h9 => by cases h9) hcov h0 (gword hX hW w7 rfl args) (va_Nw.use rfl (va_Nw.warmC hW (va_Nw.of rfl (h00 _ w8)))) (by rw [e1]; exact hce) hcv hcl2 (kx q h' z' hp ok T'.heap (locs ++ L) ls (by rw [e1]; exact hA') (fun q hq1 => (List.mem_append.mp hq1).elim (hq q) (fun h9 => hL q h9)) hl) T' rfl S'
    exact ⟨t2, go.trans a2, b2⟩
/-- what a call of a static method with a handler asks -/
def gWsH (own : String) (idx : Nat) (y : MethodName) (cc : ByteArray) (nL : Nat) (ret : Option FieldType) (hh : List (Nat × Nat × Nat × Nat)) (n : Nat) : Prop := (Cond.methodLink own idx y ∈ lw_tbl ∧ Cond.static y ∈ lw_tbl ∧ Cond.initialized y.cls ∈ lw_tbl ∧ Cond.codeWith y cc nL ret hh ∈ lw_tbl) ∧ y.cls ≠ "java/lang/invoke/MethodHandle" ∧ y.cls ≠ "java/lang/invoke/VarHandle" ∧ (parseMethodDescriptor y.desc).map (fun d => d.parameters.length) = some n
theorem g_callSH {hh : List (Nat × Nat × Nat × Nat)} (kw : gWsH own idx y cc' nL' ret' hh na) (M : gMh X y cc' nL' ret' hh R' As h z post') (hst : st = As.reverse ++ rest) (hna : As.length = na) (hcat : (rest.map fun v => v.category).sum ≤ 8) (hnl : nL' ≤ 22) (hd : R'.1 + 1 ≤ R.1) (hk : k + R'.2.1 ≤ R.2.1) (hn : n + R'.2.2 ≤ R.2.2) (d : decode cc pc = .ok (.invokestatic idx, 3))
    (kk : ∀ (v : Option Value) (h' : gH) (z' : Nat), post' v h' z' → G X F cc nL own R (k + R'.2.1) (n + R'.2.2) (pc + 3) lv (v.toList ++ rest) h' z') : G X F cc nL own R k n pc lv st h z := by
  obtain ⟨p, e, Rm, s, m, args, below, meth, c, Q⟩ := F
  intro ok H locs ls hA hq hl
  have hX := ok.2.1
  have hW := ok.2.2.1
  have hR := ok.2.2.2
  obtain ⟨⟨w1, w2, w4, w5⟩, hy⟩ := kw
  have hcw : vx_CSW Rm s args own idx y cc' nL' ret' hh [Cond.codeWith y cc' nL' ret' hh] (gRoom R') R'.2.1 R'.2.2 na := by
    refine ⟨⟨rfl, rfl, ?_, ?_, fun w hw a' U hW2 => ?_, List.mem_cons_self⟩, gword hX hW w5 rfl args, gword hX hW w4 rfl args, ⟨hy.1, hy.2.1⟩, fun sig h9 => ?_, gword hX hW w1 rfl args, gword hX hW w2 rfl args⟩
    · have := hR.1; show R'.1 + 1 ≤ Rm.frames; omega
    · have := hR.2.2.2; show 8 + (nL' + 11) + 41 * R'.1 ≤ Rm.locals; omega
    · rw [List.mem_singleton.mp hw]; exact gword hX (State.WarmedH.trans hW hW2) w5 rfl a'
    · have h2 := hy.2.2
      rw [h9] at h2
      exact (Option.some.inj h2).symm
  have hrun := vx_runSX (p := p) (l := X.2.2.2) (e := e) (R := Rm) (s := s) (m := m) (args := args) (below := below) (meth := meth) (c := c) (H := H) (locs := locs) (cells := k) (slots := n) (As := As) (rest := rest) (g := F0 m pc ls st) (Ts := []) (hh := hh) ⟨ok.1.1, ok.1.2.1, ok.1.2.2.1, ok.1.2.2.2, fun _ q => by cases q⟩ M hcw
    ⟨gPc_blind X _ h z, gPre hX hW hA⟩ rfl hna hl.1 hst (lv_room hcat) d ⟨Nat.le_trans hk hR.2.1, Nat.le_trans hn hR.2.2.1⟩
  intro T hT S
  rcases hrun T hT S with ⟨v, st₀, t, T', L, e0, S', hL, e1, e2, ⟨v2, h', z', hv, hA', hp⟩, go⟩ | ⟨q, st₀, t, T', L, E, ce, e0, S', hL, e1, e2, ⟨h', z', hA', hp⟩, -⟩
  · cases hv
    obtain ⟨t2, a1, b1⟩ := kk v h' z' hp ok T'.heap (locs ++ L) ls (by rw [e1]; exact hA') (fun q hq1 => (List.mem_append.mp hq1).elim (hq q) (fun h9 => hL q h9)) hl T' rfl S'
    exact ⟨t2, go t2 a1, b1⟩
  · exact hp.elim
end GX
