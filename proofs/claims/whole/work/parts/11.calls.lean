/-! arrays, new cells, calls, ends, contracts -/
abbrev gIA (X : gX) (N : Nat) (f : Nat → Int32) : va_E := .inl (X.2.2.1 0, N, .inl f)
abbrev gJA (X : gX) (N : Nat) (f : Nat → Int64) : va_E := .inl (X.2.2.1 1, N, .inr (.inl f))
abbrev gRA (X : gX) (t N : Nat) (f : Nat → Option Nat) : va_E := .inl (X.2.2.1 t, N, .inr (.inr (.inr (.inr f))))
theorem gloc {X : gX} {h : gH} {z : Nat} {H : Heap} (hA : gAbs X h z H) {a : Nat} {e : va_E} (hh : h a = some e) {locs : List Loc} (hq : ∀ q ∈ locs, X.1.heap.size ≤ q.base) (i : Nat) : ∀ q ∈ locs ++ [⟨a, i⟩], X.1.heap.size ≤ q.base := by
  intro q hq1
  rcases List.mem_append.mp hq1 with h9 | h9
  · exact hq q h9
  · rw [List.mem_singleton.mp h9]; exact (hA.2.2.2 a _ hh).1
section GA
variable {X : gX} {F : gF} {cc : ByteArray} {nL : Nat} {own : String} {R : Nat × Nat × Nat} {k n pc : Nat} {lv : List (Option Value)} {st : List Value} {h : gH} {z : Nat}
theorem g_iald {a N : Nat} {f : Nat → Int32} {i : Int32} (hh : h a = some (gIA X N f)) (hin : vp_in i N) (d : decode cc pc = .ok (.iaload, 1)) (kk : G X F cc nL own R k n (pc + 1) lv (.int (f i.toNatClampNeg) :: st) h z) : G X F cc nL own R k n pc lv (.int i :: .ref a :: st) h z := by
  obtain ⟨p, e, Rm, s, m, args, below, meth, c, Q⟩ := F
  intro ok H locs ls hA hq hl
  exact va_iald ok.1.1 ok.1.2.1 (gK ok.2.1 ok.2.2.1) (hA.one hh) 0 0 rfl rfl hin d (kk ok H locs ls hA hq hl)
theorem g_laldG {a N : Nat} {f : Nat → Int64} {i : Int32} (hh : h a = some (gJA X N f)) (hin : vp_in i N) (d : decode cc pc = .ok (.laload, 1)) (kk : G X F cc nL own R k n (pc + 1) lv (.long (f i.toNatClampNeg) :: st) h z) : G X F cc nL own R k n pc lv (.int i :: .ref a :: st) h z := by
  obtain ⟨p, e, Rm, s, m, args, below, meth, c, Q⟩ := F
  intro ok H locs ls hA hq hl
  exact va_lald ok.1.1 ok.1.2.1 (gK ok.2.1 ok.2.2.1) (hA.one hh) 0 1 rfl rfl hin d (kk ok H locs ls hA hq hl)
theorem g_aaldG {t a N : Nat} {C : String} {f : Nat → Option Nat} {i : Int32} (hh : h a = some (gRA X t N f)) (ht : (gT X)[t]? = some (X.2.2.1 t, .object C)) (hin : vp_in i N) (d : decode cc pc = .ok (.aaload, 1)) (kk : G X F cc nL own R k n (pc + 1) lv (va_rf (f i.toNatClampNeg) :: st) h z) : G X F cc nL own R k n pc lv (.int i :: .ref a :: st) h z := by
  obtain ⟨p, e, Rm, s, m, args, below, meth, c, Q⟩ := F
  intro ok H locs ls hA hq hl
  exact va_aldq ok.1.1 ok.1.2.1 (gK ok.2.1 ok.2.2.1) (hA.one hh) 0 t rfl ht hin d (kk ok H locs ls hA hq hl)
theorem g_alen {a N : Nat} {f : Nat → Int32} (hh : h a = some (gIA X N f)) (d : decode cc pc = .ok (.arraylength, 1)) (kk : G X F cc nL own R k n (pc + 1) lv (.int (nI N) :: st) h z) : G X F cc nL own R k n pc lv (.ref a :: st) h z := by
  obtain ⟨p, e, Rm, s, m, args, below, meth, c, Q⟩ := F
  intro ok H locs ls hA hq hl
  exact va_alen ok.1.1 ok.1.2.1 (gK ok.2.1 ok.2.2.1) (hA.one hh) 0 0 rfl rfl rfl d (kk ok H locs ls hA hq hl)
theorem g_iast {a N : Nat} {f : Nat → Int32} {i x : Int32} (hh : h a = some (gIA X N f)) (hin : vp_in i N) (d : decode cc pc = .ok (.iastore, 1)) (kk : G X F cc nL own R k n (pc + 1) lv st (gset h a (gIA X N (upd f i.toNatClampNeg x))) z) : G X F cc nL own R k n pc lv (.int x :: .int i :: .ref a :: st) h z := by
  obtain ⟨p, e, Rm, s, m, args, below, meth, c, Q⟩ := F
  intro ok H locs ls hA hq hl
  have hK := gK ok.2.1 ok.2.2.1
  refine W.iast ok.1.1 ok.1.2.1 (hA.one hh 0 _ rfl) ((hK.2 0 _ rfl).1 N (fun j => .int (f j))) (fun q => by cases q) (by show ¬ (i < 0 ∨ (arrV _ _ _).slots.size ≤ _); rw [arrV_size]; exact hin) rfl rfl d fun H1 e1 z1 oq => ?_
  refine kk ok H1 _ ls (hA.put hh z1 oq ?_) (gloc hA hh hq _) hl
  show H1[a]? = some (vp_cell _ _)
  rw [e1]
  rw [vp_cell_i, vp_cell_i, arrV_store]
  congr 2
  funext q
  by_cases hq : q = i.toNatClampNeg
  · subst hq
    simp [updV, upd]
  · simp [updV, upd, hq]
theorem g_last {a N : Nat} {f : Nat → Int64} {i : Int32} {x : Int64} (hh : h a = some (gJA X N f)) (hin : vp_in i N) (d : decode cc pc = .ok (.lastore, 1)) (kk : G X F cc nL own R k n (pc + 1) lv st (gset h a (gJA X N (vp_updL f i.toNatClampNeg x))) z) : G X F cc nL own R k n pc lv (.long x :: .int i :: .ref a :: st) h z := by
  obtain ⟨p, e, Rm, s, m, args, below, meth, c, Q⟩ := F
  intro ok H locs ls hA hq hl
  have hK := gK ok.2.1 ok.2.2.1
  refine W.last ok.1.1 ok.1.2.1 (hA.one hh 0 _ rfl) ((hK.2 1 _ rfl).1 N (fun j => .long (f j))) (fun q => by cases q) (by show ¬ (i < 0 ∨ (arrV _ _ _).slots.size ≤ _); rw [arrV_size]; exact hin) rfl rfl d fun H1 e1 z1 oq => ?_
  refine kk ok H1 _ ls (hA.put hh z1 oq ?_) (gloc hA hh hq _) hl
  show H1[a]? = some (vp_cell _ _)
  rw [e1]
  rw [vp_cell_l, vp_cell_l, arrV_store]
  congr 2
  funext q
  by_cases hq : q = i.toNatClampNeg
  · subst hq
    simp [updV, vp_updL]
  · simp [updV, vp_updL, hq]
/-- a tracked object into an array of its class -/
theorem g_aast {t a N v ci : Nat} {f : Nat → Option Nat} {i : Int32} {vs : List Value} {r : vw_C} (hh : h a = some (gRA X t N f)) (ht : (gT X)[t]? = some (X.2.2.1 t, .object r.1)) (hv : h v = some (.inr (ci, vs))) (hc : vwCl[ci]? = some r) (hin : vp_in i N) (d : decode cc pc = .ok (.aastore, 1)) (kk : G X F cc nL own R k n (pc + 1) lv st (gset h a (gRA X t N (va_up f i.toNatClampNeg (some v)))) z) : G X F cc nL own R k n pc lv (.ref v :: .int i :: .ref a :: st) h z := by
  obtain ⟨p, e, Rm, s, m, args, below, meth, c, Q⟩ := F
  intro ok H locs ls hA hq hl
  have hK := gK ok.2.1 ok.2.2.1
  have hlt : i.toNatClampNeg < N := Nat.not_le.mp fun q => hin (Or.inr q)
  have h0 : ¬ i < 0 := fun q => hin (Or.inl q)
  obtain ⟨r', hr', cellV, g1, g2, g3, -⟩ := (hA.2.2.2 v _ hv).2
  have hcls := (hK.1 ci r hc).2
  obtain ⟨kA, comp, k1, k2, k3, -⟩ := (hK.2 t _ ht).2
  have hcomp : comp = X.2.1.1 ci := Option.some.inj (k3.symm.trans hcls.1)
  subst hcomp
  obtain ⟨kC, hkC, -⟩ := hcls.2
  refine W.aast ok.1.1 ok.1.2.1 (hA.one hh 0 _ rfl) (fun q h => by cases h) (fun h => by cases h) k1 k2 rfl hkC ⟨h0, by show _ < (arrV _ _ _).slots.size; rw [arrV_size]; exact hlt⟩ g1 (fun q h => by rw [g3] at h; cases h) (by rw [g2]; exact hkC) (by rw [g2]; exact va_assign hcls) rfl rfl d fun H1 e1 z1 oq => ?_
  refine kk ok H1 _ ls (hA.put hh z1 oq ?_) (gloc hA hh hq _) hl
  show H1[a]? = some (vp_cell _ _)
  rw [e1]
  rw [vp_cell_q, vp_cell_q, arrV_store]
  congr 2
  funext q
  by_cases hq : q = i.toNatClampNeg
  · subst hq
    simp [updV, va_up, va_rf]
  · simp [updV, va_up, hq]
/-- a new object: at the next address -/
theorem g_new {idx ci : Nat} {C : String} {T : u_T} {N : Nat} {ty : Nat → FieldType} (fs : List Value) (cl : gCl ci C T N ty) (w1 : Cond.classLink own idx C ∈ lw_tbl) (w2 : Cond.instantiable C N ∈ lw_tbl) (w3 : Cond.initialized C ∈ lw_tbl) (hfs : ∀ j, j < N → defaultValue (ty j) = vp_V fs j) (hk : k + 1 ≤ R.2.1) (hn : n + N ≤ R.2.2) (d : decode cc pc = .ok (.new idx, 3)) (kk : G X F cc nL own R (k + 1) (n + N) (pc + 3) lv (.ref z :: st) (gset h z (.inr (ci, fs))) (z + 1)) : G X F cc nL own R k n pc lv st h z := by
  obtain ⟨p, e, Rm, s, m, args, below, meth, c, Q⟩ := F
  intro ok H locs ls hA hq hl
  obtain ⟨f1, f2, f3, f4⟩ := cl
  have hK := gK ok.2.1 ok.2.2.1
  have hKn := hK.1 ci _ f1
  have hts : ∀ w ∈ u_ws C T N, w.before args s = true := fun w hw => gword ok.2.1 ok.2.2.1 (f2 w hw) (u_good hw) args
  refine W.newcK ok.1.1 ok.1.2.1 ok.1.2.2.2 (gword ok.2.1 ok.2.2.1 w1 rfl args) (gword ok.2.1 ok.2.2.1 w2 rfl args) (gword ok.2.1 ok.2.2.1 w3 rfl args) rfl d (Nat.le_trans hk ok.2.2.2.2.1) (Nat.le_trans hn ok.2.2.2.2.2.1) hKn.2.1 hA.1 fun H1 kC hkC e1 z1 o1 => ?_
  exact kk ok H1 locs ls (hA.new z1 o1 ⟨_, f1, (u_born ty hts (fun _ q => q) hKn hkC e1 f3).to hfs⟩) hq hl
theorem g_newI {N : Nat} (w1 : Cond.arrayClass .int ∈ lw_tbl) (hN : N < 2 ^ 20) (hk : k + 1 ≤ R.2.1) (hn : n + N ≤ R.2.2) (d : decode cc pc = .ok (.newarray .int, 2)) (kk : G X F cc nL own R (k + 1) (n + N) (pc + 2) lv (.ref z :: st) (gset h z (gIA X N (fun _ => 0))) (z + 1)) : G X F cc nL own R k n pc lv (.int (nI N) :: st) h z := by
  obtain ⟨p, e, Rm, s, m, args, below, meth, c, Q⟩ := F
  intro ok H locs ls hA hq hl
  have hK := gK ok.2.1 ok.2.2.1
  have hc : (nI N).toNatClampNeg = N := nI_clamp (by omega)
  refine va_newaK (atype := .int) ok.1.1 ok.1.2.1 (gword ok.2.1 ok.2.2.1 w1 rfl args) rfl d rfl (nI_pos (by omega)) hc (by show N * 4 ≤ 536870912; omega) (Nat.le_trans hk ok.2.2.2.2.1) (Nat.le_trans hn ok.2.2.2.2.2.1) hA.1 fun H1 cA e1 z1 o1 hAr hNm => ?_
  have h2 : s.vm.findClass ("[" ++ (FieldType.int).toString) = some (X.2.2.1 0) := (hK.2 0 _ rfl).2
  have h3 : cA = X.2.2.1 0 := Option.some.inj (hNm.symm.trans h2)
  subst h3
  exact kk ok H1 locs ls (hA.new z1 o1 (show H1[z]? = some (vp_cell _ _) from e1)) hq hl
theorem g_newJ {N : Nat} (w1 : Cond.arrayClass .long ∈ lw_tbl) (hN : N < 2 ^ 20) (hk : k + 1 ≤ R.2.1) (hn : n + N ≤ R.2.2) (d : decode cc pc = .ok (.newarray .long, 2)) (kk : G X F cc nL own R (k + 1) (n + N) (pc + 2) lv (.ref z :: st) (gset h z (gJA X N (fun _ => 0))) (z + 1)) : G X F cc nL own R k n pc lv (.int (nI N) :: st) h z := by
  obtain ⟨p, e, Rm, s, m, args, below, meth, c, Q⟩ := F
  intro ok H locs ls hA hq hl
  have hK := gK ok.2.1 ok.2.2.1
  have hc : (nI N).toNatClampNeg = N := nI_clamp (by omega)
  refine va_newaK (atype := .long) ok.1.1 ok.1.2.1 (gword ok.2.1 ok.2.2.1 w1 rfl args) rfl d rfl (nI_pos (by omega)) hc (by show N * 8 ≤ 536870912; omega) (Nat.le_trans hk ok.2.2.2.2.1) (Nat.le_trans hn ok.2.2.2.2.2.1) hA.1 fun H1 cA e1 z1 o1 hAr hNm => ?_
  have h2 : s.vm.findClass ("[" ++ (FieldType.long).toString) = some (X.2.2.1 1) := (hK.2 1 _ rfl).2
  have h3 : cA = X.2.2.1 1 := Option.some.inj (hNm.symm.trans h2)
  subst h3
  exact kk ok H1 locs ls (hA.new z1 o1 (show H1[z]? = some (vp_cell _ _) from e1)) hq hl
end GA
/-! ### contracts -/
def gRoom (R : Nat × Nat × Nat) : Room := { frames := R.1, cells := R.2.1, slots := R.2.2, locals := 41 * R.1 }
def gPc (X : gX) (av : List Value) (h : gH) (z : Nat) : Array Value → State → Prop := fun v U => v = av.toArray ∧ gAbs X h z U.heap ∧ gXok X ∧ X.1.WarmedH U.vm
def gQc (X : gX) (post : Option Value → gH → Nat → Prop) : Array Value → State → Outcome → State → Prop := fun _ _ o t => ∃ v h' z', o = .returned v ∧ gAbs X h' z' t.heap ∧ post v h' z'
def gXC (X : gX) (px : String → gH → Nat → Prop) : String → State → State → Prop := fun E _ t => ∃ h' z', gAbs X h' z' t.heap ∧ px E h' z'
def gFree (X : gX) : Addr → Prop := fun q => X.1.heap.size ≤ q
theorem gPc_blind (X : gX) (av : List Value) (h : gH) (z : Nat) : FrameBlind (gPc X av h z) := fun _ _ _ _ q => q
/-- from the heap h, with the arguments av, method y comes back with post, or throws with px -/
def gM (X : gX) (y : MethodName) (cc : ByteArray) (nL : Nat) (ret : Option FieldType) (R : Nat × Nat × Nat) (av : List Value) (h : gH) (z : Nat) (post : Option Value → gH → Nat → Prop) (px : String → gH → Nat → Prop) : Prop :=
  vx_Met X.2.2.2 y [Cond.code y cc nL ret] (gRoom R) (gPc X av h z) (gQc X post) (gXC X px) R.2.1 R.2.2 (gFree X)
/-- a constructor: it does not throw -/
def gMc (X : gX) (y : MethodName) (cc : ByteArray) (nL : Nat) (R : Nat × Nat × Nat) (av : List Value) (h : gH) (z : Nat) (post : Option Value → gH → Nat → Prop) : Prop :=
  Met X.2.2.2 y [Cond.code y cc nL none] (gRoom R) (gPc X av h z) (gQc X post) R.2.1 R.2.2 (gFree X)
def gLv (av : List Value) (nL : Nat) : List (Option Value) :=
  let l := av.flatMap fun v => if v.category = 2 then [some v, none] else [some v]
  l ++ List.replicate (nL - l.length) none
theorem gLv_in : ∀ (vs : List Value) (o i : Nat) (v : Value), (vs.flatMap fun v => if v.category = 2 then [some v, none] else [some v])[i]? = some (some v) → (o + i, v) ∈ lv_args o vs := by
  intro vs
  induction vs with
  | nil => intro o i v h; simp at h
  | cons w vs ih =>
    intro o i v h
    rw [List.flatMap_cons] at h
    unfold lv_args
    by_cases hc : w.category = 2
    · rw [if_pos hc] at h ⊢
      match i, h with
      | 0, h => simp at h; subst h; exact List.mem_cons_self
      | 1, h => simp at h
      | i + 2, h =>
        refine List.mem_cons_of_mem _ ?_
        have := ih (o + 2) i v (by simpa using h)
        rwa [show o + 2 + i = o + (i + 2) by omega] at this
    · rw [if_neg hc] at h ⊢
      match i, h with
      | 0, h => simp at h; subst h; exact List.mem_cons_self
      | i + 1, h =>
        refine List.mem_cons_of_mem _ ?_
        have := ih (o + 1) i v (by simpa using h)
        rwa [show o + 1 + i = o + (i + 1) by omega] at this
theorem gLv_ok {av : List Value} {nL : Nat} {ls : Array Slot} (h : lv_has ls nL (lv_args 0 av)) : gL ls nL (gLv av nL) := by
  refine ⟨h.1, h.2.1, fun i v hi => ?_⟩
  unfold gLv at hi
  dsimp only at hi
  by_cases hl : i < (av.flatMap fun v => if v.category = 2 then [some v, none] else [some v]).length
  · rw [List.getElem?_append_left hl] at hi
    have := gLv_in av 0 i v hi
    rw [Nat.zero_add] at this
    exact h.2.2 (i, v) this
  · rw [List.getElem?_append_right (by omega)] at hi
    rw [List.getElem?_replicate] at hi
    split at hi <;> cases hi
/-- F ends as the contract asks -/
def gEnd (X : gX) (F : gF) (ret : Option FieldType) (R : Nat × Nat × Nat) (post : Option Value → gH → Nat → Prop) (px : String → gH → Nat → Prop) : Prop := match F with
  | (_, _, _, s, _, args, below, meth, c, Q) => Q = vx_MQ below (gQc X post) (gXC X px) args s R.2.1 R.2.2 (gFree X) ∧ meth.sig.returnType = ret ∧ meth.locks = false ∧ ∀ x ∈ c.exceptionTable.toList, False
def gEndc (X : gX) (F : gF) (R : Nat × Nat × Nat) (post : Option Value → gH → Nat → Prop) : Prop := match F with
  | (_, _, _, s, _, args, below, meth, _, Q) => Q = MQ below (gQc X post) args s R.2.1 R.2.2 (gFree X) ∧ meth.sig.returnType = none ∧ meth.locks = false ∧ meth.name = "<init>"
theorem gM.of {X : gX} {y : MethodName} {cc : ByteArray} {nL : Nat} {ret : Option FieldType} {R : Nat × Nat × Nat} {av : List Value} {h : gH} {z : Nat} {post : Option Value → gH → Nat → Prop} {px : String → gH → Nat → Prop}
    (hy : plainName y.cls = true) (hnl : (lg_sl av).length ≤ nL) (body : ∀ F : gF, gEnd X F ret R post px → G X F cc nL y.cls R 0 0 0 (gLv av nL) [] h z) : gM X y cc nL ret R av h z post px := by
  refine vx_ofW (cc := cc) (maxL := nL) (ret := ret) hy rfl ?_
  intro p e s m args below meth c s₁ B hml hx hP
  obtain ⟨rfl, hA, hX, hW⟩ := hP
  rw [lg_entry_eq]
  exact body (p, e, _, s, m, _, below, meth, c, _) ⟨rfl, B.returns, B.notSynchronized, hx⟩ ⟨⟨B.exec, B.bytes, hml, findClass_of_methodNamed B.named⟩, hX, hW, Nat.le_refl _, Nat.le_refl _, Nat.le_refl _, Nat.le_refl _⟩ s.heap [] _ hA (fun _ q => by cases q) (gLv_ok (lv_entry av hnl))
theorem gMc.of {X : gX} {y : MethodName} {cc : ByteArray} {nL : Nat} {R : Nat × Nat × Nat} {av : List Value} {h : gH} {z : Nat} {post : Option Value → gH → Nat → Prop}
    (hy : plainName y.cls = true) (hyn : y.name = "<init>") (hnl : (lg_sl av).length ≤ nL) (body : ∀ F : gF, gEndc X F R post → gIni F → G X F cc nL y.cls R 0 0 0 (gLv av nL) [] h z) : gMc X y cc nL R av h z post := by
  refine Met.ofW (cc := cc) (maxL := nL) (ret := none) hy rfl ?_
  intro p e s m args below meth c s₁ B hml hP
  obtain ⟨rfl, hA, hX, hW⟩ := hP
  have hin : meth.name = "<init>" := hyn ▸ (name_of_methodNamed B.named B.method).1
  rw [lg_entry_eq]
  exact body (p, e, _, s, m, _, below, meth, c, _) ⟨rfl, B.returns, B.notSynchronized, hin⟩ hin ⟨⟨B.exec, B.bytes, hml, findClass_of_methodNamed B.named⟩, hX, hW, Nat.le_refl _, Nat.le_refl _, Nat.le_refl _, Nat.le_refl _⟩ s.heap [] _ hA (fun _ q => by cases q) (gLv_ok (lv_entry av hnl))
section GE
variable {X : gX} {F : gF} {cc : ByteArray} {nL : Nat} {own : String} {R : Nat × Nat × Nat} {k n pc : Nat} {lv : List (Option Value)} {st : List Value} {h : gH} {z : Nat}
variable {ret : Option FieldType} {post : Option Value → gH → Nat → Prop} {px : String → gH → Nat → Prop}
theorem g_iret {ty : FieldType} {v : Int32} (hE : gEnd X F (some ty) R post px) (hv : narrow ty (.int v) = .int v) (hp : post (some (.int v)) h z) (d : decode cc pc = .ok (.ireturn, 1)) (hk : k ≤ R.2.1 := by exact Nat.zero_le _) (hn : n ≤ R.2.2 := by exact Nat.zero_le _) : G X F cc nL own R k n pc lv [.int v] h z := by
  obtain ⟨p, e, Rm, s, m, args, below, meth, c, Q⟩ := F
  intro ok H locs ls hA hq hl
  obtain ⟨rfl, hr, hlocks, -⟩ := hE
  refine vx_ret ?_
  refine W.widen hk hn ?_
  exact W.zret ok.1.1 ok.1.2.1 hr hv (fun t ht hW => ⟨_, h, z, rfl, by rw [ht]; exact hA, hp⟩) hq d hlocks
theorem g_lret {v : Int64} (hE : gEnd X F (some .long) R post px) (hp : post (some (.long v)) h z) (d : decode cc pc = .ok (.lreturn, 1)) (hk : k ≤ R.2.1 := by exact Nat.zero_le _) (hn : n ≤ R.2.2 := by exact Nat.zero_le _) : G X F cc nL own R k n pc lv [.long v] h z := by
  obtain ⟨p, e, Rm, s, m, args, below, meth, c, Q⟩ := F
  intro ok H locs ls hA hq hl
  obtain ⟨rfl, hr, hlocks, -⟩ := hE
  refine vx_ret ?_
  refine W.widen hk hn ?_
  exact W.lret ok.1.1 ok.1.2.1 hr (fun t ht hW => ⟨_, h, z, rfl, by rw [ht]; exact hA, hp⟩) hq d hlocks
theorem g_dret {v : UInt64} (hE : gEnd X F (some .double) R post px) (hp : post (some (.double v)) h z) (d : decode cc pc = .ok (.dreturn, 1)) (hk : k ≤ R.2.1 := by exact Nat.zero_le _) (hn : n ≤ R.2.2 := by exact Nat.zero_le _) : G X F cc nL own R k n pc lv [.double v] h z := by
  obtain ⟨p, e, Rm, s, m, args, below, meth, c, Q⟩ := F
  intro ok H locs ls hA hq hl
  obtain ⟨rfl, hr, hlocks, -⟩ := hE
  refine vx_ret ?_
  refine W.widen hk hn ?_
  exact W.dret ok.1.1 ok.1.2.1 hr (fun t ht hW => ⟨_, h, z, rfl, by rw [ht]; exact hA, hp⟩) hq d hlocks
theorem g_aret {C : String} {a : Nat} (hE : gEnd X F (some (.object C)) R post px) (hp : post (some (.ref a)) h z) (d : decode cc pc = .ok (.areturn, 1)) (hk : k ≤ R.2.1 := by exact Nat.zero_le _) (hn : n ≤ R.2.2 := by exact Nat.zero_le _) : G X F cc nL own R k n pc lv [.ref a] h z := by
  obtain ⟨p, e, Rm, s, m, args, below, meth, c, Q⟩ := F
  intro ok H locs ls hA hq hl
  obtain ⟨rfl, hr, hlocks, -⟩ := hE
  refine vx_ret ?_
  refine W.widen hk hn ?_
  exact W.aret ok.1.1 ok.1.2.1 hr (Or.inl ⟨_, rfl⟩) (Or.inr ⟨a, rfl⟩) (fun t ht hW => ⟨_, h, z, rfl, by rw [ht]; exact hA, hp⟩) hq d hlocks
theorem g_vret (hE : gEnd X F none R post px) (hp : post none h z) (d : decode cc pc = .ok (.return_, 1)) (hk : k ≤ R.2.1 := by exact Nat.zero_le _) (hn : n ≤ R.2.2 := by exact Nat.zero_le _) : G X F cc nL own R k n pc lv [] h z := by
  obtain ⟨p, e, Rm, s, m, args, below, meth, c, Q⟩ := F
  intro ok H locs ls hA hq hl
  obtain ⟨rfl, hr, hlocks, -⟩ := hE
  refine vx_ret ?_
  refine W.widen hk hn ?_
  exact W.vret ok.1.1 ok.1.2.1 hr (fun t ht hW => ⟨_, h, z, rfl, by rw [ht]; exact hA, hp⟩) hq d hlocks
theorem g_cret (hE : gEndc X F R post) (hp : post none h z) (d : decode cc pc = .ok (.return_, 1)) (hk : k ≤ R.2.1 := by exact Nat.zero_le _) (hn : n ≤ R.2.2 := by exact Nat.zero_le _) : G X F cc nL own R k n pc lv [] h z := by
  obtain ⟨p, e, Rm, s, m, args, below, meth, c, Q⟩ := F
  intro ok H locs ls hA hq hl
  obtain ⟨rfl, hr, hlocks, -⟩ := hE
  refine W.widen hk hn ?_
  exact W.vret ok.1.1 ok.1.2.1 hr (fun t ht hW => ⟨_, h, z, rfl, by rw [ht]; exact hA, hp⟩) hq d hlocks
theorem g_obj {idx : Nat} {a : Nat} (w1 : Cond.methodLink own idx objectInit ∈ lw_tbl) (w2 : Cond.instanceMethod objectInit ∈ lw_tbl) (w3 : Cond.code objectInit ⟨#[0xb1]⟩ 1 none ∈ lw_tbl) (hd : 1 ≤ R.1) (hst : (st.map fun v => v.category).sum ≤ 8) (d : decode cc pc = .ok (.invokespecial idx, 3)) (kk : G X F cc nL own R k n (pc + 3) lv st h z) : G X F cc nL own R k n pc lv (.ref a :: st) h z := by
  obtain ⟨p, e, Rm, s, m, args, below, meth, c, Q⟩ := F
  intro ok H locs ls hA hq hl
  have hR := ok.2.2.2.1
  have hR4 := ok.2.2.2.2.2.2
  refine W.objInit ok.1.1 ok.1.2.1 ok.1.2.2.2 (gword ok.2.1 ok.2.2.1 w1 rfl args) (gword ok.2.1 ok.2.2.1 w2 rfl args) (gword ok.2.1 ok.2.2.1 w3 rfl args) rfl (by rw [ok.1.2.2.1]; exact hl.1) rfl d (by omega) (by show 2 * 0 + _ + 12 ≤ _; omega) (kk ok H locs ls hA hq hl)
theorem gGoodC {y : MethodName} {cc' : ByteArray} {nL' : Nat} {ret' : Option FieldType} (hy : plainName y.cls = true) : goodWord (Cond.code y cc' nL' ret') = true := by
  first | rfl | simp [goodWord, Cond.onTables, Cond.keeps, Cond.steady, hy]
variable {idx nL' na : Nat} {y : MethodName} {cc' : ByteArray} {ret' : Option FieldType} {R' : Nat × Nat × Nat} {As rest : List Value} {b : Nat} {post' : Option Value → gH → Nat → Prop} {px' : String → gH → Nat → Prop}
theorem gcallB {s : State} {args : Array Value} {Rm : Room} (hX : gXok X) (hW : X.1.WarmedH s.vm) (w5 : Cond.code y cc' nL' ret' ∈ lw_tbl) (w1 : (Cond.methodLink own idx y).before args s = true) (w4 : Cond.initialized y.cls ∈ lw_tbl) (hd : y.cls ≠ "java/lang/invoke/MethodHandle" ∧ y.cls ≠ "java/lang/invoke/VarHandle" ∧ (parseMethodDescriptor y.desc).map (fun d => d.parameters.length) = some na) (hnl : nL' ≤ 22) (hR : R'.1 + 1 ≤ R.1) (h1 : R.1 ≤ Rm.frames) (h2 : 41 * R.1 ≤ Rm.locals) : CallB Rm s args own idx y cc' nL' ret' [Cond.code y cc' nL' ret'] (gRoom R') R'.2.1 R'.2.2 na := by
  refine callB_of (Ts := [Cond.code y cc' nL' ret']) (ws' := []) na (fun w hw => ?_) (fun w hw => ⟨hw, ?_⟩) rfl rfl rfl (gword hX hW w4 rfl args) w1 hd ⟨?_, ?_⟩
  · rw [List.mem_singleton.mp hw]; exact gword hX hW w5 rfl args
  · rw [List.mem_singleton.mp hw]; exact Or.inl rfl
  · show R'.1 + 1 ≤ Rm.frames; omega
  · show 8 + (nL' + 11) + 41 * R'.1 ≤ Rm.locals; omega
theorem gPre {s : State} {H : Heap} (hX : gXok X) (hW : X.1.WarmedH s.vm) (hA : gAbs X h z H) {av : List Value} : ∀ U : State, U.heap = H → s.WarmedH U.vm → gPc X av h z av.toArray U := fun U hU hW2 => ⟨rfl, by rw [hU]; exact hA, hX, State.WarmedH.trans hW hW2⟩
/-- what is known behind a call -/
theorem g_callV (kw : gWV own idx y cc' nL' ret' na) (M : gM X y cc' nL' ret' R' (.ref b :: As) h z post' px') {ci N : Nat} {T : u_T} {fs : List Value} (hh : h b = some (.inr (ci, fs))) (hcl : vwCl[ci]? = some (y.cls, T, N)) (hst : st = As.reverse ++ .ref b :: rest) (hna : As.length = na) (hcat : (rest.map fun v => v.category).sum ≤ 8) (hnl : nL' ≤ 22) (hd : R'.1 + 1 ≤ R.1) (hk : k + R'.2.1 ≤ R.2.1) (hn : n + R'.2.2 ≤ R.2.2) (d : decode cc pc = .ok (.invokevirtual idx, 3))
    (kx : ∀ (E : String) (h' : gH) (z' : Nat), px' E h' z' → False) (kk : ∀ (v : Option Value) (h' : gH) (z' : Nat), post' v h' z' → G X F cc nL own R (k + R'.2.1) (n + R'.2.2) (pc + 3) lv (v.toList ++ rest) h' z') : G X F cc nL own R k n pc lv st h z := by
  obtain ⟨p, e, Rm, s, m, args, below, meth, c, Q⟩ := F
  intro ok H locs ls hA hq hl
  have hX := ok.2.1
  have hW := ok.2.2.1
  have hR := ok.2.2.2
  obtain ⟨⟨w1, w2, w3, w4, w5⟩, hy⟩ := kw
  have hrun := vx_runV (p := p) (l := X.2.2.2) (e := e) (R := Rm) (s := s) (m := m) (args := args) (below := below) (meth := meth) (c := c) (H := H) (locs := locs) (cells := k) (slots := n) (C := y.cls) (b := b) (As := As) (rest := rest) (g := F0 m pc ls st) (Ts := []) ⟨ok.1.1, ok.1.2.1, ok.1.2.2.1, ok.1.2.2.2, fun _ q => by cases q⟩ M
    ⟨gcallB (R := R) hX hW w5 (gword hX hW w1 rfl args) w4 hy hnl hd hR.1 hR.2.2.2, gword hX hW w2 rfl args, gword hX hW w3 rfl args⟩
    ⟨gPc_blind X _ h z, va_recv (gK hX hW) (hA.one hh) (ci := ci) (q0 := 0) hcl rfl, gPre hX hW hA⟩ rfl hna hl.1 hst (lv_room hcat) d ⟨Nat.le_trans hk hR.2.1, Nat.le_trans hn hR.2.2.1⟩
  intro T hT S
  rcases hrun T hT S with ⟨v, st₀, t, T', L, e0, S', hL, e1, e2, ⟨v2, h', z', hv, hA', hp⟩, go⟩ | ⟨q, st₀, t, T', L, E, ce, e0, S', hL, e1, e2, ⟨h', z', hA', hp⟩, -⟩
  · cases hv
    obtain ⟨t2, a1, b1⟩ := kk v h' z' hp ok T'.heap (locs ++ L) ls (by rw [e1]; exact hA') (fun q hq1 => (List.mem_append.mp hq1).elim (hq q) (fun h9 => hL q h9)) hl T' rfl S'
    exact ⟨t2, go t2 a1, b1⟩
  · exact (kx E h' z' hp).elim
theorem g_callS (kw : gWs own idx y cc' nL' ret' na) (M : gM X y cc' nL' ret' R' As h z post' px') (hst : st = As.reverse ++ rest) (hna : As.length = na) (hcat : (rest.map fun v => v.category).sum ≤ 8) (hnl : nL' ≤ 22) (hd : R'.1 + 1 ≤ R.1) (hk : k + R'.2.1 ≤ R.2.1) (hn : n + R'.2.2 ≤ R.2.2) (d : decode cc pc = .ok (.invokestatic idx, 3))
    (kx : ∀ (E : String) (h' : gH) (z' : Nat), px' E h' z' → False) (kk : ∀ (v : Option Value) (h' : gH) (z' : Nat), post' v h' z' → G X F cc nL own R (k + R'.2.1) (n + R'.2.2) (pc + 3) lv (v.toList ++ rest) h' z') : G X F cc nL own R k n pc lv st h z := by
  obtain ⟨p, e, Rm, s, m, args, below, meth, c, Q⟩ := F
  intro ok H locs ls hA hq hl
  have hX := ok.2.1
  have hW := ok.2.2.1
  have hR := ok.2.2.2
  obtain ⟨⟨w1, w2, w4, w5⟩, hy⟩ := kw
  have hrun := vx_runS (p := p) (l := X.2.2.2) (e := e) (R := Rm) (s := s) (m := m) (args := args) (below := below) (meth := meth) (c := c) (H := H) (locs := locs) (cells := k) (slots := n) (As := As) (rest := rest) (g := F0 m pc ls st) (Ts := []) ⟨ok.1.1, ok.1.2.1, ok.1.2.2.1, ok.1.2.2.2, fun _ q => by cases q⟩ M
    ⟨gcallB (R := R) hX hW w5 (gword hX hW w1 rfl args) w4 hy hnl hd hR.1 hR.2.2.2, gword hX hW w2 rfl args⟩
    ⟨gPc_blind X _ h z, gPre hX hW hA⟩ rfl hna hl.1 hst (lv_room hcat) d ⟨Nat.le_trans hk hR.2.1, Nat.le_trans hn hR.2.2.1⟩
  intro T hT S
  rcases hrun T hT S with ⟨v, st₀, t, T', L, e0, S', hL, e1, e2, ⟨v2, h', z', hv, hA', hp⟩, go⟩ | ⟨q, st₀, t, T', L, E, ce, e0, S', hL, e1, e2, ⟨h', z', hA', hp⟩, -⟩
  · cases hv
    obtain ⟨t2, a1, b1⟩ := kk v h' z' hp ok T'.heap (locs ++ L) ls (by rw [e1]; exact hA') (fun q hq1 => (List.mem_append.mp hq1).elim (hq q) (fun h9 => hL q h9)) hl T' rfl S'
    exact ⟨t2, go t2 a1, b1⟩
  · exact (kx E h' z' hp).elim
theorem g_callI (kw : gWI own idx y cc' nL' na) (M : gMc X y cc' nL' R' (.ref b :: As) h z post') (hst : st = As.reverse ++ .ref b :: rest) (hna : As.length = na) (hcat : (rest.map fun v => v.category).sum ≤ 8) (hnl : nL' ≤ 22) (hd : R'.1 + 1 ≤ R.1) (hk : k + R'.2.1 ≤ R.2.1) (hn : n + R'.2.2 ≤ R.2.2) (d : decode cc pc = .ok (.invokespecial idx, 3))
    (kk : ∀ (v : Option Value) (h' : gH) (z' : Nat), post' v h' z' → G X F cc nL own R (k + R'.2.1) (n + R'.2.2) (pc + 3) lv (v.toList ++ rest) h' z') : G X F cc nL own R k n pc lv st h z := by
  obtain ⟨p, e, Rm, s, m, args, below, meth, c, Q⟩ := F
  intro ok H locs ls hA hq hl
  have hX := ok.2.1
  have hW := ok.2.2.1
  have hR := ok.2.2.2
  obtain ⟨⟨w1, w2, w4, w5⟩, hy1, hy⟩ := kw
  have hrun := va_runI (p := p) (l := X.2.2.2) (e := e) (R := Rm) (s := s) (m := m) (args := args) (below := below) (meth := meth) (c := c) (H := H) (locs := locs) (cells := k) (slots := n) (b := b) (As := As) (rest := rest) (g := F0 m pc ls st) (Ts := []) ⟨ok.1.1, ok.1.2.1, ok.1.2.2.1, ok.1.2.2.2, fun _ q => by cases q⟩ M
    ⟨gcallB (R := R) hX hW w5 (gword hX hW w1 rfl args) w4 hy hnl hd hR.1 hR.2.2.2, hy1, gword hX hW w2 rfl args⟩
    ⟨gPc_blind X _ h z, gPre hX hW hA⟩ rfl hna hl.1 hst (lv_room hcat) d ⟨Nat.le_trans hk hR.2.1, Nat.le_trans hn hR.2.2.1⟩
  intro T hT S
  obtain ⟨v, st₀, t, T', L, e0, S', hL, e1, e2, ⟨v2, h', z', hv, hA', hp⟩, go⟩ := hrun T hT S
  cases hv
  obtain ⟨t2, a1, b1⟩ := kk v h' z' hp ok T'.heap (locs ++ L) ls (by rw [e1]; exact hA') (fun q hq1 => (List.mem_append.mp hq1).elim (hq q) (fun h9 => hL q h9)) hl T' rfl S'
  exact ⟨t2, go t2 a1, b1⟩
theorem g_callN {host : String} (kw : gWN own idx y host cc' nL' na) (M : gMc X y cc' nL' R' (.ref b :: As) h z post') (hst : st = As.reverse ++ .ref b :: rest) (hna : As.length = na) (hcat : (rest.map fun v => v.category).sum ≤ 8) (hnl : nL' ≤ 22) (hd : R'.1 + 1 ≤ R.1) (hk : k + R'.2.1 ≤ R.2.1) (hn : n + R'.2.2 ≤ R.2.2) (d : decode cc pc = .ok (.invokespecial idx, 3))
    (kk : ∀ (v : Option Value) (h' : gH) (z' : Nat), post' v h' z' → G X F cc nL own R (k + R'.2.1) (n + R'.2.2) (pc + 3) lv (v.toList ++ rest) h' z') : G X F cc nL own R k n pc lv st h z := by
  obtain ⟨p, e, Rm, s, m, args, below, meth, c, Q⟩ := F
  intro ok H locs ls hA hq hl
  have hX := ok.2.1
  have hW := ok.2.2.1
  have hR := ok.2.2.2
  obtain ⟨⟨w1, w2, w4, w5⟩, hy1, hy⟩ := kw
  have hcb : va_CN Rm s args own idx y host cc' nL' none [Cond.code y cc' nL' none] (gRoom R') R'.2.1 R'.2.2 na := by
    refine va_cnB (Ts := [Cond.code y cc' nL' none]) (ws' := []) na (fun w hw => ?_) (fun w hw => ⟨hw, ?_⟩) rfl rfl rfl (gnestM hX hW w1) (gword hX hW w4 rfl args) hy ⟨?_, ?_⟩
    · rw [List.mem_singleton.mp hw]; exact gword hX hW w5 rfl args
    · rw [List.mem_singleton.mp hw]; exact Or.inl rfl
    · have := hR.1; show R'.1 + 1 ≤ Rm.frames; omega
    · have := hR.2.2.2; show 8 + (nL' + 11) + 41 * R'.1 ≤ Rm.locals; omega
  have hrun := va_runIN (p := p) (l := X.2.2.2) (e := e) (R := Rm) (s := s) (m := m) (args := args) (below := below) (meth := meth) (c := c) (H := H) (locs := locs) (cells := k) (slots := n) (b := b) (As := As) (rest := rest) (g := F0 m pc ls st) (Ts := []) ⟨ok.1.1, ok.1.2.1, ok.1.2.2.1, ok.1.2.2.2, fun _ q => by cases q⟩ M
    ⟨hcb, hy1, gword hX hW w2 rfl args⟩
    ⟨gPc_blind X _ h z, gPre hX hW hA⟩ rfl hna hl.1 hst (lv_room hcat) d ⟨Nat.le_trans hk hR.2.1, Nat.le_trans hn hR.2.2.1⟩
  intro T hT S
  obtain ⟨v, st₀, t, T', L, e0, S', hL, e1, e2, ⟨v2, h', z', hv, hA', hp⟩, go⟩ := hrun T hT S
  cases hv
  obtain ⟨t2, a1, b1⟩ := kk v h' z' hp ok T'.heap (locs ++ L) ls (by rw [e1]; exact hA') (fun q hq1 => (List.mem_append.mp hq1).elim (hq q) (fun h9 => hL q h9)) hl T' rfl S'
  exact ⟨t2, go t2 a1, b1⟩
end GE
