/-! The layer that the walks of this claim stand on: an abstract heap (what each tracked address holds), one judgement G that bundles a frame's facts, rows an instruction over it. -/
abbrev gH : Type := Nat → Option va_E
def gset (h : gH) (a : Nat) (e : va_E) : gH := fun q => if q = a then some e else h q
theorem gset_same {h : gH} {a : Nat} {e : va_E} : gset h a e a = some e := if_pos rfl
theorem gset_ne {h : gH} {a b : Nat} {e : va_E} (n : b ≠ a) : gset h a e b = h b := if_neg n
theorem gset_gset {h : gH} {a : Nat} {e e' : va_E} : gset (gset h a e) a e' = gset h a e' := by
  funext q
  unfold gset
  by_cases hq : q = a <;> simp [hq]
theorem gset_self {h : gH} {a : Nat} {e : va_E} (hh : h a = some e) : gset h a e = h := by
  funext q
  unfold gset
  by_cases hq : q = a
  · subst hq; rw [if_pos rfl, hh]
  · rw [if_neg hq]
/-- the fixed part: the start, the class numbers, the array classes, the launch -/
abbrev gX : Type := State × va_G × (Nat → ClassId) × Launch
abbrev gT (X : gX) : List (ClassId × FieldType) := [(X.2.2.1 0, .int), (X.2.2.1 1, .long), (X.2.2.1 2, .object "ParrotSquawks$Token"), (X.2.2.1 3, .object "ParrotSquawks$Word"), (X.2.2.1 4, .object "ParrotSquawks$Order")]
def gAbs (X : gX) (h : gH) (z : Nat) (H : Heap) : Prop := H.size = z ∧ X.1.heap.size ≤ z ∧ (∀ q, q < X.1.heap.size → H[q]? = X.1.heap[q]?) ∧ ∀ q e, h q = some e → X.1.heap.size ≤ q ∧ va_at X.2.1 vwCl (q, e) H
theorem gAbs.one {X : gX} {h : gH} {z : Nat} {H : Heap} (hA : gAbs X h z H) {a : Nat} {e : va_E} (hh : h a = some e) : va_P X.2.1 vwCl [(a, e)] H := by
  intro k q hk
  have hz : k < 1 := (List.getElem?_eq_some_iff.mp hk).1
  rw [show k = 0 by omega] at hk
  cases hk
  exact (hA.2.2.2 a e hh).2
theorem gAbs.lt {X : gX} {h : gH} {z : Nat} {H : Heap} (hA : gAbs X h z H) {a : Nat} {e : va_E} (hh : h a = some e) : a < z := by
  have := (hA.2.2.2 a e hh).2.lt
  rw [← hA.1]; exact this
theorem gAbs.put {X : gX} {h : gH} {z : Nat} {H H1 : Heap} (hA : gAbs X h z H) {a : Nat} {e e' : va_E} (hh : h a = some e) (hz : H1.size = H.size) (oq : ∀ q : Nat, q ≠ a → H1[q]? = H[q]?) (hat : va_at X.2.1 vwCl (a, e') H1) : gAbs X (gset h a e') z H1 := by
  obtain ⟨h1, h2, h3, h4⟩ := hA
  have hb := (h4 a e hh).1
  refine ⟨hz.trans h1, h2, fun q hq => (oq q (by omega)).trans (h3 q hq), fun q e2 h5 => ?_⟩
  unfold gset at h5
  by_cases hq : q = a
  · subst hq
    rw [if_pos rfl] at h5
    cases h5
    exact ⟨hb, hat⟩
  · rw [if_neg hq] at h5
    exact ⟨(h4 q e2 h5).1, (h4 q e2 h5).2.kept (oq q hq)⟩
theorem gAbs.new {X : gX} {h : gH} {z : Nat} {H H1 : Heap} (hA : gAbs X h z H) {e : va_E} (hz : H1.size = z + 1) (oq : ∀ q : Nat, q < z → H1[q]? = H[q]?) (hat : va_at X.2.1 vwCl (z, e) H1) : gAbs X (gset h z e) (z + 1) H1 := by
  have hA' := hA
  obtain ⟨h1, h2, h3, h4⟩ := hA
  refine ⟨hz, by omega, fun q hq => (oq q (by omega)).trans (h3 q hq), fun q e2 h5 => ?_⟩
  unfold gset at h5
  by_cases hq : q = z
  · subst hq
    rw [if_pos rfl] at h5
    cases h5
    exact ⟨h2, hat⟩
  · rw [if_neg hq] at h5
    exact ⟨(h4 q e2 h5).1, (h4 q e2 h5).2.kept (oq q (hA'.lt h5))⟩
/-- more cells that nobody looks at -/
theorem gAbs.grow {X : gX} {h : gH} {z : Nat} {H H1 : Heap} (hA : gAbs X h z H) (hz : H.size ≤ H1.size) (oq : ∀ q : Nat, q < H.size → H1[q]? = H[q]?) : gAbs X h H1.size H1 := by
  have hA' := hA
  obtain ⟨h1, h2, h3, h4⟩ := hA
  exact ⟨rfl, by omega, fun q hq => (oq q (by omega)).trans (h3 q hq), fun q e2 h5 => ⟨(h4 q e2 h5).1, (h4 q e2 h5).2.kept (oq q (by have := hA'.lt h5; omega))⟩⟩
/-- the locals as a list by number -/
def gL (ls : Array Slot) (nL : Nat) (lv : List (Option Value)) : Prop := ls.size = nL ∧ lv_wf ls ∧ ∀ (i : Nat) (v : Value), lv[i]? = some (some v) → ls[i]? = some (Slot.val v)
theorem gL.at {ls : Array Slot} {nL : Nat} {lv : List (Option Value)} (h : gL ls nL lv) {i : Nat} {v : Value} (hk : lv[i]? = some (some v)) : ls[i]? = some (Slot.val v) := h.2.2 i v hk
/-- a store at i does not cut a long in two -/
def gok (lv : List (Option Value)) (i : Nat) : Bool := match i with
  | 0 => true
  | j + 1 => match lv[j]? with
    | some (some v) => !(v.category == 2)
    | _ => true
theorem gok_spec {lv : List (Option Value)} {i j : Nat} {v : Value} (h : gok lv i = true) (e : i = j + 1) (hv : lv[j]? = some (some v)) : (v.category == 2) = false := by
  subst e
  unfold gok at h
  simp only [hv, Bool.not_eq_true'] at h
  exact h
def ga (lv : List (Option Value)) : List (Nat × Value) := (List.range lv.length).filterMap (fun i => match lv[i]? with
  | some (some v) => some (i, v)
  | _ => none)
theorem ga_mem {lv : List (Option Value)} {i : Nat} {v : Value} : (i, v) ∈ ga lv ↔ lv[i]? = some (some v) := by
  unfold ga
  rw [List.mem_filterMap]
  constructor
  · rintro ⟨j, -, hj⟩
    cases h : lv[j]? with
    | none => rw [h] at hj; cases hj
    | some o =>
      cases o with
      | none => rw [h] at hj; cases hj
      | some w => rw [h] at hj; cases hj; exact h
  · intro h
    refine ⟨i, ?_, by rw [h]⟩
    rw [List.mem_range]
    exact (List.getElem?_eq_some_iff.mp h).1
theorem gL.has {ls : Array Slot} {nL : Nat} {lv : List (Option Value)} (h : gL ls nL lv) : lv_has ls nL (ga lv) := ⟨h.1, h.2.1, fun q hq => h.2.2 q.1 q.2 (ga_mem.mp hq)⟩
theorem gL.set1 {ls : Array Slot} {nL i : Nat} {x : Value} {lv : List (Option Value)} (h : lv_has ls nL ((i, x) :: (ga lv).filter (fun q => !(q.1 == i) && !(q.1 + 1 == i && q.2.category == 2)))) (hok : gok lv i = true) : gL ls nL (lv.set i (some x)) := by
  refine ⟨h.1, h.2.1, fun j v hj => ?_⟩
  by_cases e : j = i
  · subst e
    by_cases hl : j < lv.length
    · rw [List.getElem?_set_self hl] at hj
      cases hj
      exact h.2.2 (j, x) List.mem_cons_self
    · rw [List.getElem?_eq_none (by simpa using hl)] at hj
      cases hj
  · rw [List.getElem?_set_ne (fun q => e q.symm)] at hj
    refine h.2.2 (j, v) (List.mem_cons_of_mem _ (List.mem_filter.mpr ⟨ga_mem.mpr hj, ?_⟩))
    have h1 : (j == i) = false := by simpa using e
    by_cases e2 : i = j + 1
    · have := gok_spec hok e2 hj
      simp [h1, this]
    · have : (j + 1 == i) = false := by simpa using fun q => e2 q.symm
      simp [h1, this]
theorem gL.set2 {ls : Array Slot} {nL i : Nat} {x : Value} {lv : List (Option Value)} (h : lv_has ls nL ((i, x) :: (ga lv).filter (fun q => !(q.1 == i) && (!(q.1 == i + 1) && !(q.1 + 1 == i && q.2.category == 2))))) (hok : gok lv i = true) : gL ls nL ((lv.set i (some x)).set (i + 1) none) := by
  refine ⟨h.1, h.2.1, fun j v hj => ?_⟩
  by_cases e0 : j = i + 1
  · subst e0
    by_cases hl : i + 1 < (lv.set i (some x)).length
    · rw [List.getElem?_set_self hl] at hj
      cases hj
    · rw [List.getElem?_eq_none (by simpa using hl)] at hj
      cases hj
  rw [List.getElem?_set_ne (fun q => e0 q.symm)] at hj
  by_cases e : j = i
  · subst e
    by_cases hl : j < lv.length
    · rw [List.getElem?_set_self hl] at hj
      cases hj
      exact h.2.2 (j, x) List.mem_cons_self
    · rw [List.getElem?_eq_none (by simpa using hl)] at hj
      cases hj
  · rw [List.getElem?_set_ne (fun q => e q.symm)] at hj
    refine h.2.2 (j, v) (List.mem_cons_of_mem _ (List.mem_filter.mpr ⟨ga_mem.mpr hj, ?_⟩))
    have h1 : (j == i) = false := by simpa using e
    have h0 : (j == i + 1) = false := by simpa using e0
    by_cases e2 : i = j + 1
    · have := gok_spec hok e2 hj
      simp [h1, h0, this]
    · have : (j + 1 == i) = false := by simpa using fun q => e2 q.symm
      simp [h1, h0, this]
def gXok (X : gX) : Prop := (∃ A0 : Array Value, ∀ w ∈ lw_tbl, w.before A0 X.1 = true) ∧ va_K X.2.1 vwCl (gT X) X.1
theorem gword {X : gX} (hX : gXok X) {s : State} (hW : X.1.WarmedH s.vm) {w : Cond} (hw : w ∈ lw_tbl) (hg : goodWord w = true) (args : Array Value) : w.before args s = true := by
  obtain ⟨⟨A0, h0⟩, -⟩ := hX
  exact word_at hW (good_of_word hg) (h0 w hw)
theorem gK {X : gX} (hX : gXok X) {s : State} (hW : X.1.WarmedH s.vm) : va_K X.2.1 vwCl (gT X) s := va_K.moved hW.alike hX.2
theorem gnestF {X : gX} (hX : gXok X) {s : State} (hW : X.1.WarmedH s.vm) {a : String} {i : Nat} {b n d h : String} (hw : Cond.fieldLinkNest a i b n d h ∈ lw_tbl) (args : Array Value) : (Cond.fieldLinkNest a i b n d h).before args s = true := by
  obtain ⟨⟨A0, h0⟩, -⟩ := hX
  exact va_Nw.use rfl (va_Nw.warmF hW (va_Nw.of rfl (h0 _ hw)))
theorem gnestM {X : gX} (hX : gXok X) {s : State} (hW : X.1.WarmedH s.vm) {a : String} {i : Nat} {y : MethodName} {h : String} (hw : Cond.methodLinkNest a i y h ∈ lw_tbl) : va_Nw (Cond.methodLinkNest a i y h) s := by
  obtain ⟨⟨A0, h0⟩, -⟩ := hX
  exact va_Nw.warmM hW (va_Nw.of rfl (h0 _ hw))
theorem u_good {C : String} {T : u_T} {N : Nat} {w : Cond} (h : w ∈ u_ws C T N) : goodWord w = true := by
  unfold u_ws at h
  obtain ⟨k, -, rfl⟩ := List.mem_map.mp h
  unfold u_lay
  split <;> rfl
/-- a frame: program, environment, room, start of the method, its number, its arguments, the frames below, the method, its code, the end -/
abbrev gF : Type := Program × Env × Room × State × MethodId × Array Value × List Frame × Method × Code × (State → Prop)
def gFok (X : gX) (p : Program) (Rm : Room) (s : State) (m : MethodId) (args : Array Value) (c : Code) (cc : ByteArray) (nL : Nat) (own : String) (R : Nat × Nat × Nat) : Prop :=
  (p.tables.exec = Jvm.exec ∧ c.code = cc ∧ c.maxLocals = nL ∧ s.vm.findClass own = some m.cls) ∧ gXok X ∧ X.1.WarmedH s.vm ∧ R.1 ≤ Rm.frames ∧ R.2.1 ≤ Rm.cells ∧ R.2.2 ≤ Rm.slots ∧ 41 * R.1 ≤ Rm.locals
/-- from this point of the method, with the abstract heap h, the next address z, k cells and n slots made: the machine comes to the end that F asks -/
def G (X : gX) (F : gF) (cc : ByteArray) (nL : Nat) (own : String) (R : Nat × Nat × Nat) (k n pc : Nat) (lv : List (Option Value)) (st : List Value) (h : gH) (z : Nat) : Prop :=
  match F with
  | (p, e, Rm, s, m, args, below, meth, c, Q) => gFok X p Rm s m args c cc nL own R → ∀ (H : Heap) (locs : List Loc) (ls : Array Slot), gAbs X h z H → (∀ q ∈ locs, X.1.heap.size ≤ q.base) → gL ls nL lv → W p X.2.2.2 e Rm s m args below meth c H locs k n Q (F0 m pc ls st)
section GR
variable {X : gX} {F : gF} {cc : ByteArray} {nL : Nat} {own : String} {R : Nat × Nat × Nat} {k n pc : Nat} {lv : List (Option Value)} {st : List Value} {h : gH} {z : Nat}
theorem g_iconst {i : Int} (v : Int32) (d : decode cc pc = .ok (.iconst i, 1)) (hv : Int32.ofInt i = v) (kk : G X F cc nL own R k n (pc + 1) lv (.int v :: st) h z) : G X F cc nL own R k n pc lv st h z := by
  obtain ⟨p, e, Rm, s, m, args, below, meth, c, Q⟩ := F
  intro ok H locs ls hA hq hl
  exact lv_iconst ok.1.1 ok.1.2.1 d hv (kk ok H locs ls hA hq hl)
theorem g_bipush {i : Int} (v : Int32) (d : decode cc pc = .ok (.bipush i, 2)) (hv : (Int8.ofInt i).toInt32 = v) (kk : G X F cc nL own R k n (pc + 2) lv (.int v :: st) h z) : G X F cc nL own R k n pc lv st h z := by
  obtain ⟨p, e, Rm, s, m, args, below, meth, c, Q⟩ := F
  intro ok H locs ls hA hq hl
  exact lv_bipush ok.1.1 ok.1.2.1 d hv (kk ok H locs ls hA hq hl)
theorem g_sipush {i : Int} (v : Int32) (d : decode cc pc = .ok (.sipush i, 3)) (hv : (Int16.ofInt i).toInt32 = v) (kk : G X F cc nL own R k n (pc + 3) lv (.int v :: st) h z) : G X F cc nL own R k n pc lv st h z := by
  obtain ⟨p, e, Rm, s, m, args, below, meth, c, Q⟩ := F
  intro ok H locs ls hA hq hl
  exact lv_sipush ok.1.1 ok.1.2.1 d hv (kk ok H locs ls hA hq hl)
theorem g_lconst {i : Fin 2} (v : Int64) (d : decode cc pc = .ok (.lconst i, 1)) (hv : Int64.ofNat (i : Nat) = v) (kk : G X F cc nL own R k n (pc + 1) lv (.long v :: st) h z) : G X F cc nL own R k n pc lv st h z := by
  obtain ⟨p, e, Rm, s, m, args, below, meth, c, Q⟩ := F
  intro ok H locs ls hA hq hl
  exact lv_lconst ok.1.1 ok.1.2.1 d hv (kk ok H locs ls hA hq hl)
theorem g_dconst0 (d : decode cc pc = .ok (.dconst 0, 1)) (kk : G X F cc nL own R k n (pc + 1) lv (.double FP.dconst0 :: st) h z) : G X F cc nL own R k n pc lv st h z := by
  obtain ⟨p, e, Rm, s, m, args, below, meth, c, Q⟩ := F
  intro ok H locs ls hA hq hl
  exact lv_dconst0 ok.1.1 ok.1.2.1 d (kk ok H locs ls hA hq hl)
theorem g_iload_n {i : Fin 4} {x : Int32} (d : decode cc pc = .ok (.iload_n i, 1)) (hv : lv[(i : Nat)]? = some (some (.int x))) (kk : G X F cc nL own R k n (pc + 1) lv (.int x :: st) h z) : G X F cc nL own R k n pc lv st h z := by
  obtain ⟨p, e, Rm, s, m, args, below, meth, c, Q⟩ := F
  intro ok H locs ls hA hq hl
  exact lv_iload_n ok.1.1 ok.1.2.1 d rfl (hl.at hv) (kk ok H locs ls hA hq hl)
theorem g_iload {i : Nat} {x : Int32} (d : decode cc pc = .ok (.iload i, 2)) (hv : lv[i]? = some (some (.int x))) (kk : G X F cc nL own R k n (pc + 2) lv (.int x :: st) h z) : G X F cc nL own R k n pc lv st h z := by
  obtain ⟨p, e, Rm, s, m, args, below, meth, c, Q⟩ := F
  intro ok H locs ls hA hq hl
  exact lv_iload ok.1.1 ok.1.2.1 d (hl.at hv) (kk ok H locs ls hA hq hl)
theorem g_lload_n {i : Fin 4} {x : Int64} (d : decode cc pc = .ok (.lload_n i, 1)) (hv : lv[(i : Nat)]? = some (some (.long x))) (kk : G X F cc nL own R k n (pc + 1) lv (.long x :: st) h z) : G X F cc nL own R k n pc lv st h z := by
  obtain ⟨p, e, Rm, s, m, args, below, meth, c, Q⟩ := F
  intro ok H locs ls hA hq hl
  exact lv_lload_n ok.1.1 ok.1.2.1 d rfl (hl.at hv) (kk ok H locs ls hA hq hl)
theorem g_lload {i : Nat} {x : Int64} (d : decode cc pc = .ok (.lload i, 2)) (hv : lv[i]? = some (some (.long x))) (kk : G X F cc nL own R k n (pc + 2) lv (.long x :: st) h z) : G X F cc nL own R k n pc lv st h z := by
  obtain ⟨p, e, Rm, s, m, args, below, meth, c, Q⟩ := F
  intro ok H locs ls hA hq hl
  exact lv_lload ok.1.1 ok.1.2.1 d (hl.at hv) (kk ok H locs ls hA hq hl)
theorem g_dload {i : Nat} {x : UInt64} (d : decode cc pc = .ok (.dload i, 2)) (hv : lv[i]? = some (some (.double x))) (kk : G X F cc nL own R k n (pc + 2) lv (.double x :: st) h z) : G X F cc nL own R k n pc lv st h z := by
  obtain ⟨p, e, Rm, s, m, args, below, meth, c, Q⟩ := F
  intro ok H locs ls hA hq hl
  exact lv_dload ok.1.1 ok.1.2.1 d (hl.at hv) (kk ok H locs ls hA hq hl)
theorem g_aload_n {i : Fin 4} {a : Nat} (d : decode cc pc = .ok (.aload_n i, 1)) (hv : lv[(i : Nat)]? = some (some (.ref a))) (kk : G X F cc nL own R k n (pc + 1) lv (.ref a :: st) h z) : G X F cc nL own R k n pc lv st h z := by
  obtain ⟨p, e, Rm, s, m, args, below, meth, c, Q⟩ := F
  intro ok H locs ls hA hq hl
  exact lv_aload_n ok.1.1 ok.1.2.1 d rfl (hl.at hv) (kk ok H locs ls hA hq hl)
theorem g_aload {i : Nat} {a : Nat} (d : decode cc pc = .ok (.aload i, 2)) (hv : lv[i]? = some (some (.ref a))) (kk : G X F cc nL own R k n (pc + 2) lv (.ref a :: st) h z) : G X F cc nL own R k n pc lv st h z := by
  obtain ⟨p, e, Rm, s, m, args, below, meth, c, Q⟩ := F
  intro ok H locs ls hA hq hl
  exact lv_aload ok.1.1 ok.1.2.1 d (hl.at hv) (kk ok H locs ls hA hq hl)
theorem g_istore_n {i : Fin 4} {x : Int32} (d : decode cc pc = .ok (.istore_n i, 1)) (hi : (i : Nat) < nL) (hok : gok lv (i : Nat) = true) (kk : G X F cc nL own R k n (pc + 1) (lv.set (i : Nat) (some (.int x))) st h z) : G X F cc nL own R k n pc lv (.int x :: st) h z := by
  obtain ⟨p, e, Rm, s, m, args, below, meth, c, Q⟩ := F
  intro ok H locs ls hA hq hl
  exact lv_istore_n ok.1.1 ok.1.2.1 d rfl hl.has hi rfl fun ls' hl' => kk ok H locs ls' hA hq (gL.set1 hl' hok)
theorem g_istore {i : Nat} {x : Int32} (d : decode cc pc = .ok (.istore i, 2)) (hi : i < nL) (hok : gok lv i = true) (kk : G X F cc nL own R k n (pc + 2) (lv.set i (some (.int x))) st h z) : G X F cc nL own R k n pc lv (.int x :: st) h z := by
  obtain ⟨p, e, Rm, s, m, args, below, meth, c, Q⟩ := F
  intro ok H locs ls hA hq hl
  exact lv_istore ok.1.1 ok.1.2.1 d hl.has hi rfl fun ls' hl' => kk ok H locs ls' hA hq (gL.set1 hl' hok)
theorem g_astore_n {i : Fin 4} {a : Nat} (d : decode cc pc = .ok (.astore_n i, 1)) (hi : (i : Nat) < nL) (hok : gok lv (i : Nat) = true) (kk : G X F cc nL own R k n (pc + 1) (lv.set (i : Nat) (some (.ref a))) st h z) : G X F cc nL own R k n pc lv (.ref a :: st) h z := by
  obtain ⟨p, e, Rm, s, m, args, below, meth, c, Q⟩ := F
  intro ok H locs ls hA hq hl
  exact lv_astore_n ok.1.1 ok.1.2.1 d rfl hl.has hi rfl fun ls' hl' => kk ok H locs ls' hA hq (gL.set1 hl' hok)
theorem g_astore {i : Nat} {a : Nat} (d : decode cc pc = .ok (.astore i, 2)) (hi : i < nL) (hok : gok lv i = true) (kk : G X F cc nL own R k n (pc + 2) (lv.set i (some (.ref a))) st h z) : G X F cc nL own R k n pc lv (.ref a :: st) h z := by
  obtain ⟨p, e, Rm, s, m, args, below, meth, c, Q⟩ := F
  intro ok H locs ls hA hq hl
  exact lv_astore ok.1.1 ok.1.2.1 d hl.has hi rfl fun ls' hl' => kk ok H locs ls' hA hq (gL.set1 hl' hok)
theorem g_lstore_n {i : Fin 4} {x : Int64} (d : decode cc pc = .ok (.lstore_n i, 1)) (hi : (i : Nat) + 1 < nL) (hok : gok lv (i : Nat) = true) (kk : G X F cc nL own R k n (pc + 1) ((lv.set (i : Nat) (some (.long x))).set ((i : Nat) + 1) none) st h z) : G X F cc nL own R k n pc lv (.long x :: st) h z := by
  obtain ⟨p, e, Rm, s, m, args, below, meth, c, Q⟩ := F
  intro ok H locs ls hA hq hl
  exact lv_lstore_n ok.1.1 ok.1.2.1 d rfl hl.has hi rfl fun ls' hl' => kk ok H locs ls' hA hq (gL.set2 hl' hok)
theorem g_lstore {i : Nat} {x : Int64} (d : decode cc pc = .ok (.lstore i, 2)) (hi : i + 1 < nL) (hok : gok lv i = true) (kk : G X F cc nL own R k n (pc + 2) ((lv.set i (some (.long x))).set (i + 1) none) st h z) : G X F cc nL own R k n pc lv (.long x :: st) h z := by
  obtain ⟨p, e, Rm, s, m, args, below, meth, c, Q⟩ := F
  intro ok H locs ls hA hq hl
  exact lv_lstore ok.1.1 ok.1.2.1 d hl.has hi rfl fun ls' hl' => kk ok H locs ls' hA hq (gL.set2 hl' hok)
theorem g_dstore {i : Nat} {x : UInt64} (d : decode cc pc = .ok (.dstore i, 2)) (hi : i + 1 < nL) (hok : gok lv i = true) (kk : G X F cc nL own R k n (pc + 2) ((lv.set i (some (.double x))).set (i + 1) none) st h z) : G X F cc nL own R k n pc lv (.double x :: st) h z := by
  obtain ⟨p, e, Rm, s, m, args, below, meth, c, Q⟩ := F
  intro ok H locs ls hA hq hl
  exact lv_dstore ok.1.1 ok.1.2.1 d hl.has hi rfl fun ls' hl' => kk ok H locs ls' hA hq (gL.set2 hl' hok)
theorem g_iinc {i : Nat} {j : Int} {x : Int32} (v : Int32) (d : decode cc pc = .ok (.iinc i j, 3)) (hx : lv[i]? = some (some (.int x))) (hv : x + Int32.ofInt j = v) (hi : i < nL) (hok : gok lv i = true) (kk : G X F cc nL own R k n (pc + 3) (lv.set i (some (.int v))) st h z) : G X F cc nL own R k n pc lv st h z := by
  obtain ⟨p, e, Rm, s, m, args, below, meth, c, Q⟩ := F
  intro ok H locs ls hA hq hl
  obtain ⟨q, hq1, hq2⟩ := List.getElem_of_mem (ga_mem.mpr hx)
  exact lv_iinc ok.1.1 ok.1.2.1 d hl.has (k := q) (by rw [List.getElem?_eq_getElem hq1, hq2]) hv hi rfl fun ls' hl' => kk ok H locs ls' hA hq (gL.set1 hl' hok)
theorem g_iadd {x y : Int32} (d : decode cc pc = .ok (.iadd, 1)) (kk : G X F cc nL own R k n (pc + 1) lv (.int (x + y) :: st) h z) : G X F cc nL own R k n pc lv (.int y :: .int x :: st) h z := by
  obtain ⟨p, e, Rm, s, m, args, below, meth, c, Q⟩ := F
  intro ok H locs ls hA hq hl
  exact lv_iadd ok.1.1 ok.1.2.1 d (kk ok H locs ls hA hq hl)
theorem g_isub {x y : Int32} (d : decode cc pc = .ok (.isub, 1)) (kk : G X F cc nL own R k n (pc + 1) lv (.int (x - y) :: st) h z) : G X F cc nL own R k n pc lv (.int y :: .int x :: st) h z := by
  obtain ⟨p, e, Rm, s, m, args, below, meth, c, Q⟩ := F
  intro ok H locs ls hA hq hl
  exact lv_isub ok.1.1 ok.1.2.1 d (kk ok H locs ls hA hq hl)
theorem g_imul {x y : Int32} (d : decode cc pc = .ok (.imul, 1)) (kk : G X F cc nL own R k n (pc + 1) lv (.int (x * y) :: st) h z) : G X F cc nL own R k n pc lv (.int y :: .int x :: st) h z := by
  obtain ⟨p, e, Rm, s, m, args, below, meth, c, Q⟩ := F
  intro ok H locs ls hA hq hl
  exact lv_imul ok.1.1 ok.1.2.1 d (kk ok H locs ls hA hq hl)
theorem g_iand {x y : Int32} (d : decode cc pc = .ok (.iand, 1)) (kk : G X F cc nL own R k n (pc + 1) lv (.int (x &&& y) :: st) h z) : G X F cc nL own R k n pc lv (.int y :: .int x :: st) h z := by
  obtain ⟨p, e, Rm, s, m, args, below, meth, c, Q⟩ := F
  intro ok H locs ls hA hq hl
  exact lv_iand ok.1.1 ok.1.2.1 d (kk ok H locs ls hA hq hl)
theorem g_ior {x y : Int32} (d : decode cc pc = .ok (.ior, 1)) (kk : G X F cc nL own R k n (pc + 1) lv (.int (x ||| y) :: st) h z) : G X F cc nL own R k n pc lv (.int y :: .int x :: st) h z := by
  obtain ⟨p, e, Rm, s, m, args, below, meth, c, Q⟩ := F
  intro ok H locs ls hA hq hl
  exact lv_ior ok.1.1 ok.1.2.1 d (kk ok H locs ls hA hq hl)
theorem g_idiv {x y : Int32} (d : decode cc pc = .ok (.idiv, 1)) (hy : ¬ y = 0) (kk : G X F cc nL own R k n (pc + 1) lv (.int (x / y) :: st) h z) : G X F cc nL own R k n pc lv (.int y :: .int x :: st) h z := by
  obtain ⟨p, e, Rm, s, m, args, below, meth, c, Q⟩ := F
  intro ok H locs ls hA hq hl
  exact lv_idiv ok.1.1 ok.1.2.1 d hy (kk ok H locs ls hA hq hl)
theorem g_irem {x y : Int32} (d : decode cc pc = .ok (.irem, 1)) (hy : ¬ y = 0) (kk : G X F cc nL own R k n (pc + 1) lv (.int (x - x / y * y) :: st) h z) : G X F cc nL own R k n pc lv (.int y :: .int x :: st) h z := by
  obtain ⟨p, e, Rm, s, m, args, below, meth, c, Q⟩ := F
  intro ok H locs ls hA hq hl
  exact lv_irem ok.1.1 ok.1.2.1 d hy (kk ok H locs ls hA hq hl)
theorem g_ineg {x : Int32} (d : decode cc pc = .ok (.ineg, 1)) (kk : G X F cc nL own R k n (pc + 1) lv (.int (-x) :: st) h z) : G X F cc nL own R k n pc lv (.int x :: st) h z := by
  obtain ⟨p, e, Rm, s, m, args, below, meth, c, Q⟩ := F
  intro ok H locs ls hA hq hl
  exact lv_ineg ok.1.1 ok.1.2.1 d (kk ok H locs ls hA hq hl)
theorem g_ishr {x y : Int32} (d : decode cc pc = .ok (.ishr, 1)) (kk : G X F cc nL own R k n (pc + 1) lv (.int (x >>> (y &&& 31)) :: st) h z) : G X F cc nL own R k n pc lv (.int y :: .int x :: st) h z := by
  obtain ⟨p, e, Rm, s, m, args, below, meth, c, Q⟩ := F
  intro ok H locs ls hA hq hl
  exact lv_ishr ok.1.1 ok.1.2.1 d (kk ok H locs ls hA hq hl)
theorem g_iushr {x y : Int32} (d : decode cc pc = .ok (.iushr, 1)) (kk : G X F cc nL own R k n (pc + 1) lv (.int ((x.toUInt32 >>> (y.toUInt32 &&& Int32.toUInt32 31)).toInt32) :: st) h z) : G X F cc nL own R k n pc lv (.int y :: .int x :: st) h z := by
  obtain ⟨p, e, Rm, s, m, args, below, meth, c, Q⟩ := F
  intro ok H locs ls hA hq hl
  exact lv_iushr ok.1.1 ok.1.2.1 d rfl (kk ok H locs ls hA hq hl)
theorem g_ladd {x y : Int64} (d : decode cc pc = .ok (.ladd, 1)) (kk : G X F cc nL own R k n (pc + 1) lv (.long (x + y) :: st) h z) : G X F cc nL own R k n pc lv (.long y :: .long x :: st) h z := by
  obtain ⟨p, e, Rm, s, m, args, below, meth, c, Q⟩ := F
  intro ok H locs ls hA hq hl
  exact lv_ladd ok.1.1 ok.1.2.1 d (kk ok H locs ls hA hq hl)
theorem g_lmul {x y : Int64} (d : decode cc pc = .ok (.lmul, 1)) (kk : G X F cc nL own R k n (pc + 1) lv (.long (x * y) :: st) h z) : G X F cc nL own R k n pc lv (.long y :: .long x :: st) h z := by
  obtain ⟨p, e, Rm, s, m, args, below, meth, c, Q⟩ := F
  intro ok H locs ls hA hq hl
  exact lv_lmul ok.1.1 ok.1.2.1 d (kk ok H locs ls hA hq hl)
theorem g_ldiv {x y : Int64} (d : decode cc pc = .ok (.ldiv, 1)) (hy : ¬ y = 0) (kk : G X F cc nL own R k n (pc + 1) lv (.long (x / y) :: st) h z) : G X F cc nL own R k n pc lv (.long y :: .long x :: st) h z := by
  obtain ⟨p, e, Rm, s, m, args, below, meth, c, Q⟩ := F
  intro ok H locs ls hA hq hl
  exact lv_ldiv ok.1.1 ok.1.2.1 d hy (kk ok H locs ls hA hq hl)
theorem g_lrem {x y : Int64} (d : decode cc pc = .ok (.lrem, 1)) (hy : ¬ y = 0) (kk : G X F cc nL own R k n (pc + 1) lv (.long (x - x / y * y) :: st) h z) : G X F cc nL own R k n pc lv (.long y :: .long x :: st) h z := by
  obtain ⟨p, e, Rm, s, m, args, below, meth, c, Q⟩ := F
  intro ok H locs ls hA hq hl
  exact lv_lrem ok.1.1 ok.1.2.1 d hy (kk ok H locs ls hA hq hl)
theorem g_i2l {x : Int32} (d : decode cc pc = .ok (.i2l, 1)) (kk : G X F cc nL own R k n (pc + 1) lv (.long x.toInt64 :: st) h z) : G X F cc nL own R k n pc lv (.int x :: st) h z := by
  obtain ⟨p, e, Rm, s, m, args, below, meth, c, Q⟩ := F
  intro ok H locs ls hA hq hl
  exact lv_i2l ok.1.1 ok.1.2.1 d rfl (kk ok H locs ls hA hq hl)
theorem g_l2i {x : Int64} (d : decode cc pc = .ok (.l2i, 1)) (kk : G X F cc nL own R k n (pc + 1) lv (.int x.toInt32 :: st) h z) : G X F cc nL own R k n pc lv (.long x :: st) h z := by
  obtain ⟨p, e, Rm, s, m, args, below, meth, c, Q⟩ := F
  intro ok H locs ls hA hq hl
  exact lv_l2i ok.1.1 ok.1.2.1 d rfl (kk ok H locs ls hA hq hl)
theorem g_i2d {x : Int32} (d : decode cc pc = .ok (.i2d, 1)) (kk : G X F cc nL own R k n (pc + 1) lv (.double (FP.i2d x) :: st) h z) : G X F cc nL own R k n pc lv (.int x :: st) h z := by
  obtain ⟨p, e, Rm, s, m, args, below, meth, c, Q⟩ := F
  intro ok H locs ls hA hq hl
  exact lv_i2d ok.1.1 ok.1.2.1 d (kk ok H locs ls hA hq hl)
theorem g_ddiv {x y : UInt64} (d : decode cc pc = .ok (.ddiv, 1)) (hy : vf_n64 (FP.ddiv x y)) (kk : G X F cc nL own R k n (pc + 1) lv (.double (FP.ddiv x y) :: st) h z) : G X F cc nL own R k n pc lv (.double y :: .double x :: st) h z := by
  obtain ⟨p, e, Rm, s, m, args, below, meth, c, Q⟩ := F
  intro ok H locs ls hA hq hl
  exact lv_ddiv ok.1.1 ok.1.2.1 d hy (kk ok H locs ls hA hq hl)
theorem g_lcmp {x y : Int64} (d : decode cc pc = .ok (.lcmp, 1)) (kk : G X F cc nL own R k n (pc + 1) lv (.int (lg_cmp x y) :: st) h z) : G X F cc nL own R k n pc lv (.long y :: .long x :: st) h z := by
  obtain ⟨p, e, Rm, s, m, args, below, meth, c, Q⟩ := F
  intro ok H locs ls hA hq hl
  exact W.lcmp ok.1.1 ok.1.2.1 d (kk ok H locs ls hA hq hl)
theorem g_dcmp {x y : UInt64} {op : CmpOp} (d : decode cc pc = .ok (.dcmp op, 1)) (kk : G X F cc nL own R k n (pc + 1) lv (.int (Op.cmpValue (FP.dcmp x y) op) :: st) h z) : G X F cc nL own R k n pc lv (.double y :: .double x :: st) h z := by
  obtain ⟨p, e, Rm, s, m, args, below, meth, c, Q⟩ := F
  intro ok H locs ls hA hq hl
  exact lv_dcmp ok.1.1 ok.1.2.1 d (kk ok H locs ls hA hq hl)
theorem g_dup {v : Value} (d : decode cc pc = .ok (.dup, 1)) (hv : v.category = 1) (kk : G X F cc nL own R k n (pc + 1) lv (v :: v :: st) h z) : G X F cc nL own R k n pc lv (v :: st) h z := by
  obtain ⟨p, e, Rm, s, m, args, below, meth, c, Q⟩ := F
  intro ok H locs ls hA hq hl
  exact lv_dup ok.1.1 ok.1.2.1 d hv (kk ok H locs ls hA hq hl)
theorem g_pop {v : Value} (d : decode cc pc = .ok (.pop, 1)) (hv : v.category = 1) (kk : G X F cc nL own R k n (pc + 1) lv (st) h z) : G X F cc nL own R k n pc lv (v :: st) h z := by
  obtain ⟨p, e, Rm, s, m, args, below, meth, c, Q⟩ := F
  intro ok H locs ls hA hq hl
  exact lv_pop ok.1.1 ok.1.2.1 d hv (kk ok H locs ls hA hq hl)
theorem g_dup2 {v w : Value} (d : decode cc pc = .ok (.dup2, 1)) (hv : v.category = 1) (hw : w.category = 1) (kk : G X F cc nL own R k n (pc + 1) lv (v :: w :: v :: w :: st) h z) : G X F cc nL own R k n pc lv (v :: w :: st) h z := by
  obtain ⟨p, e, Rm, s, m, args, below, meth, c, Q⟩ := F
  intro ok H locs ls hA hq hl
  exact lv_dup2_11 ok.1.1 ok.1.2.1 d hv hw (kk ok H locs ls hA hq hl)
theorem g_if_eq {x : Int32} {off : Int} (tgt : Nat) (d : decode cc pc = .ok (.ifCond .eq off, 3)) (ht : (pc : Int) + off = (tgt : Int)) (kt : x = 0 → G X F cc nL own R k n tgt lv st h z) (kf : ¬ x = 0 → G X F cc nL own R k n (pc + 3) lv st h z) : G X F cc nL own R k n pc lv (.int x :: st) h z := by
  obtain ⟨p, e, Rm, s, m, args, below, meth, c, Q⟩ := F
  intro ok H locs ls hA hq hl
  exact lv_if_eq ok.1.1 ok.1.2.1 d ht (fun q => kt q ok H locs ls hA hq hl) (fun q => kf q ok H locs ls hA hq hl)
theorem g_if_ne {x : Int32} {off : Int} (tgt : Nat) (d : decode cc pc = .ok (.ifCond .ne off, 3)) (ht : (pc : Int) + off = (tgt : Int)) (kt : ¬ x = 0 → G X F cc nL own R k n tgt lv st h z) (kf : x = 0 → G X F cc nL own R k n (pc + 3) lv st h z) : G X F cc nL own R k n pc lv (.int x :: st) h z := by
  obtain ⟨p, e, Rm, s, m, args, below, meth, c, Q⟩ := F
  intro ok H locs ls hA hq hl
  exact lv_if_ne ok.1.1 ok.1.2.1 d ht (fun q => kt q ok H locs ls hA hq hl) (fun q => kf q ok H locs ls hA hq hl)
theorem g_if_lt {x : Int32} {off : Int} (tgt : Nat) (d : decode cc pc = .ok (.ifCond .lt off, 3)) (ht : (pc : Int) + off = (tgt : Int)) (kt : x < 0 → G X F cc nL own R k n tgt lv st h z) (kf : ¬ x < 0 → G X F cc nL own R k n (pc + 3) lv st h z) : G X F cc nL own R k n pc lv (.int x :: st) h z := by
  obtain ⟨p, e, Rm, s, m, args, below, meth, c, Q⟩ := F
  intro ok H locs ls hA hq hl
  exact lv_if_lt ok.1.1 ok.1.2.1 d ht (fun q => kt q ok H locs ls hA hq hl) (fun q => kf q ok H locs ls hA hq hl)
theorem g_if_ge {x : Int32} {off : Int} (tgt : Nat) (d : decode cc pc = .ok (.ifCond .ge off, 3)) (ht : (pc : Int) + off = (tgt : Int)) (kt : 0 ≤ x → G X F cc nL own R k n tgt lv st h z) (kf : ¬ 0 ≤ x → G X F cc nL own R k n (pc + 3) lv st h z) : G X F cc nL own R k n pc lv (.int x :: st) h z := by
  obtain ⟨p, e, Rm, s, m, args, below, meth, c, Q⟩ := F
  intro ok H locs ls hA hq hl
  exact lv_if_ge ok.1.1 ok.1.2.1 d ht (fun q => kt q ok H locs ls hA hq hl) (fun q => kf q ok H locs ls hA hq hl)
theorem g_if_gt {x : Int32} {off : Int} (tgt : Nat) (d : decode cc pc = .ok (.ifCond .gt off, 3)) (ht : (pc : Int) + off = (tgt : Int)) (kt : 0 < x → G X F cc nL own R k n tgt lv st h z) (kf : ¬ 0 < x → G X F cc nL own R k n (pc + 3) lv st h z) : G X F cc nL own R k n pc lv (.int x :: st) h z := by
  obtain ⟨p, e, Rm, s, m, args, below, meth, c, Q⟩ := F
  intro ok H locs ls hA hq hl
  exact lv_if_gt ok.1.1 ok.1.2.1 d ht (fun q => kt q ok H locs ls hA hq hl) (fun q => kf q ok H locs ls hA hq hl)
theorem g_if_le {x : Int32} {off : Int} (tgt : Nat) (d : decode cc pc = .ok (.ifCond .le off, 3)) (ht : (pc : Int) + off = (tgt : Int)) (kt : x ≤ 0 → G X F cc nL own R k n tgt lv st h z) (kf : ¬ x ≤ 0 → G X F cc nL own R k n (pc + 3) lv st h z) : G X F cc nL own R k n pc lv (.int x :: st) h z := by
  obtain ⟨p, e, Rm, s, m, args, below, meth, c, Q⟩ := F
  intro ok H locs ls hA hq hl
  exact lv_if_le ok.1.1 ok.1.2.1 d ht (fun q => kt q ok H locs ls hA hq hl) (fun q => kf q ok H locs ls hA hq hl)
theorem g_icmp_eq {x y : Int32} {off : Int} (tgt : Nat) (d : decode cc pc = .ok (.if_icmp .eq off, 3)) (ht : (pc : Int) + off = (tgt : Int)) (kt : x = y → G X F cc nL own R k n tgt lv st h z) (kf : ¬ x = y → G X F cc nL own R k n (pc + 3) lv st h z) : G X F cc nL own R k n pc lv (.int y :: .int x :: st) h z := by
  obtain ⟨p, e, Rm, s, m, args, below, meth, c, Q⟩ := F
  intro ok H locs ls hA hq hl
  exact lv_icmp_eq ok.1.1 ok.1.2.1 d ht (fun q => kt q ok H locs ls hA hq hl) (fun q => kf q ok H locs ls hA hq hl)
theorem g_icmp_ne {x y : Int32} {off : Int} (tgt : Nat) (d : decode cc pc = .ok (.if_icmp .ne off, 3)) (ht : (pc : Int) + off = (tgt : Int)) (kt : ¬ x = y → G X F cc nL own R k n tgt lv st h z) (kf : x = y → G X F cc nL own R k n (pc + 3) lv st h z) : G X F cc nL own R k n pc lv (.int y :: .int x :: st) h z := by
  obtain ⟨p, e, Rm, s, m, args, below, meth, c, Q⟩ := F
  intro ok H locs ls hA hq hl
  exact lv_icmp_ne ok.1.1 ok.1.2.1 d ht (fun q => kt q ok H locs ls hA hq hl) (fun q => kf q ok H locs ls hA hq hl)
theorem g_icmp_lt {x y : Int32} {off : Int} (tgt : Nat) (d : decode cc pc = .ok (.if_icmp .lt off, 3)) (ht : (pc : Int) + off = (tgt : Int)) (kt : x < y → G X F cc nL own R k n tgt lv st h z) (kf : ¬ x < y → G X F cc nL own R k n (pc + 3) lv st h z) : G X F cc nL own R k n pc lv (.int y :: .int x :: st) h z := by
  obtain ⟨p, e, Rm, s, m, args, below, meth, c, Q⟩ := F
  intro ok H locs ls hA hq hl
  exact lv_icmp_lt ok.1.1 ok.1.2.1 d ht (fun q => kt q ok H locs ls hA hq hl) (fun q => kf q ok H locs ls hA hq hl)
theorem g_icmp_ge {x y : Int32} {off : Int} (tgt : Nat) (d : decode cc pc = .ok (.if_icmp .ge off, 3)) (ht : (pc : Int) + off = (tgt : Int)) (kt : y ≤ x → G X F cc nL own R k n tgt lv st h z) (kf : ¬ y ≤ x → G X F cc nL own R k n (pc + 3) lv st h z) : G X F cc nL own R k n pc lv (.int y :: .int x :: st) h z := by
  obtain ⟨p, e, Rm, s, m, args, below, meth, c, Q⟩ := F
  intro ok H locs ls hA hq hl
  exact lv_icmp_ge ok.1.1 ok.1.2.1 d ht (fun q => kt q ok H locs ls hA hq hl) (fun q => kf q ok H locs ls hA hq hl)
theorem g_icmp_gt {x y : Int32} {off : Int} (tgt : Nat) (d : decode cc pc = .ok (.if_icmp .gt off, 3)) (ht : (pc : Int) + off = (tgt : Int)) (kt : y < x → G X F cc nL own R k n tgt lv st h z) (kf : ¬ y < x → G X F cc nL own R k n (pc + 3) lv st h z) : G X F cc nL own R k n pc lv (.int y :: .int x :: st) h z := by
  obtain ⟨p, e, Rm, s, m, args, below, meth, c, Q⟩ := F
  intro ok H locs ls hA hq hl
  exact lv_icmp_gt ok.1.1 ok.1.2.1 d ht (fun q => kt q ok H locs ls hA hq hl) (fun q => kf q ok H locs ls hA hq hl)
theorem g_icmp_le {x y : Int32} {off : Int} (tgt : Nat) (d : decode cc pc = .ok (.if_icmp .le off, 3)) (ht : (pc : Int) + off = (tgt : Int)) (kt : x ≤ y → G X F cc nL own R k n tgt lv st h z) (kf : ¬ x ≤ y → G X F cc nL own R k n (pc + 3) lv st h z) : G X F cc nL own R k n pc lv (.int y :: .int x :: st) h z := by
  obtain ⟨p, e, Rm, s, m, args, below, meth, c, Q⟩ := F
  intro ok H locs ls hA hq hl
  exact lv_icmp_le ok.1.1 ok.1.2.1 d ht (fun q => kt q ok H locs ls hA hq hl) (fun q => kf q ok H locs ls hA hq hl)
theorem g_goto {off : Int} (tgt : Nat) (d : decode cc pc = .ok (.goto off, 3)) (ht : (pc : Int) + off = (tgt : Int)) (kk : G X F cc nL own R k n tgt lv st h z) : G X F cc nL own R k n pc lv st h z := by
  obtain ⟨p, e, Rm, s, m, args, below, meth, c, Q⟩ := F
  intro ok H locs ls hA hq hl
  exact lv_goto ok.1.1 ok.1.2.1 d ht (kk ok H locs ls hA hq hl)
theorem g_acmp_eq {x y : Nat} {off : Int} (tgt : Nat) (d : decode cc pc = .ok (.if_acmp .eq off, 3)) (ht : (pc : Int) + off = (tgt : Int)) (kt : (some x) = (some y) → G X F cc nL own R k n tgt lv st h z) (kf : ¬ (some x) = (some y) → G X F cc nL own R k n (pc + 3) lv st h z) : G X F cc nL own R k n pc lv (.ref y :: .ref x :: st) h z := by
  obtain ⟨p, e, Rm, s, m, args, below, meth, c, Q⟩ := F
  intro ok H locs ls hA hq hl
  exact lv_acmp_eq (rx := some x) (ry := some y) ok.1.1 ok.1.2.1 d ht (fun q => kt q ok H locs ls hA hq hl) (fun q => kf q ok H locs ls hA hq hl)
theorem g_acmp_ne {x y : Nat} {off : Int} (tgt : Nat) (d : decode cc pc = .ok (.if_acmp .ne off, 3)) (ht : (pc : Int) + off = (tgt : Int)) (kt : ¬ (some x) = (some y) → G X F cc nL own R k n tgt lv st h z) (kf : (some x) = (some y) → G X F cc nL own R k n (pc + 3) lv st h z) : G X F cc nL own R k n pc lv (.ref y :: .ref x :: st) h z := by
  obtain ⟨p, e, Rm, s, m, args, below, meth, c, Q⟩ := F
  intro ok H locs ls hA hq hl
  exact lv_acmp_ne (rx := some x) (ry := some y) ok.1.1 ok.1.2.1 d ht (fun q => kt q ok H locs ls hA hq hl) (fun q => kf q ok H locs ls hA hq hl)
theorem g_switch {dflt lo hi : Int} {offs : Array Int} {len : Nat} {x : Int32} (off : Int) (tgt : Nat) (d : decode cc pc = .ok (.tableswitch dflt lo hi offs, len)) (h1 : ¬ x.toInt < lo) (h2 : ¬ hi < x.toInt) (ho : offs[(x.toInt - lo).toNat]? = some off) (ht : (pc : Int) + off = (tgt : Int)) (kk : G X F cc nL own R k n tgt lv st h z) : G X F cc nL own R k n pc lv (.int x :: st) h z := by
  obtain ⟨p, e, Rm, s, m, args, below, meth, c, Q⟩ := F
  intro ok H locs ls hA hq hl
  exact lv_tableIn ok.1.1 ok.1.2.1 d h1 h2 ho ht (kk ok H locs ls hA hq hl)
theorem g_switchD {dflt lo hi : Int} {offs : Array Int} {len : Nat} {x : Int32} (tgt : Nat) (d : decode cc pc = .ok (.tableswitch dflt lo hi offs, len)) (h1 : x.toInt < lo ∨ hi < x.toInt) (ht : (pc : Int) + dflt = (tgt : Int)) (kk : G X F cc nL own R k n tgt lv st h z) : G X F cc nL own R k n pc lv (.int x :: st) h z := by
  obtain ⟨p, e, Rm, s, m, args, below, meth, c, Q⟩ := F
  intro ok H locs ls hA hq hl
  exact lv_tableOut ok.1.1 ok.1.2.1 d h1 ht (kk ok H locs ls hA hq hl)
theorem g_lookup {dflt : Int} {ps : Array (Int × Int)} {len : Nat} {x : Int32} (off : Int) (tgt : Nat) (d : decode cc pc = .ok (.lookupswitch dflt ps, len)) (hp : (ps.toList.zip (ps.toList.drop 1)).all (fun (a, next) => a.1 < next.1) = true) (ho : Op.lookupswitch.offset ps.toList dflt x.toInt = off) (ht : (pc : Int) + off = (tgt : Int)) (kk : G X F cc nL own R k n tgt lv st h z) : G X F cc nL own R k n pc lv (.int x :: st) h z := by
  obtain ⟨p, e, Rm, s, m, args, below, meth, c, Q⟩ := F
  intro ok H locs ls hA hq hl
  exact lv_lookup ok.1.1 ok.1.2.1 d hp ho ht (kk ok H locs ls hA hq hl)
theorem g_ldc2 {idx : Nat} (v : Int64) (d : decode cc pc = .ok (.ldc2_w idx, 3)) (hw : Cond.constantLong own idx v ∈ lw_tbl) (kk : G X F cc nL own R k n (pc + 3) lv (.long v :: st) h z) : G X F cc nL own R k n pc lv st h z := by
  obtain ⟨p, e, Rm, s, m, args, below, meth, c, Q⟩ := F
  intro ok H locs ls hA hq hl
  exact lv_ldc2 ok.1.1 ok.1.2.1 ok.1.2.2.2 (gword ok.2.1 ok.2.2.1 hw rfl args) d (kk ok H locs ls hA hq hl)
theorem g_getf {idx ci j : Nat} {C : String} {T : u_T} {N : Nat} {ty : Nat → FieldType} {a : Nat} {fs : List Value} {v : Value} (fl : gFl own idx ci j C T N ty) (hh : h a = some (.inr (ci, fs))) (hv : fs[j]? = some v) (d : decode cc pc = .ok (.getfield idx, 3)) (kk : G X F cc nL own R k n (pc + 3) lv (v :: st) h z) : G X F cc nL own R k n pc lv (.ref a :: st) h z := by
  obtain ⟨p, e, Rm, s, m, args, below, meth, c, Q⟩ := F
  intro ok H locs ls hA hq hl
  obtain ⟨⟨f1, f2, f3, f4⟩, f5, f6, f7⟩ := fl
  exact va_get (Ts := u_ws C T N) ok.1.1 ok.1.2.1 (fun w hw => gword ok.2.1 ok.2.2.1 (f2 w hw) (u_good hw) args) (fun _ q => q) ok.1.2.2.2 (gK ok.2.1 ok.2.2.1) (hA.one hh) 0 rfl f1 j f5 (gword ok.2.1 ok.2.2.1 f6 rfl args) (fun x q => by rw [f7] at q; exact q) hv d (kk ok H locs ls hA hq hl)
theorem g_getfN {idx ci j : Nat} {C host : String} {T : u_T} {N : Nat} {ty : Nat → FieldType} {a : Nat} {fs : List Value} {v : Value} (fl : gFn own idx ci j C T N ty host) (hh : h a = some (.inr (ci, fs))) (hv : fs[j]? = some v) (d : decode cc pc = .ok (.getfield idx, 3)) (kk : G X F cc nL own R k n (pc + 3) lv (v :: st) h z) : G X F cc nL own R k n pc lv (.ref a :: st) h z := by
  obtain ⟨p, e, Rm, s, m, args, below, meth, c, Q⟩ := F
  intro ok H locs ls hA hq hl
  obtain ⟨⟨f1, f2, f3, f4⟩, f5, f6, f7⟩ := fl
  exact va_getN (Ts := u_ws C T N) ok.1.1 ok.1.2.1 (fun w hw => gword ok.2.1 ok.2.2.1 (f2 w hw) (u_good hw) args) (fun _ q => q) ok.1.2.2.2 (gK ok.2.1 ok.2.2.1) (hA.one hh) 0 rfl f1 j f5 (gnestF ok.2.1 ok.2.2.1 f6 args) (fun x q => by rw [f7] at q; exact q) hv d (kk ok H locs ls hA hq hl)
theorem g_putf {idx ci j : Nat} {C : String} {T : u_T} {N : Nat} {ty : Nat → FieldType} {a : Nat} {fs : List Value} {v : Value} (fl : gFl own idx ci j C T N ty) (hh : h a = some (.inr (ci, fs))) (hfin : (T j).2.2.2 = false) (hn : narrow (ty j) v = v) (hf : fits (ty j) v = true) (hl : j < fs.length) (d : decode cc pc = .ok (.putfield idx, 3)) (kk : G X F cc nL own R k n (pc + 3) lv st (gset h a (.inr (ci, fs.set j v))) z) : G X F cc nL own R k n pc lv (v :: .ref a :: st) h z := by
  obtain ⟨p, e, Rm, s, m, args, below, meth, c, Q⟩ := F
  intro ok H locs ls hA hq hll
  obtain ⟨⟨f1, f2, f3, f4⟩, f5, f6, f7⟩ := fl
  have hK := gK ok.2.1 ok.2.2.1
  have hts : ∀ w ∈ u_ws C T N, w.before args s = true := fun w hw => gword ok.2.1 ok.2.2.1 (f2 w hw) (u_good hw) args
  have hap := va_apart (own := own) hts (fun _ q => q) ty f3 f4 hK f1
  obtain ⟨r, h1, cell, q1, q2, q3, q4⟩ := (hA.2.2.2 a _ hh).2
  have hr : r = (C, T, N) := Option.some.inj (h1.symm.trans f1)
  subst hr
  obtain ⟨hS, hfc, kC, hkC, hkind⟩ := hK.1 ci _ f1
  obtain ⟨cf, kf, fi, f, hi, hsl⟩ := hS j f5
  have hlay := hts _ (u_in_lay f5)
  unfold u_lay at hlay
  rw [if_neg (by rw [hfin]; decide)] at hlay
  have hst := (u_facts hfc hkC (u_lays hts (fun _ q => q) f5) hi).1
  have h6 := u_store hfc hkC hkind hlay hi (f3 j f5) hn hf
  refine W.putK ok.1.1 ok.1.2.1 (f := f) ⟨ok.1.2.2.2, gword ok.2.1 ok.2.2.1 f6 rfl args, ⟨_, _, _, by rw [f7] at hi; exact hi⟩, hst⟩ (by rw [q2]; exact h6) q1 q3 (by rw [hsl]; exact k2_hasslot (q4 j f5)) rfl rfl d fun H' e1 e2 e3 => ?_
  rw [hsl] at e1 ⊢
  refine kk ok H' _ ls (hA.put hh e2 e3 ⟨_, f1, t_OB.to (V := updV (vp_V fs) j v) ⟨_, e1, q2, q3, t_set q4 hap f5 v⟩ (fun i _ => vp_updV_set hl v i)⟩) (fun q hq1 => ?_) hll
  rcases List.mem_append.mp hq1 with h9 | h9
  · exact hq q h9
  · rw [List.mem_singleton.mp h9]; exact (hA.2.2.2 a _ hh).1
theorem g_putfN {idx ci j : Nat} {C host : String} {T : u_T} {N : Nat} {ty : Nat → FieldType} {a : Nat} {fs : List Value} {v : Value} (fl : gFn own idx ci j C T N ty host) (hh : h a = some (.inr (ci, fs))) (hfin : (T j).2.2.2 = false) (hn : narrow (ty j) v = v) (hf : fits (ty j) v = true) (hl : j < fs.length) (d : decode cc pc = .ok (.putfield idx, 3)) (kk : G X F cc nL own R k n (pc + 3) lv st (gset h a (.inr (ci, fs.set j v))) z) : G X F cc nL own R k n pc lv (v :: .ref a :: st) h z := by
  obtain ⟨p, e, Rm, s, m, args, below, meth, c, Q⟩ := F
  intro ok H locs ls hA hq hll
  obtain ⟨⟨f1, f2, f3, f4⟩, f5, f6, f7⟩ := fl
  have hK := gK ok.2.1 ok.2.2.1
  have hts : ∀ w ∈ u_ws C T N, w.before args s = true := fun w hw => gword ok.2.1 ok.2.2.1 (f2 w hw) (u_good hw) args
  have hap := va_apart (own := own) hts (fun _ q => q) ty f3 f4 hK f1
  obtain ⟨r, h1, cell, q1, q2, q3, q4⟩ := (hA.2.2.2 a _ hh).2
  have hr : r = (C, T, N) := Option.some.inj (h1.symm.trans f1)
  subst hr
  obtain ⟨hS, hfc, kC, hkC, hkind⟩ := hK.1 ci _ f1
  obtain ⟨cf, kf, fi, f, hi, hsl⟩ := hS j f5
  have hlay := hts _ (u_in_lay f5)
  unfold u_lay at hlay
  rw [if_neg (by rw [hfin]; decide)] at hlay
  have hst := (u_facts hfc hkC (u_lays hts (fun _ q => q) f5) hi).1
  have h6 := u_store hfc hkC hkind hlay hi (f3 j f5) hn hf
  refine va_WputK ok.1.1 ok.1.2.1 (f := f) ok.1.2.2.2 (gnestF ok.2.1 ok.2.2.1 f6 args) (by rw [f7] at hi; exact hi) hst (by rw [q2]; exact h6) q1 q3 (by rw [hsl]; exact k2_hasslot (q4 j f5)) rfl rfl d fun H' e1 e2 e3 => ?_
  rw [hsl] at e1 ⊢
  refine kk ok H' _ ls (hA.put hh e2 e3 ⟨_, f1, t_OB.to (V := updV (vp_V fs) j v) ⟨_, e1, q2, q3, t_set q4 hap f5 v⟩ (fun i _ => vp_updV_set hl v i)⟩) (fun q hq1 => ?_) hll
  rcases List.mem_append.mp hq1 with h9 | h9
  · exact hq q h9
  · rw [List.mem_singleton.mp h9]; exact (hA.2.2.2 a _ hh).1
/-- the method is a constructor -/
def gIni (F : gF) : Prop := match F with
  | (_, _, _, _, _, _, _, meth, _, _) => meth.name = "<init>"
theorem g_putF {idx ci j : Nat} {C : String} {T : u_T} {N : Nat} {ty : Nat → FieldType} {a : Nat} {fs : List Value} {v : Value} (fl : gFl own idx ci j C T N ty) (hin : gIni F) (ho : own = C) (hh : h a = some (.inr (ci, fs))) (hfin : (T j).2.2.2 = true) (hn : narrow (ty j) v = v) (hf : fits (ty j) v = true) (hl : j < fs.length) (d : decode cc pc = .ok (.putfield idx, 3)) (kk : G X F cc nL own R k n (pc + 3) lv st (gset h a (.inr (ci, fs.set j v))) z) : G X F cc nL own R k n pc lv (v :: .ref a :: st) h z := by
  obtain ⟨p, e, Rm, s, m, args, below, meth, c, Q⟩ := F
  intro ok H locs ls hA hq hll
  obtain ⟨⟨f1, f2, f3, f4⟩, f5, f6, f7⟩ := fl
  have hin2 : meth.name = "<init>" := hin
  have hK := gK ok.2.1 ok.2.2.1
  have hts : ∀ w ∈ u_ws C T N, w.before args s = true := fun w hw => gword ok.2.1 ok.2.2.1 (f2 w hw) (u_good hw) args
  have hap := va_apart (own := own) hts (fun _ q => q) ty f3 f4 hK f1
  obtain ⟨r, h1, cell, q1, q2, q3, q4⟩ := (hA.2.2.2 a _ hh).2
  have hr : r = (C, T, N) := Option.some.inj (h1.symm.trans f1)
  subst hr
  obtain ⟨hS, hfc, kC, hkC, hkind⟩ := hK.1 ci _ f1
  obtain ⟨cf, kf, fi, f, hi, hsl⟩ := hS j f5
  have hlay := hts _ (u_in_lay f5)
  unfold u_lay at hlay
  rw [if_pos hfin] at hlay
  have hst := (u_facts hfc hkC (u_lays hts (fun _ q => q) f5) hi).1
  have hown := ok.1.2.2.2
  have hcf : m.cls = cf := by
    obtain ⟨_, _, c', _, _, _, -, -, hf', -, -, -, hown2, -⟩ := Cond.laysFinal_spec hlay
    have e1 : c' = cf := by have := hi.symm.trans hf'; simp at this; exact this.1.symm
    rw [f7, ← ho] at hown2
    rw [← e1]; exact Option.some.inj (hown.symm.trans hown2)
  have h6 := u_fits hfc hkC hkind (Or.inr hlay) hi (f3 j f5) hn hf
  refine W.putFinK ok.1.1 ok.1.2.1 hown (gword ok.2.1 ok.2.2.1 f6 rfl args) (by rw [f7] at hi; exact hi) hst hcf hin2 (by rw [q2]; exact h6) q1 q3 (by rw [hsl]; exact k2_hasslot (q4 j f5)) rfl rfl d fun H' e1 e2 e3 => ?_
  rw [hsl] at e1 ⊢
  refine kk ok H' _ ls (hA.put hh e2 e3 ⟨_, f1, t_OB.to (V := updV (vp_V fs) j v) ⟨_, e1, q2, q3, t_set q4 hap f5 v⟩ (fun i _ => vp_updV_set hl v i)⟩) (fun q hq1 => ?_) hll
  rcases List.mem_append.mp hq1 with h9 | h9
  · exact hq q h9
  · rw [List.mem_singleton.mp h9]; exact (hA.2.2.2 a _ hh).1
end GR
