/-! the grammar: an order as a whole, an insult -/
theorem PlB.nos {X : gX} {h : gH} {p nw no ns no' : Nat} {S : Nat → Option Nat} {g : Nat → Int32} {wn : Nat → Nat} {wf : Nat → Nat → Int32} {oA : Nat → Nat} {oJ : Nat → Nat → Int32} (hP : PlB X h p nw no ns S g wn wf oA oJ) : PlB X (gset h p (.inr (3, [.ref (p + 1), .ref (p + 2), .ref (p + 3), .int (nI nw), .int (nI no'), .int (nI ns), .ref (p + 4)]))) p nw no' ns S g wn wf oA oJ := by
  obtain ⟨h1, ⟨f2, h2, g2⟩, h3, h4, ⟨f5, h5, g5⟩, h6, h7⟩ := hP
  exact ⟨gset_same, ⟨f2, (gset_ne (by omega)).trans h2, g2⟩, (gset_ne (by omega)).trans h3, (gset_ne (by omega)).trans h4, ⟨f5, (gset_ne (by omega)).trans h5, g5⟩, fun i hi => (h6 i hi).off (b := p) (m := 1) (fun q hq => gset_ne (by omega)) (by omega), fun k hk => ⟨(gset_ne (by omega)).trans (h7 k hk).1, (h7 k hk).2.off (b := p) (m := 1) (fun q hq => gset_ne (by omega)) (by omega)⟩⟩
theorem PlB.nws {X : gX} {h : gH} {p nw no ns nw' : Nat} {S : Nat → Option Nat} {g : Nat → Int32} {wn : Nat → Nat} {wf : Nat → Nat → Int32} {oA : Nat → Nat} {oJ : Nat → Nat → Int32} (hP : PlB X h p nw no ns S g wn wf oA oJ) : PlB X (gset h p (.inr (3, [.ref (p + 1), .ref (p + 2), .ref (p + 3), .int (nI nw'), .int (nI no), .int (nI ns), .ref (p + 4)]))) p nw' no ns S g wn wf oA oJ := by
  obtain ⟨h1, ⟨f2, h2, g2⟩, h3, h4, ⟨f5, h5, g5⟩, h6, h7⟩ := hP
  exact ⟨gset_same, ⟨f2, (gset_ne (by omega)).trans h2, g2⟩, (gset_ne (by omega)).trans h3, (gset_ne (by omega)).trans h4, ⟨f5, (gset_ne (by omega)).trans h5, g5⟩, fun i hi => (h6 i hi).off (b := p) (m := 1) (fun q hq => gset_ne (by omega)) (by omega), fun k hk => ⟨(gset_ne (by omega)).trans (h7 k hk).1, (h7 k hk).2.off (b := p) (m := 1) (fun q hq => gset_ne (by omega)) (by omega)⟩⟩
set_option maxRecDepth 100000 in
set_option maxHeartbeats 4000000 in
theorem m4_addOrder {X : gX} {h : gH} {z p nw no ns : Nat} {S : Nat → Option Nat} {g : Nat → Int32} {wn : Nat → Nat} {wf : Nat → Nat → Int32} {oA : Nat → Nat} {oJ : Nat → Nat → Int32} (hno : no ≤ 16) (hP : PlB X h p nw no ns S g wn wf oA oJ) : gM X yX4_addOrder cX4_addOrder 1 (some (.object "ParrotSquawks$Order")) (0, 0, 0) [.ref p] h z (fun r h' z' => r = some (.ref (p + 21 + 3 * (if no < 16 then no else 15))) ∧ z' = z ∧ PlB X h' p nw (if no < 16 then no + 1 else no) ns S g wn wf oA oJ ∧ OffB h h' p 1) gNoX := by
  have hP0 := hP
  obtain ⟨h1, ⟨f2, h2, g2⟩, -⟩ := hP
  refine gM.of px4 (Nat.le_of_ble_eq_true rfl) ?_
  intro F hE
  have fin : ∀ (h1 : gH) (m : Nat), m < 16 → PlB X h1 p nw (m + 1) ns S g wn wf oA oJ → OffB h h1 p 1 → m = (if no < 16 then no else 15) → m + 1 = (if no < 16 then no + 1 else no) → G X F cX4_addOrder 1 yX4_addOrder.cls (0, 0, 0) 0 0 19 [some (.ref p)] [] h1 z := by
    intro h1 m hm hP1 hO1 e1 e2
    rw [← e1, ← e2] at hE
    obtain ⟨k1, ⟨f2, h2, g2⟩, -⟩ := id hP1
    refine g_aload_n dX4_addOrder_19 rfl ?_
    refine g_getf fl4_11 k1 rfl dX4_addOrder_20 ?_
    refine g_aload_n dX4_addOrder_23 rfl ?_
    refine g_getf fl4_43 k1 rfl dX4_addOrder_24 ?_
    refine g_iconst (nI 1) dX4_addOrder_27 (by decide) ?_
    first | refine g_isubN dX4_addOrder_28 (by omega) ?_ | refine g_isub dX4_addOrder_28 ?_
    refine g_aaldN h2 rfl (by omega) (by decide) (g2 m hm) dX4_addOrder_29 ?_
    exact g_aret (C := "ParrotSquawks$Order") hE (⟨rfl, rfl, hP1, hO1⟩) dX4_addOrder_30
  refine g_aload_n dX4_addOrder_0 rfl ?_
  refine g_getf fl4_43 h1 rfl dX4_addOrder_1 ?_
  refine g_bipush (nI 16) dX4_addOrder_4 (by decide) ?_
  refine g_icmp_geN 19 dX4_addOrder_6 (by decide) (by omega) (by omega) (fun c_6 => ?_) (fun c_6 => ?_)
  · exact fin h 15 (by decide) (by rw [show 15 + 1 = no by omega]; exact hP0) OffB.rf (by rw [if_neg (by omega)]) (by rw [if_neg (by omega)]; omega)
  · refine g_aload_n dX4_addOrder_9 rfl ?_
    refine g_dup dX4_addOrder_10 rfl ?_
    refine g_getf fl4_43 h1 rfl dX4_addOrder_11 ?_
    refine g_iconst (nI 1) dX4_addOrder_14 (by decide) ?_
    first | refine g_iaddN dX4_addOrder_15 ?_ | refine g_iadd dX4_addOrder_15 ?_
    refine g_putf fl4_43 (h1) rfl rfl rfl (Nat.le_of_ble_eq_true rfl) dX4_addOrder_16 ?_
    exact fin _ no (by omega) hP0.nos (OffB.rf.put (by omega) (by omega)) (by rw [if_pos (by omega)]) (by rw [if_pos (by omega)])
theorem GrI.ord2 {X : gX} {K : gKo} {h : gH} {g p n dp k : Nat} {f : Nat → Int32} {s : PSt} {ir : Int32} {W : gWo} (hI : GrI X K h g p n f s dp ir W) (hd : ApG g p) (hk : k < 16) (a : Nat) (J : Nat → Int32) : ∃ W' : gWo, GrI X K (gset h (p + 21 + 3 * k) (orF p k a J)) g p n f s dp ir W' ∧ W'.1 = W.1 ∧ W'.2.1 = W.2.1 ∧ (∀ i, i ≠ k → W'.2.2.1 i = W.2.2.1 i ∧ W'.2.2.2 i = W.2.2.2 i) ∧ W'.2.2.1 k = a ∧ W'.2.2.2 k = J :=
  ⟨_, hI.ord hd hk, rfl, rfl, fun i hi => ⟨vu_ne hi, vu_ne hi⟩, vu_same, vu_same⟩
theorem seF_mono {n : Nat} {f : Nat → Int32} {V U : List (Nat × Nat)} (h : (seF n f (V ++ U)).2.2.1 = 0) : (seF n f V).2.2.1 = 0 ∧ ∀ D i, fnd (seF n f V).1 D = some i → fnd (seF n f (V ++ U)).1 D = some i := by
  have e : seF n f (V ++ U) = U.foldl (seS n f) (seF n f V) := List.foldl_append
  rw [e] at h ⊢
  obtain ⟨h1, h2, -⟩ := seF_fine U (seF n f V) h
  exact ⟨h1, h2⟩
theorem seF_keep {n t : Nat} {f : Nat → Int32} {V U : List (Nat × Nat)} (h : (seF n f (V ++ U)).2.2.1 = 0) (hm : (4, t) ∈ V) : fnd (seF n f (V ++ U)).1 (tkn n f t) = fnd (seF n f V).1 (tkn n f t) := by
  obtain ⟨h1, h2⟩ := seF_mono h
  obtain ⟨-, -, -, h6⟩ := seF_fine V ([], 0, 0, 0) h1
  have := (h6 _ hm).2 (Or.inl rfl)
  obtain ⟨i, hi⟩ := Option.isSome_iff_exists.mp this
  have hi2 : fnd (seF n f V).1 (tkn n f t) = some i := hi
  rw [hi2, h2 _ i hi2]
theorem seF_cnt {n : Nat} {f : Nat → Int32} {V : List (Nat × Nat)} (h : (seF n f V).2.2.1 = 0) : (seF n f V).2.1 = nOr V := by
  obtain ⟨-, -, h3, -⟩ := seF_fine V ([], 0, 0, 0) h
  have : (seF n f V).2.1 = 0 + nOr V := h3
  omega
/-- what the objects of the orders hold that were read -/
def OrF (K : gKo) (n : Nat) (f : Nat → Int32) (V : List (Nat × Nat)) (W : gWo) (k : Nat) (o : OrT) : Prop := W.2.2.1 k = K.1 o.1 ∧ (o.1 = 6 → wdf (W.1 (8 + k)) (W.2.1 (8 + k)) (tkn n f o.2.1)) ∧ (o.1 = 7 → W.2.2.2 k 0 = oI (fnd (seF n f V).1 (tkn n f o.2.1))) ∧ W.2.2.2 k 1 = nI o.2.2.1 ∧ W.2.2.2 k 2 = nI o.2.2.2.1 ∧ W.2.2.2 k 3 = nI o.2.2.2.2
def OrOk (K : gKo) (n : Nat) (f : Nat → Int32) (s : PLt) (W : gWo) : Prop := (seF n f s.1.2.2).2.2.1 = 0 → ∀ k o, s.2[k]? = some o → OrF K n f s.1.2.2 W k o
theorem OrOk.snoc {K : gKo} {n k : Nat} {f : Nat → Int32} {s : PLt} {W W' : gWo} {s' : PSt} {o : OrT} {U : List (Nat × Nat)} (hB : BkOk n f s) (h : OrOk K n f s W) (hV : s'.2.2 = s.1.2.2 ++ U) (hW : (seF n f s'.2.2).2.2.1 = 0 → s.2.length = k) (hA : ∀ i, i ≠ k → W'.1 (8 + i) = W.1 (8 + i) ∧ W'.2.1 (8 + i) = W.2.1 (8 + i) ∧ W'.2.2.1 i = W.2.2.1 i ∧ ∀ j, W'.2.2.2 i j = W.2.2.2 i j) (hn : (seF n f s'.2.2).2.2.1 = 0 → OrF K n f s'.2.2 W' k o) : OrOk K n f (s', s.2 ++ [o]) W' := by
  intro he i x hx
  have hx2 : (s.2 ++ [o])[i]? = some x := hx
  have he2 : (seF n f s'.2.2).2.2.1 = 0 := he
  have hk := hW he2
  show OrF K n f s'.2.2 W' i x
  rcases Nat.lt_trichotomy i s.2.length with q | q | q
  · rw [List.getElem?_append_left q] at hx2
    have he3 := he2
    rw [hV] at he3
    obtain ⟨m1, m2⟩ := seF_mono he3
    obtain ⟨a1, a2, a3, a4, a5, a6⟩ := h m1 i x hx2
    obtain ⟨b1, b2, b3, b4⟩ := hA i (by omega)
    unfold OrF
    rw [b1, b2, b3, b4, b4, b4, b4]
    refine ⟨a1, a2, fun q7 => ?_, a4, a5, a6⟩
    rw [a3 q7, hV, seF_keep he3 ((hB.2.2 x (List.mem_of_getElem? hx2)).2.2.2.1 q7)]
  · rw [List.getElem?_append_right (by omega), q, Nat.sub_self] at hx2
    cases hx2
    rw [q, hk]
    exact hn he2
  · rw [List.getElem?_append_right (by omega), List.getElem?_eq_none (by show 1 ≤ _; omega)] at hx2
    cases hx2
/-- an order, or none -/
def pOd (K nu : Nat → Nat) (s : PLt) : Bool × PLt := if 6 ≤ K s.1.1 ∧ K s.1.1 ≤ 9 then pOr K nu s else (false, s)
set_option maxRecDepth 100000 in
set_option maxHeartbeats 4000000 in
theorem m1_readOrder {X : gX} {h : gH} {z g p n : Nat} {f : Nat → Int32} {K : gKo} {s : PLt} {ir : Int32} {W : gWo} (hK : gCo X K) (hd : ApG g p) (hn : n ≤ 2000) (hB : BkOk n f s) (hO : OrOk K n f s W) (hI : GrI X K h g p n f s.1 0 ir W) : gM X yX1_readOrder cX1_readOrder 2 (some .boolean) (37, 0, 0) [.ref g] h z (fun r h' z' => r = some (.int (b2i (pOd (tkk n f) (tku n f) s).1)) ∧ z' = z ∧ (∃ dp' ir' W', GrI X K h' g p n f (pOd (tkk n f) (tku n f) s).2.1 dp' ir' W' ∧ ((pOd (tkk n f) (tku n f) s).1 = true → dp' = 0 ∧ OrOk K n f (pOd (tkk n f) (tku n f) s).2 W')) ∧ OffG h h' g p) gNoX := by
  have hI0 := hI
  have hd0 := hd
  have hs := hB.1
  have herr := se_err (n := n) (f := f) s.1.2.2
  have hsw := seF_order (n := n) (f := f) (V := s.1.2.2) (t := s.1.1)
  have hno := hs.ws.2
  unfold ApG at hd
  obtain ⟨ep, S, gg, hg, hep, hT, hP, hst, hws⟩ := hI
  obtain ⟨kf, S1, T1, en, hTT, hR⟩ := id hT
  refine gM.of px1 (Nat.le_of_ble_eq_true rfl) ?_
  intro F hE
  by_cases ha : 6 ≤ tkk n f s.1.1 ∧ tkk n f s.1.1 ≤ 9
  case neg =>
    have e1 : pOd (tkk n f) (tku n f) s = (false, s) := if_neg ha
    rw [e1] at hE
    refine g_aload_n dX1_readOrder_0 rfl ?_
    refine g_getf fl1_12 hg rfl dX1_readOrder_1 ?_
    refine g_getf fl1_41 hTT.1.1 rfl dX1_readOrder_4 ?_
    refine g_callS0 kX1_98 (m1_isAction (tkk_lt n f s.1.1) hK) rfl rfl (Nat.le_of_ble_eq_true rfl) (by decide) (by decide) (by decide) (by decide) dX1_readOrder_7 ?_
    rintro v1 h2 z1 ⟨rfl, rfl, rfl⟩
    refine g_if_neB 15 dX1_readOrder_10 (by decide) (fun c_10 => ?_) (fun c_10 => ?_)
    · exact absurd (of_decide_eq_true c_10) ha
    · refine g_iconst (nI 0) dX1_readOrder_13 (by decide) ?_
      exact g_iret hE rfl (⟨rfl, rfl, ⟨0, ir, W, hI0, fun q => by cases q⟩, OffG.rf⟩) dX1_readOrder_14
  have hlt := tk_lt (n := n) (f := f) (t := s.1.1) (by omega) hs.1
  have e1 : pOd (tkk n f) (tku n f) s = pOr (tkk n f) (tku n f) s := if_pos ha
  rw [e1, pOr_eq] at hE
  have hA := hs.act (by omega)
  obtain ⟨w, hw, hWp⟩ := pWh_ok (n := n) (f := f) (tkk n f s.1.1)
  have hq := PsOk.step hA hWp (by decide) hw
  obtain ⟨X0, V0, a1, a2, -⟩ := hA.mono hWp
  obtain ⟨t1, Y0, U0, t2, -⟩ := pTs_ok hq
  have v1 : (pWh (tkk n f) (tku n f) (tkk n f s.1.1) (pAc s.1)).2.2.2 = s.1.2.2 ++ ((2, s.1.1) :: V0) := by
    rw [show (pWh (tkk n f) (tku n f) (tkk n f s.1.1) (pAc s.1)).2.2.2 = (s.1.2.2 ++ [(2, s.1.1)]) ++ V0 from by rw [a1]]; simp only [List.append_assoc, List.cons_append, List.nil_append]
  have v2 : (pTs (tkk n f) (tku n f) (pWh (tkk n f) (tku n f) (tkk n f s.1.1) (pAc s.1)).2).2.2.2 = s.1.2.2 ++ ((2, s.1.1) :: (V0 ++ U0)) := by
    rw [show (pTs (tkk n f) (tku n f) (pWh (tkk n f) (tku n f) (tkk n f s.1.1) (pAc s.1)).2).2.2.2 = (pWh (tkk n f) (tku n f) (tkk n f s.1.1) (pAc s.1)).2.2.2 ++ U0 from by rw [t2], v1]; simp only [List.append_assoc, List.cons_append]
  obtain ⟨k, hk⟩ : ∃ k, k = (if (seF n f s.1.2.2).2.1 < 16 then (seF n f s.1.2.2).2.1 else 15) := ⟨_, rfl⟩
  have hk16 : k < 16 := by rw [hk]; split <;> omega
  have hkl : (seF n f (pTs (tkk n f) (tku n f) (pWh (tkk n f) (tku n f) (tkk n f s.1.1) (pAc s.1)).2).2.2.2).2.2.1 = 0 → s.2.length = k := fun q => by
    rw [v2] at q
    have q1 := (seF_mono (V := s.1.2.2 ++ [(2, s.1.1)]) (U := V0 ++ U0) (by rw [List.append_assoc]; exact q)).1
    have q0 := (seF_mono q1).1
    rw [hsw] at q1
    have q2 : (if (seF n f s.1.2.2).2.2.1 = 0 then ((if 16 ≤ (seF n f s.1.2.2).2.1 then 4 else 0), s.1.1) else (seF n f s.1.2.2).2.2).1 = 0 := q1
    rw [if_pos q0] at q2
    have q3 : ¬ 16 ≤ (seF n f s.1.2.2).2.1 := fun q9 => by rw [if_pos q9] at q2; cases q2
    rw [hk, if_pos (by omega), hB.2.1, seF_cnt q0]
  have hO0 : ∀ (W3 : gWo), (∀ i, i ≠ k → W3.1 (8 + i) = W.1 (8 + i) ∧ W3.2.1 (8 + i) = W.2.1 (8 + i) ∧ W3.2.2.1 i = W.2.2.1 i ∧ ∀ j, W3.2.2.2 i j = W.2.2.2 i j) → ((seF n f (pTs (tkk n f) (tku n f) (pWh (tkk n f) (tku n f) (tkk n f s.1.1) (pAc s.1)).2).2.2.2).2.2.1 = 0 → OrF K n f (pTs (tkk n f) (tku n f) (pWh (tkk n f) (tku n f) (tkk n f s.1.1) (pAc s.1)).2).2.2.2 W3 k (tkk n f s.1.1, s.1.1 + 1, s.1.2.1.length, (pWh (tkk n f) (tku n f) (tkk n f s.1.1) (pAc s.1)).2.2.1.length, (pTs (tkk n f) (tku n f) (pWh (tkk n f) (tku n f) (tkk n f s.1.1) (pAc s.1)).2).2.2.1.length)) → OrOk K n f ((pTs (tkk n f) (tku n f) (pWh (tkk n f) (tku n f) (tkk n f s.1.1) (pAc s.1)).2).2, s.2 ++ [(tkk n f s.1.1, s.1.1 + 1, s.1.2.1.length, (pWh (tkk n f) (tku n f) (tkk n f s.1.1) (pAc s.1)).2.2.1.length, (pTs (tkk n f) (tku n f) (pWh (tkk n f) (tku n f) (tkk n f s.1.1) (pAc s.1)).2).2.2.1.length)]) W3 :=
    fun W3 b1 b2 => hO.snoc hB v2 hkl b1 b2
  have fin3 : ∀ (h1 : gH) (ir1 : Int32) (W1 : gWo), (pTs (tkk n f) (tku n f) (pWh (tkk n f) (tku n f) (tkk n f s.1.1) (pAc s.1)).2).1 = true → (pWh (tkk n f) (tku n f) (tkk n f s.1.1) (pAc s.1)).1 = true → GrI X K h1 g p n f (pTs (tkk n f) (tku n f) (pWh (tkk n f) (tku n f) (tkk n f s.1.1) (pAc s.1)).2).2 0 ir1 W1 → OffG h h1 g p → (∀ i, i ≠ k → W1.1 (8 + i) = W.1 (8 + i) ∧ W1.2.1 (8 + i) = W.2.1 (8 + i) ∧ W1.2.2.1 i = W.2.2.1 i ∧ ∀ j, W1.2.2.2 i j = W.2.2.2 i j) → W1.2.2.1 k = K.1 (tkk n f s.1.1) → (tkk n f s.1.1 = 6 → hsD (tkn n f (s.1.1 + 1)) = false → wdf (W1.1 (8 + k)) (W1.2.1 (8 + k)) (tkn n f (s.1.1 + 1))) → (tkk n f s.1.1 = 7 → W1.2.2.2 k 0 = oI (fnd (seF n f (pAc s.1).2.2).1 (tkn n f (s.1.1 + 1)))) → W1.2.2.2 k 1 = nI s.1.2.1.length → W1.2.2.2 k 2 = nI (pWh (tkk n f) (tku n f) (tkk n f s.1.1) (pAc s.1)).2.2.1.length → G X F cX1_readOrder 2 yX1_readOrder.cls (37, 0, 0) 0 0 109 [some (.ref g), some (.ref (p + 21 + 3 * k))] [] h1 z := by
    intro h1 ir1 W1 hts hwt hI1 hO1 f1 f2 f3 f4 f5 f6
    rw [if_pos hwt, if_pos hts] at hE
    have ho1 := hI1.orc hk16
    obtain ⟨ep1, S2, gg1, hg1, -⟩ := id hI1
    obtain ⟨r0, r1, r2, r6, hp1⟩ := hI1.plc
    obtain ⟨W2, hI2, x1, x2, x3, x4, x5⟩ := hI1.ord2 hd0 hk16 (W1.2.2.1 k) (upd (W1.2.2.2 k) 3 (nI (pTs (tkk n f) (tku n f) (pWh (tkk n f) (tku n f) (tkk n f s.1.1) (pAc s.1)).2).2.2.1.length))
    refine g_aload_n dX1_readOrder_109 rfl ?_
    refine g_aload_n dX1_readOrder_110 rfl ?_
    refine g_getf fl1_21 hg1 rfl dX1_readOrder_111 ?_
    refine g_getf fl1_113 hp1 rfl dX1_readOrder_114 ?_
    refine g_putf fl1_132 (ho1) rfl rfl rfl (Nat.le_of_ble_eq_true rfl) dX1_readOrder_117 ?_
    refine g_iconst (nI 1) dX1_readOrder_120 (by decide) ?_
    refine g_iret hE rfl ⟨rfl, rfl, ⟨0, ir1, W2, hI2, fun _ => ⟨rfl, hO0 W2 (fun i hi => ?_) (fun q => ?_)⟩⟩, fun q a1 a2 => (gset_ne (by omega)).trans (hO1 q a1 a2)⟩ dX1_readOrder_121
    · rw [x1, x2, (x3 i hi).1, (x3 i hi).2]; exact f1 i hi
    · unfold OrF
      rw [x1, x2, x4, x5]
      have qq := q
      rw [v2] at qq
      obtain ⟨-, -, -, hfn⟩ := seF_fine (n := n) (f := f) (s.1.2.2 ++ ((2, s.1.1) :: (V0 ++ U0))) ([], 0, 0, 0) qq
      refine ⟨f2, fun q6 => f3 q6 ?_, fun q7 => ?_, ?_, ?_, ?_⟩
      · have e5 := hwt; have a5 := a1
        have q6 : tkk n f s.1.1 = 6 := q6
        rw [q6] at e5 a5
        have e6 : pWh (tkk n f) (tku n f) 6 = pNm (tkk n f) 3 := rfl
        rw [e6] at e5 a5
        rw [pNm_y (pNm_1 e5)] at a5
        have a6 : (s.1.2.2 ++ [(2, s.1.1)]) ++ [(3, s.1.1 + 1)] = (s.1.2.2 ++ [(2, s.1.1)]) ++ V0 := (Prod.ext_iff.mp a5).2
        have a7 := List.append_cancel_left a6
        exact (hfn (3, s.1.1 + 1) (by rw [← a7]; simp)).1 rfl
      · show upd (W1.2.2.2 k) 3 _ 0 = _
        rw [upd_ne (by decide), f4 q7]
        have e5 := hwt; have a5 := a1
        have q7 : tkk n f s.1.1 = 7 := q7
        rw [q7] at e5 a5
        have e6 : pWh (tkk n f) (tku n f) 7 = pNm (tkk n f) 4 := rfl
        rw [e6] at e5 a5
        rw [pNm_y (pNm_1 e5)] at a5
        have a6 : (s.1.2.2 ++ [(2, s.1.1)]) ++ [(4, s.1.1 + 1)] = (s.1.2.2 ++ [(2, s.1.1)]) ++ V0 := (Prod.ext_iff.mp a5).2
        have a7 := List.append_cancel_left a6
        rw [← a7] at v2
        have v3 : (pTs (tkk n f) (tku n f) (pWh (tkk n f) (tku n f) (tkk n f s.1.1) (pAc s.1)).2).2.2.2 = ((s.1.2.2 ++ [(2, s.1.1)]) ++ [(4, s.1.1 + 1)]) ++ U0 := by rw [v2]; simp only [List.append_assoc, List.cons_append, List.nil_append]
        rw [v3] at q ⊢
        rw [seF_keep q (t := s.1.1 + 1) (by simp), seF_name (Or.inl rfl)]
      · show upd (W1.2.2.2 k) 3 _ 1 = _
        rw [upd_ne (by decide)]; exact f5
      · show upd (W1.2.2.2 k) 3 _ 2 = _
        rw [upd_ne (by decide)]; exact f6
      · exact upd_same
  have fin2 : ∀ (h1 : gH) (er1 : Nat) (ep1 : Int32), h1 g = some (grF g p ep1 0 er1 ir) → OffB h h1 g 1 → er1 = (seF n f (s.1.2.2 ++ [(2, s.1.1)])).2.2.1 → ep1 = (if (seF n f (s.1.2.2 ++ [(2, s.1.1)])).2.2.1 = 0 then -1 else nI (tks n f (seF n f (s.1.2.2 ++ [(2, s.1.1)])).2.2.2)) → G X F cX1_readOrder 2 yX1_readOrder.cls (37, 0, 0) 0 0 32 [some (.ref g), none] [] h1 z := by
    intro h1 er1 ep1 hg1 hO1 ee1 ee2
    have hP1 := hP.off hO1 (by omega)
    have hT1 := hT.off hO1 (by omega)
    refine g_aload_n dX1_readOrder_32 rfl ?_
    refine g_getf fl1_21 hg1 rfl dX1_readOrder_33 ?_
    refine g_callV0 kX1_104 (m4_addOrder hno hP1) hP1.1 rfl rfl rfl (Nat.le_of_ble_eq_true rfl) (by decide) (by decide) (Nat.zero_le _) (Nat.zero_le _) dX1_readOrder_36 ?_
    rintro v1 h2 z1 ⟨rfl, rfl, hP2, hO2⟩
    rw [← hk]
    have hI2 : GrI X K h2 g p n f (s.1.1, s.1.2.1, s.1.2.2 ++ [(2, s.1.1)]) 0 ir W := ⟨ep1, S, gg, by rw [← ee1]; exact (hO2 g (by omega)).trans hg1, ee2, hT1.off hO2 (by omega), (by
      show PlB X h2 p (seF n f (s.1.2.2 ++ [(2, s.1.1)])).1.length (seF n f (s.1.2.2 ++ [(2, s.1.1)])).2.1 _ _ _ _ _ _ _
      rw [hsw]
      by_cases e16 : (seF n f s.1.2.2).2.1 < 16
      · rw [if_pos e16] at hP2
        show PlB X h2 p (seF n f s.1.2.2).1.length (if 16 ≤ (seF n f s.1.2.2).2.1 then (seF n f s.1.2.2).2.1 else (seF n f s.1.2.2).2.1 + 1) _ _ _ _ _ _ _
        rw [if_neg (by omega)]; exact hP2
      · rw [if_neg e16] at hP2
        show PlB X h2 p (seF n f s.1.2.2).1.length (if 16 ≤ (seF n f s.1.2.2).2.1 then (seF n f s.1.2.2).2.1 else (seF n f s.1.2.2).2.1 + 1) _ _ _ _ _ _ _
        rw [if_pos (by omega)]; exact hP2), (by
      intro j x hx
      have := hst j x hx
      refine ⟨this.1, fun q => ?_⟩
      have q1 := (seF_mono q).1
      have q2 := this.2 q1
      rw [q2]
      show _ = xvW n f (seF n f (s.1.2.2 ++ [(2, s.1.1)])).1 x
      rw [hsw]), (by
      intro i D hD
      have hD2 : (seF n f (s.1.2.2 ++ [(2, s.1.1)])).1[i]? = some D := hD
      rw [hsw] at hD2
      exact hws i D hD2)⟩
    have hO12 : OffG h h2 g p := (hO1.toG (by omega)).trans (hO2.toG (by omega))
    have ho2 := hI2.orc hk16
    obtain ⟨ep2, S2, gg2, hg2, -, hT2, -⟩ := id hI2
    obtain ⟨kf2, S12, T12, en2, hTT2, -⟩ := id hT2
    obtain ⟨W3, hI3, b1, b2, b3, b4, b5⟩ := hI2.ord2 hd0 hk16 (K.1 (tkk n f s.1.1)) (W.2.2.2 k)
    have ho3 := hI3.orc hk16
    obtain ⟨ep3, S3, gg3, hg3, -⟩ := id hI3
    obtain ⟨r0, r1, r2, r6, hp3⟩ := hI3.plc
    obtain ⟨W4, hI4, c1, c2, c3, c4, c5⟩ := hI3.ord2 hd0 hk16 (W3.2.2.1 k) (upd (W3.2.2.2 k) 1 (nI s.1.2.1.length))
    obtain ⟨ep4, S4, gg4, hg4, -, hT4, -⟩ := id hI4
    obtain ⟨kf4, S14, T14, en4, hTT4, -⟩ := id hT4
    have hO14 : ∀ e1 e2, OffG h (gset (gset h2 (p + 21 + 3 * k) e1) (p + 21 + 3 * k) e2) g p := fun e1 e2 q a1 a2 => (gset_ne (by omega)).trans ((gset_ne (by omega)).trans (hO12 q a1 a2))
    refine g_astore_n dX1_readOrder_39 (by decide) rfl ?_
    refine g_aload_n dX1_readOrder_40 rfl ?_
    refine g_aload_n dX1_readOrder_41 rfl ?_
    refine g_getf fl1_12 hg2 rfl dX1_readOrder_42 ?_
    refine g_getf fl1_41 hTT2.1.1 rfl dX1_readOrder_45 ?_
    refine g_putf fl1_108 (ho2) rfl rfl rfl (Nat.le_of_ble_eq_true rfl) dX1_readOrder_48 ?_
    refine g_aload_n dX1_readOrder_51 rfl ?_
    refine g_aload_n dX1_readOrder_52 rfl ?_
    refine g_getf fl1_21 hg3 rfl dX1_readOrder_53 ?_
    refine g_getf fl1_113 hp3 rfl dX1_readOrder_56 ?_
    refine g_putf fl1_116 (ho3) rfl rfl rfl (Nat.le_of_ble_eq_true rfl) dX1_readOrder_59 ?_
    refine g_aload_n dX1_readOrder_62 rfl ?_
    refine g_getf fl1_12 hg4 rfl dX1_readOrder_63 ?_
    refine g_callV0 kX1_70 (m8_advance hlt hT4) hTT4.1.1 rfl rfl rfl (Nat.le_of_ble_eq_true rfl) (by decide) (by decide) (Nat.zero_le _) (Nat.zero_le _) dX1_readOrder_66 ?_
    rintro v1 h5 z1 ⟨rfl, rfl, hT5, hO5⟩
    have hI5 := hI4.adv hd0 hT5 hO5
    have hO15 := (hO14 _ _).trans (hO5.toG (by omega))
    obtain ⟨ep5, S5, gg5, hg5, -⟩ := id hI5
    refine g_aload_n dX1_readOrder_69 rfl ?_
    refine g_aload_n dX1_readOrder_70 rfl ?_
    refine g_callV0 kX1_119 (m1_readWhat (dp := 0) (tkk n f s.1.1) k hk16 ha hK hd0 hn hA hI5 (by rw [c4, b4])) hg5 rfl rfl rfl (Nat.le_of_ble_eq_true rfl) (by decide) (by decide) (Nat.zero_le _) (Nat.zero_le _) dX1_readOrder_71 ?_
    rintro v1 h6 z1 ⟨rfl, rfl, ⟨dp6, ir6, W6, hI6, hM6, hd6⟩, hO6⟩
    have hO16 := hO15.trans hO6
    refine g_if_neB 79 dX1_readOrder_74 (by decide) (fun c_74 => ?_) (fun c_74 => ?_)
    · obtain ⟨rfl, y6, y7⟩ := hd6 c_74
      have ho6 := hI6.orc hk16
      obtain ⟨ep6, S6, gg6, hg6, -⟩ := id hI6
      obtain ⟨u0, u1, u2, u6, hp6⟩ := hI6.plc
      obtain ⟨W7, hI7, d1, d2, d3, d4, d5⟩ := hI6.ord2 hd0 hk16 (W6.2.2.1 k) (upd (W6.2.2.2 k) 2 (nI (pWh (tkk n f) (tku n f) (tkk n f s.1.1) (pAc s.1)).2.2.1.length))
      obtain ⟨ep7, S7, gg7, hg7, -⟩ := id hI7
      have hO17 : ∀ e1, OffG h (gset h6 (p + 21 + 3 * k) e1) g p := fun e1 q a1 a2 => (gset_ne (by omega)).trans (hO16 q a1 a2)
      have W7a : ∀ i, i ≠ k → W7.1 (8 + i) = W.1 (8 + i) ∧ W7.2.1 (8 + i) = W.2.1 (8 + i) ∧ W7.2.2.1 i = W.2.2.1 i ∧ ∀ j, W7.2.2.2 i j = W.2.2.2 i j := fun i hi => by
        have m2 := hM6.2.1 (8 + i) (by omega)
        refine ⟨by rw [d1, m2.1, c1, b1], by rw [d2, m2.2, c2, b2], by rw [(d3 i hi).1, hM6.1, (c3 i hi).1, (b3 i hi).1], fun j => by rw [(d3 i hi).2, hM6.2.2 i j (Or.inl hi), (c3 i hi).2, (b3 i hi).2]⟩
      have W7b : W7.2.2.1 k = K.1 (tkk n f s.1.1) := by rw [d4, hM6.1, c4, b4]
      have W7c : tkk n f s.1.1 = 6 → hsD (tkn n f (s.1.1 + 1)) = false → wdf (W7.1 (8 + k)) (W7.2.1 (8 + k)) (tkn n f (s.1.1 + 1)) := fun q => by rw [d1, d2]; exact y6 q
      have W7d : tkk n f s.1.1 = 7 → W7.2.2.2 k 0 = oI (fnd (seF n f (pAc s.1).2.2).1 (tkn n f (s.1.1 + 1))) := fun q => by rw [d5, upd_ne (by decide)]; exact y7 q
      have W7e : W7.2.2.2 k 1 = nI s.1.2.1.length := by rw [d5, upd_ne (by decide), hM6.2.2 k 1 (Or.inr (by decide)), c5, upd_same]
      have W7f : W7.2.2.2 k 2 = nI (pWh (tkk n f) (tku n f) (tkk n f s.1.1) (pAc s.1)).2.2.1.length := by rw [d5, upd_same]
      refine g_aload_n dX1_readOrder_79 rfl ?_
      refine g_aload_n dX1_readOrder_80 rfl ?_
      refine g_getf fl1_21 hg6 rfl dX1_readOrder_81 ?_
      refine g_getf fl1_113 hp6 rfl dX1_readOrder_84 ?_
      refine g_putf fl1_123 (ho6) rfl rfl rfl (Nat.le_of_ble_eq_true rfl) dX1_readOrder_87 ?_
      refine g_aload_n dX1_readOrder_90 rfl ?_
      refine g_gets (hK.1 10 (by decide)).1 wgX1_126 dX1_readOrder_91 ?_
      refine g_callV0 kX1_63 (m1_take (s := (pWh (tkk n f) (tku n f) (tkk n f s.1.1) (pAc s.1)).2) 10 (by decide) (by decide) hK hd0 hq.1 hI7) hg7 rfl rfl rfl (Nat.le_of_ble_eq_true rfl) (by decide) (by decide) (Nat.zero_le _) (Nat.zero_le _) dX1_readOrder_94 ?_
      rintro v1 h8 z1 ⟨rfl, rfl, hI8, hO8⟩
      have hO18 := (hO17 _).trans hO8
      obtain ⟨ep8, S8, gg8, hg8, -⟩ := id hI8
      refine g_if_eqB 109 dX1_readOrder_97 (by decide) (fun c_97 => ?_) (fun c_97 => ?_)
      · have hk10 : ¬ tkk n f (pWh (tkk n f) (tku n f) (tkk n f s.1.1) (pAc s.1)).2.1 = 10 := fun e => by rw [pTk_y e] at c_97; cases c_97
        have hts : (pTs (tkk n f) (tku n f) (pWh (tkk n f) (tku n f) (tkk n f s.1.1) (pAc s.1)).2) = (true, (pWh (tkk n f) (tku n f) (tkk n f s.1.1) (pAc s.1)).2) := if_neg hk10
        rw [show pTk (tkk n f) 10 (pWh (tkk n f) (tku n f) (tkk n f s.1.1) (pAc s.1)).2 = (false, (pWh (tkk n f) (tku n f) (tkk n f s.1.1) (pAc s.1)).2) from if_neg hk10] at hI8
        exact fin3 _ ir6 W7 (by rw [hts]) c_74 (by rw [hts]; exact hI8) hO18 W7a W7b W7c W7d W7e W7f
      · refine g_aload_n dX1_readOrder_100 rfl ?_
        have hk10 : tkk n f (pWh (tkk n f) (tku n f) (tkk n f s.1.1) (pAc s.1)).2.1 = 10 := pTk_1 c_97
        rw [pTk_y hk10] at hI8
        have hq8 := hq.step (Ps.tk (tkl_spec n f).2.1 (c := 10) (by decide)) (by decide) (by decide)
        rw [pTk_y hk10] at hq8
        have hts : (pTs (tkk n f) (tku n f) (pWh (tkk n f) (tku n f) (tkk n f s.1.1) (pAc s.1)).2) = (lvT (tkk n f) (tku n f) 8).2 ((pWh (tkk n f) (tku n f) (tkk n f s.1.1) (pAc s.1)).2.1 + 1, (pWh (tkk n f) (tku n f) (tkk n f s.1.1) (pAc s.1)).2.2) := if_pos hk10
        refine g_callV0 kX1_129 ((lvT_ct hK hd0 hn 8 (Nat.le_refl _)).2 _ _ _ _ _ hq8 hI8) hg8 rfl rfl rfl (Nat.le_of_ble_eq_true rfl) (by decide) (by decide) (Nat.zero_le _) (Nat.zero_le _) dX1_readOrder_101 ?_
        rintro v1 h9 z1 ⟨rfl, rfl, ⟨dp9, ir9, hI9, hd9⟩, hO9⟩
        rw [← hts] at hI9 hd9 ⊢
        have hO19 := hO18.trans hO9
        refine g_if_neB 109 dX1_readOrder_104 (by decide) (fun c_104 => ?_) (fun c_104 => ?_)
        · obtain rfl := hd9 c_104
          exact fin3 _ ir9 W7 c_104 c_74 hI9 hO19 W7a W7b W7c W7d W7e W7f
        · refine g_iconst (nI 0) dX1_readOrder_107 (by decide) ?_
          rw [if_pos c_74, if_neg (by rw [c_104]; decide)] at hE
          exact g_iret hE rfl ⟨rfl, rfl, ⟨dp9, ir9, W7, hI9, fun q => by cases q⟩, hO19⟩ dX1_readOrder_108
    · refine g_iconst (nI 0) dX1_readOrder_77 (by decide) ?_
      rw [if_neg (by rw [c_74]; decide)] at hE
      exact g_iret hE rfl ⟨rfl, rfl, ⟨dp6, ir6, W6, hI6, fun q => by cases q⟩, hO16⟩ dX1_readOrder_78
  refine g_aload_n dX1_readOrder_0 rfl ?_
  refine g_getf fl1_12 hg rfl dX1_readOrder_1 ?_
  refine g_getf fl1_41 hTT.1.1 rfl dX1_readOrder_4 ?_
  refine g_callS0 kX1_98 (m1_isAction (tkk_lt n f s.1.1) hK) rfl rfl (Nat.le_of_ble_eq_true rfl) (by decide) (by decide) (by decide) (by decide) dX1_readOrder_7 ?_
  rintro v1 h2 z1 ⟨rfl, rfl, rfl⟩
  refine g_if_neB 15 dX1_readOrder_10 (by decide) (fun c_10 => ?_) (fun c_10 => ?_)
  · refine g_aload_n dX1_readOrder_15 rfl ?_
    refine g_getf fl1_21 hg rfl dX1_readOrder_16 ?_
    refine g_getf fl1_101 hP.1 rfl dX1_readOrder_19 ?_
    refine g_bipush (nI 16) dX1_readOrder_22 (by decide) ?_
    refine g_icmp_ltN 32 dX1_readOrder_24 (by decide) (by omega) (by omega) (fun c_24 => ?_) (fun c_24 => ?_)
    · have h16 : ¬ 16 ≤ (seF n f s.1.2.2).2.1 := by omega
      refine fin2 _ _ _ hg OffB.rf ?_ ?_
      · rw [hsw]; by_cases e : (seF n f s.1.2.2).2.2.1 = 0
        · simp only [if_pos e, if_neg h16]; exact e
        · simp only [if_neg e]
      · rw [hsw, hep]; by_cases e : (seF n f s.1.2.2).2.2.1 = 0
        · simp only [if_pos e, if_neg h16]; rfl
        · simp only [if_neg e]
    · refine g_aload_n dX1_readOrder_27 rfl ?_
      refine g_iconst (nI 4) dX1_readOrder_28 (by decide) ?_
      refine g_callV0 kX1_84 (m1_note 4 herr hg hT) hg rfl rfl rfl (Nat.le_of_ble_eq_true rfl) (by decide) (by decide) (by decide) (by decide) dX1_readOrder_29 ?_
      rintro v1 h3 z1 ⟨rfl, rfl, hg3, hO3⟩
      have h16 : 16 ≤ (seF n f s.1.2.2).2.1 := by omega
      refine fin2 _ _ _ hg3 hO3 ?_ ?_
      · rw [hsw]; by_cases e : (seF n f s.1.2.2).2.2.1 = 0
        · simp only [if_pos e, if_pos h16]
        · simp only [if_neg e]
      · rw [hsw, hep]; by_cases e : (seF n f s.1.2.2).2.2.1 = 0
        · simp only [if_pos e, if_pos h16]; rfl
        · simp only [if_neg e]
  · exact absurd ha (of_decide_eq_false c_10)
