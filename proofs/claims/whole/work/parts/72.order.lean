/-! the grammar: an order as a whole, an insult -/
theorem PlB.nos {X : gX} {h : gH} {p nw no ns no' : Nat} {S : Nat → Option Nat} {g : Nat → Int32} {wn : Nat → Nat} {wf : Nat → Nat → Int32} {oA : Nat → Nat} {oJ : Nat → Nat → Int32} (hP : PlB X h p nw no ns S g wn wf oA oJ) : PlB X (gset h p (.inr (3, [.ref (p + 1), .ref (p + 2), .ref (p + 3), .int (nI nw), .int (nI no'), .int (nI ns), .ref (p + 4)]))) p nw no' ns S g wn wf oA oJ := by
  obtain ⟨h1, ⟨f2, h2, g2⟩, h3, h4, ⟨f5, h5, g5⟩, h6, h7⟩ := hP
  exact ⟨gset_same, ⟨f2, (gset_ne (by omega)).trans h2, g2⟩, (gset_ne (by omega)).trans h3, (gset_ne (by omega)).trans h4, ⟨f5, (gset_ne (by omega)).trans h5, g5⟩, fun i hi => (h6 i hi).off (b := p) (m := 1) (fun q hq => gset_ne (by omega)) (by omega), fun k hk => ⟨(gset_ne (by omega)).trans (h7 k hk).1, (h7 k hk).2.off (b := p) (m := 1) (fun q hq => gset_ne (by omega)) (by omega)⟩⟩
theorem PlB.nws {X : gX} {h : gH} {p nw no ns nw' : Nat} {S : Nat → Option Nat} {g : Nat → Int32} {wn : Nat → Nat} {wf : Nat → Nat → Int32} {oA : Nat → Nat} {oJ : Nat → Nat → Int32} (hP : PlB X h p nw no ns S g wn wf oA oJ) : PlB X (gset h p (.inr (3, [.ref (p + 1), .ref (p + 2), .ref (p + 3), .int (nI nw'), .int (nI no), .int (nI ns), .ref (p + 4)]))) p nw' no ns S g wn wf oA oJ := by
  obtain ⟨h1, ⟨f2, h2, g2⟩, h3, h4, ⟨f5, h5, g5⟩, h6, h7⟩ := hP
  exact ⟨gset_same, ⟨f2, (gset_ne (by omega)).trans h2, g2⟩, (gset_ne (by omega)).trans h3, (gset_ne (by omega)).trans h4, ⟨f5, (gset_ne (by omega)).trans h5, g5⟩, fun i hi => (h6 i hi).off (b := p) (m := 1) (fun q hq => gset_ne (by omega)) (by omega), fun k hk => ⟨(gset_ne (by omega)).trans (h7 k hk).1, (h7 k hk).2.off (b := p) (m := 1) (fun q hq => gset_ne (by omega)) (by omega)⟩⟩
set_option maxRecDepth 100000 in
set_option maxHeartbeats 4000000 in
theorem m4_addOrder {X : gX} {h : gH} {z p nw no ns : Nat} {S : Nat → Option Nat} {g : Nat → Int32} {wn : Nat → Nat} {wf : Nat → Nat → Int32} {oA : Nat → Nat} {oJ : Nat → Nat → Int32} (hno : no ≤ 16) (hP : PlB X h p nw no ns S g wn wf oA oJ) : gM X yX4_addOrder cX4_addOrder 1 (some (.object "ParrotSquawks$Order")) (0, 0, 0) [.ref p] h z (fun r h' z' => r = some (.ref (p + 21 + 3 * (if no < 16 then no else 15))) ∧ z' = z ∧ PlB X h' p nw (if no < 16 then no + 1 else no) ns S g wn wf oA oJ ∧ OffB h h' p 1) gNoX := by
  have hP0 := hP
  obtain ⟨h1, ⟨f2, h2, g2⟩, -⟩ := hP
  refine gM.of px4 (Nat.le_of_ble_eq_true rfl) ?_
  intro F hE
  have fin : ∀ (h1 : gH) (m : Nat), m < 16 → PlB X h1 p nw (m + 1) ns S g wn wf oA oJ → OffB h h1 p 1 → m = (if no < 16 then no else 15) → m + 1 = (if no < 16 then no + 1 else no) → G X F cX4_addOrder 1 yX4_addOrder.cls (0, 0, 0) 0 0 19 [some (.ref p)] [] h1 z := by
    intro h1 m hm hP1 hO1 e1 e2
    rw [← e1, ← e2] at hE
    obtain ⟨k1, ⟨f2, h2, g2⟩, -⟩ := id hP1
    refine g_aload_n dX4_addOrder_19 rfl ?_
    refine g_getf fl4_11 k1 rfl dX4_addOrder_20 ?_
    refine g_aload_n dX4_addOrder_23 rfl ?_
    refine g_getf fl4_43 k1 rfl dX4_addOrder_24 ?_
    refine g_iconst (nI 1) dX4_addOrder_27 (by decide) ?_
    first | refine g_isubN dX4_addOrder_28 (by omega) ?_ | refine g_isub dX4_addOrder_28 ?_
    refine g_aaldN h2 rfl (by omega) (by decide) (g2 m hm) dX4_addOrder_29 ?_
    exact g_aret (C := "ParrotSquawks$Order") hE (⟨rfl, rfl, hP1, hO1⟩) dX4_addOrder_30
  refine g_aload_n dX4_addOrder_0 rfl ?_
  refine g_getf fl4_43 h1 rfl dX4_addOrder_1 ?_
  refine g_bipush (nI 16) dX4_addOrder_4 (by decide) ?_
  refine g_icmp_geN 19 dX4_addOrder_6 (by decide) (by omega) (by omega) (fun c_6 => ?_) (fun c_6 => ?_)
  · exact fin h 15 (by decide) (by rw [show 15 + 1 = no by omega]; exact hP0) OffB.rf (by rw [if_neg (by omega)]) (by rw [if_neg (by omega)]; omega)
  · refine g_aload_n dX4_addOrder_9 rfl ?_
    refine g_dup dX4_addOrder_10 rfl ?_
    refine g_getf fl4_43 h1 rfl dX4_addOrder_11 ?_
    refine g_iconst (nI 1) dX4_addOrder_14 (by decide) ?_
    first | refine g_iaddN dX4_addOrder_15 ?_ | refine g_iadd dX4_addOrder_15 ?_
    refine g_putf fl4_43 (h1) rfl rfl rfl (Nat.le_of_ble_eq_true rfl) dX4_addOrder_16 ?_
    exact fin _ no (by omega) hP0.nos (OffB.rf.put (by omega) (by omega)) (by rw [if_pos (by omega)]) (by rw [if_pos (by omega)])
