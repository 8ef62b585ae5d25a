/-! the grammar: the plan is read -/
theorem PlB.nss {X : gX} {h : gH} {p nw no ns ns' : Nat} {S : Nat → Option Nat} {g : Nat → Int32} {wn : Nat → Nat} {wf : Nat → Nat → Int32} {oA : Nat → Nat} {oJ : Nat → Nat → Int32} (hP : PlB X h p nw no ns S g wn wf oA oJ) : PlB X (gset h p (.inr (3, [.ref (p + 1), .ref (p + 2), .ref (p + 3), .int (nI nw), .int (nI no), .int (nI ns'), .ref (p + 4)]))) p nw no ns' S g wn wf oA oJ := by
  obtain ⟨h1, ⟨f2, h2, g2⟩, h3, h4, ⟨f5, h5, g5⟩, h6, h7⟩ := hP
  exact ⟨gset_same, ⟨f2, (gset_ne (by omega)).trans h2, g2⟩, (gset_ne (by omega)).trans h3, (gset_ne (by omega)).trans h4, ⟨f5, (gset_ne (by omega)).trans h5, g5⟩, fun i hi => (h6 i hi).off (b := p) (m := 1) (fun q hq => gset_ne (by omega)) (by omega), fun k hk => ⟨(gset_ne (by omega)).trans (h7 k hk).1, (h7 k hk).2.off (b := p) (m := 1) (fun q hq => gset_ne (by omega)) (by omega)⟩⟩
set_option maxRecDepth 100000 in
set_option maxHeartbeats 4000000 in
theorem m4_clear {X : gX} {h : gH} {z p nw no ns : Nat} {S : Nat → Option Nat} {g : Nat → Int32} {wn : Nat → Nat} {wf : Nat → Nat → Int32} {oA : Nat → Nat} {oJ : Nat → Nat → Int32} (hP : PlB X h p nw no ns S g wn wf oA oJ) : gM X yX4_clear cX4_clear 1 none (0, 0, 0) [.ref p] h z (fun r h' z' => r = none ∧ z' = z ∧ PlB X h' p 0 0 0 S g wn wf oA oJ ∧ OffB h h' p 1) gNoX := by
  have hPa := hP.nws (nw' := 0)
  have hPb := hPa.nos (no' := 0)
  have hPc := hPb.nss (ns' := 0)
  refine gM.of px4 (Nat.le_of_ble_eq_true rfl) ?_
  intro F hE
  refine g_aload_n dX4_clear_0 rfl ?_
  refine g_iconst (nI 0) dX4_clear_1 (by decide) ?_
  refine g_putf fl4_39 (hP.1) rfl rfl rfl (Nat.le_of_ble_eq_true rfl) dX4_clear_2 ?_
  refine g_aload_n dX4_clear_5 rfl ?_
  refine g_iconst (nI 0) dX4_clear_6 (by decide) ?_
  refine g_putf fl4_43 (hPa.1) rfl rfl rfl (Nat.le_of_ble_eq_true rfl) dX4_clear_7 ?_
  refine g_aload_n dX4_clear_10 rfl ?_
  refine g_iconst (nI 0) dX4_clear_11 (by decide) ?_
  refine g_putf fl4_46 (hPb.1) rfl rfl rfl (Nat.le_of_ble_eq_true rfl) dX4_clear_12 ?_
  exact g_vret hE (⟨rfl, rfl, hPc, ((OffB.rf.put (by omega) (by omega)).put (by omega) (by omega)).put (by omega) (by omega)⟩) dX4_clear_15
