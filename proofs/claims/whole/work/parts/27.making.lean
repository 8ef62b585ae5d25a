/-! what is made: Word, Tape, Squawks -/
theorem wob : Cond.instanceMethod objectInit ∈ lw_tbl ∧ Cond.code objectInit ⟨#[0xb1]⟩ 1 none ∈ lw_tbl := ⟨gm1 33 (by decide +kernel), gm1 34 (by decide +kernel)⟩
theorem woX10 : Cond.methodLink RX10 1 objectInit ∈ lw_tbl := gm1 32 (by decide +kernel)
theorem woX1 : Cond.methodLink RX1 3 objectInit ∈ lw_tbl := gm1 40 (by decide +kernel)
theorem woX8 : Cond.methodLink RX8 3 objectInit ∈ lw_tbl := gm1 46 (by decide +kernel)
theorem woX6 : Cond.methodLink RX6 3 objectInit ∈ lw_tbl := gm1 52 (by decide +kernel)
theorem woX4 : Cond.methodLink RX4 3 objectInit ∈ lw_tbl := gm1 103 (by decide +kernel)
theorem woX9 : Cond.methodLink RX9 3 objectInit ∈ lw_tbl := gm1 113 (by decide +kernel)
theorem woX2 : Cond.methodLink RX2 1 objectInit ∈ lw_tbl := gm1 129 (by decide +kernel)
theorem woX3 : Cond.methodLink RX3 3 objectInit ∈ lw_tbl := gm1 217 (by decide +kernel)
theorem woX5 : Cond.methodLink RX5 3 objectInit ∈ lw_tbl := gm1 223 (by decide +kernel)
theorem woX12 : Cond.methodLink RX12 1 objectInit ∈ lw_tbl := gm5 203 (by decide +kernel)
theorem woX11 : Cond.methodLink RX11 3 objectInit ∈ lw_tbl := gm5 209 (by decide +kernel)
theorem wai : Cond.arrayClass .int ∈ lw_tbl := gm1 62 (by decide +kernel)
theorem waj : Cond.arrayClass .long ∈ lw_tbl := gm6 24 (by decide +kernel)
/-- nothing below z but the cell a has changed -/
def NewB (h h' : gH) (a z : Nat) : Prop := ∀ q : Nat, q < z → q ≠ a → h' q = h q

set_option maxRecDepth 100000 in
set_option maxHeartbeats 4000000 in
theorem m9_init {X : gX} {h : gH} {z a : Nat} (ha : h a = some (.inr (7, [.null, .int 0]))) (hz : z = a + 1) : gMc X yX9_init cX9_init 1 (2, 1, 10) [.ref a] h z (fun r h' z' => r = none ∧ z' = z + 1 ∧ WdB X h' a 0 (fun _ => 0) ∧ NewB h h' a z) := by
  subst hz
  refine gMc.of px9 rfl (Nat.le_of_ble_eq_true rfl) ?_
  intro F hE hin
  refine g_aload_n dX9_init_0 rfl ?_
  refine g_obj woX9 wob.1 wob.2 (by decide) (Nat.le_of_ble_eq_true rfl) dX9_init_1 ?_
  refine g_aload_n dX9_init_4 rfl ?_
  refine g_bipush (nI 10) dX9_init_5 (by decide) ?_
  refine g_newI wai (by decide) (by decide) (by decide) dX9_init_7 ?_
  refine g_putF fl9_9 hin rfl ((gset_ne (by omega)).trans ha) rfl rfl rfl (Nat.le_of_ble_eq_true rfl) dX9_init_9 ?_
  exact g_cret hE ⟨rfl, rfl, ⟨gset_same, (gset_ne (by omega)).trans gset_same⟩, fun q h1 h2 => (gset_ne h2).trans (gset_ne (by omega))⟩ dX9_init_12 (by decide) (by decide)
set_option maxRecDepth 100000 in
set_option maxHeartbeats 4000000 in
theorem m5_init {X : gX} {h : gH} {z a : Nat} (ha : h a = some (.inr (4, [.null, .int 0, .null, .null, .null, .null, .int 0, .int 0, .int 0]))) (hz : z = a + 1) : gMc X yX5_init cX5_init 1 (2, 5, 200) [.ref a] h z (fun r h' z' => r = none ∧ z' = z + 5 ∧ SqL sqCa X h' a [] ∧ NewB h h' a z) := by
  subst hz
  refine gMc.of px5 rfl (Nat.le_of_ble_eq_true rfl) ?_
  intro F hE hin
  refine g_aload_n dX5_init_0 rfl ?_
  refine g_obj woX5 wob.1 wob.2 (by decide) (Nat.le_of_ble_eq_true rfl) dX5_init_1 ?_
  refine g_aload_n dX5_init_4 rfl ?_
  refine g_bipush (nI 40) dX5_init_5 (by decide) ?_
  refine g_newI wai (by decide) (by decide) (by decide) dX5_init_7 ?_
  refine g_putF fl5_9 hin rfl ((gset_ne (by omega)).trans ha) rfl rfl rfl (Nat.le_of_ble_eq_true rfl) dX5_init_9 ?_
  refine g_aload_n dX5_init_12 rfl ?_
  refine g_bipush (nI 40) dX5_init_13 (by decide) ?_
  refine g_newI wai (by decide) (by decide) (by decide) dX5_init_15 ?_
  refine g_putF fl5_15 hin rfl ((gset_ne (by omega)).trans gset_same) rfl rfl rfl (Nat.le_of_ble_eq_true rfl) dX5_init_17 ?_
  refine g_aload_n dX5_init_20 rfl ?_
  refine g_bipush (nI 40) dX5_init_21 (by decide) ?_
  refine g_newI wai (by decide) (by decide) (by decide) dX5_init_23 ?_
  refine g_putF fl5_18 hin rfl ((gset_ne (by omega)).trans gset_same) rfl rfl rfl (Nat.le_of_ble_eq_true rfl) dX5_init_25 ?_
  refine g_aload_n dX5_init_28 rfl ?_
  refine g_bipush (nI 40) dX5_init_29 (by decide) ?_
  refine g_newI wai (by decide) (by decide) (by decide) dX5_init_31 ?_
  refine g_putF fl5_21 hin rfl ((gset_ne (by omega)).trans gset_same) rfl rfl rfl (Nat.le_of_ble_eq_true rfl) dX5_init_33 ?_
  refine g_aload_n dX5_init_36 rfl ?_
  refine g_bipush (nI 40) dX5_init_37 (by decide) ?_
  refine g_newI wai (by decide) (by decide) (by decide) dX5_init_39 ?_
  refine g_putF fl5_24 hin rfl ((gset_ne (by omega)).trans gset_same) rfl rfl rfl (Nat.le_of_ble_eq_true rfl) dX5_init_41 ?_
  refine g_cret hE ⟨rfl, rfl, ⟨0, fun _ => 0, fun _ _ => 0, ⟨gset_same, fun k hk => ?_⟩, rfl, by decide, fun i hi => absurd hi (Nat.not_lt_zero _), Or.inl rfl⟩, fun q h1 h2 => ?_⟩ dX5_init_44 (by decide) (by decide)
  · rcases (show k = 0 ∨ k = 1 ∨ k = 2 ∨ k = 3 ∨ k = 4 by omega) with rfl | rfl | rfl | rfl | rfl <;> (repeat (first | exact gset_same | refine (gset_ne (by omega)).trans ?_))
  · simp only [gset]
    rw [if_neg h2, if_neg (by omega), if_neg h2, if_neg (by omega), if_neg h2, if_neg (by omega), if_neg h2, if_neg (by omega), if_neg h2, if_neg (by omega)]
def TpB (X : gX) (h : gH) (a n : Nat) (f : Nat → Int32) : Prop := h a = some (.inr (5, [.ref (a + 1), .int (nI n)])) ∧ h (a + 1) = some (gIA X 2000 f)
theorem TpB.off {X : gX} {h h' : gH} {a n b m : Nat} {f : Nat → Int32} (hS : TpB X h a n f) (hO : OffB h h' b m) (hd : a + 2 ≤ b ∨ b + m ≤ a) : TpB X h' a n f := ⟨(hO a (by omega)).trans hS.1, (hO _ (by omega)).trans hS.2⟩
set_option maxRecDepth 100000 in
set_option maxHeartbeats 4000000 in
theorem m6_init {X : gX} {h : gH} {z a : Nat} (ha : h a = some (.inr (5, [.null, .int 0]))) (hz : z = a + 1) : gMc X yX6_init cX6_init 1 (2, 1, 2000) [.ref a] h z (fun r h' z' => r = none ∧ z' = z + 1 ∧ TpB X h' a 0 (fun _ => 0) ∧ NewB h h' a z) := by
  subst hz
  refine gMc.of px6 rfl (Nat.le_of_ble_eq_true rfl) ?_
  intro F hE hin
  refine g_aload_n dX6_init_0 rfl ?_
  refine g_obj woX6 wob.1 wob.2 (by decide) (Nat.le_of_ble_eq_true rfl) dX6_init_1 ?_
  refine g_aload_n dX6_init_4 rfl ?_
  refine g_sipush (nI 2000) dX6_init_5 (by decide) ?_
  refine g_newI wai (by decide) (by decide) (by decide) dX6_init_8 ?_
  refine g_putF fl6_9 hin rfl ((gset_ne (by omega)).trans ha) rfl rfl rfl (Nat.le_of_ble_eq_true rfl) dX6_init_10 ?_
  exact g_cret hE ⟨rfl, rfl, ⟨gset_same, (gset_ne (by omega)).trans gset_same⟩, fun q h1 h2 => (gset_ne h2).trans (gset_ne (by omega))⟩ dX6_init_13 (by decide) (by decide)
/-- the byte of a place of the tape, -1 where there is none -/
def byt (n : Nat) (f : Nat → Int32) (p : Nat) : Int32 := if p < n then f p else -1
set_option maxRecDepth 100000 in
set_option maxHeartbeats 4000000 in
theorem m6_byteAt {X : gX} {h : gH} {z a n : Nat} {f : Nat → Int32} (p : Nat) (hp : p < 2 ^ 30) (hn : n ≤ 2000) (hT : TpB X h a n f) : gM X yX6_byteAt cX6_byteAt 2 (some .int) (1, 0, 0) [.ref a, .int (nI p)] h z (pR h z (byt n f p)) gNoX := by
  refine gM.of px6 (Nat.le_of_ble_eq_true rfl) ?_
  intro F hE
  refine g_iload_n dX6_byteAt_0 rfl ?_
  refine g_if_ltN 28 dX6_byteAt_1 (by decide) (by omega) ?_
  refine g_iload_n dX6_byteAt_4 rfl ?_
  refine g_aload_n dX6_byteAt_5 rfl ?_
  refine g_getf fl6_15 hT.1 rfl dX6_byteAt_6 ?_
  refine g_icmp_geN 28 dX6_byteAt_9 (by decide) (by omega) (by omega) (fun c_9 => ?_) (fun c_9 => ?_)
  · refine g_iconst (-1) dX6_byteAt_28 (by decide) ?_
    exact g_iret hE rfl (⟨by rw [byt, if_neg (by omega)], rfl, rfl⟩) dX6_byteAt_29
  · refine g_iload_n dX6_byteAt_12 rfl ?_
    refine g_sipush (nI 2000) dX6_byteAt_13 (by decide) ?_
    refine g_icmp_geN 28 dX6_byteAt_16 (by decide) (by omega) (by omega) (fun c_16 => ?_) (fun c_16 => ?_)
    · exact absurd c_16 (by omega)
    · refine g_aload_n dX6_byteAt_19 rfl ?_
      refine g_getf fl6_9 hT.1 rfl dX6_byteAt_20 ?_
      refine g_iload_n dX6_byteAt_23 rfl ?_
      refine g_ialdN (hT.2) (by omega) (by decide) dX6_byteAt_24 ?_
      refine g_goto 29 dX6_byteAt_25 (by decide) ?_
      exact g_iret hE rfl (⟨by rw [byt, if_pos (by omega)], rfl, rfl⟩) dX6_byteAt_29
