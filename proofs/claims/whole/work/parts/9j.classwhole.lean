/-! the class is made, the whole of it; the tape grows; plans are exchanged -/
theorem TkT.newb {X : gX} {h h' : gH} {q b z n la k kd st en : Nat} {f : Nat → Int32} {kf : Nat → Option Nat} {S T : Nat → Int32} (h1 : TkT X h q n f kf S T la k kd st en) (hN : NewB h h' b z) (hz : q + 6 ≤ z) (hb : b < q ∨ q + 6 ≤ b) : TkT X h' q n f kf S T la k kd st en :=
  ⟨⟨(hN _ (by omega) (by omega)).trans h1.1.1, (hN _ (by omega) (by omega)).trans h1.1.2.1, (hN _ (by omega) (by omega)).trans h1.1.2.2.1, (hN _ (by omega) (by omega)).trans h1.1.2.2.2⟩, (hN _ (by omega) (by omega)).trans h1.2.1, (hN _ (by omega) (by omega)).trans h1.2.2⟩
theorem PlB.newb {X : gX} {h h' : gH} {p nw no ns b z : Nat} {S : Nat → Option Nat} {g : Nat → Int32} {wn : Nat → Nat} {wf : Nat → Nat → Int32} {oA : Nat → Nat} {oJ : Nat → Nat → Int32} (hP : PlB X h p nw no ns S g wn wf oA oJ) (hN : NewB h h' b z) (hz : p + 69 ≤ z) (hb : b < p ∨ p + 69 ≤ b) : PlB X h' p nw no ns S g wn wf oA oJ := by
  obtain ⟨h1, ⟨f2, h2, g2⟩, h3, h4, ⟨f5, h5, g5⟩, h6, h7⟩ := hP
  exact ⟨(hN _ (by omega) (by omega)).trans h1, ⟨f2, (hN _ (by omega) (by omega)).trans h2, g2⟩, (hN _ (by omega) (by omega)).trans h3, (hN _ (by omega) (by omega)).trans h4, ⟨f5, (hN _ (by omega) (by omega)).trans h5, g5⟩, fun i hi => (h6 i hi).newb hN (by omega) (by omega), fun k hk => ⟨(hN _ (by omega) (by omega)).trans (h7 k hk).1, (h7 k hk).2.newb hN (by omega) (by omega)⟩⟩
theorem PaT.newb {X : gX} {h h' : gH} {q b z : Nat} {L : List Int32} {day car : Int32} (hS : PaT X h q L day car) (hN : NewB h h' b z) (hz : q + 8 ≤ z) (hb : b < q ∨ q + 8 ≤ b) : PaT X h' q L day car := by
  obtain ⟨st, f, hB, hk, hl, n, I, A, hS, hI⟩ := hS
  exact ⟨st, f, ⟨(hN _ (by omega) (by omega)).trans hB.1, (hN _ (by omega) (by omega)).trans hB.2⟩, hk, hl, n, I, A, ⟨(hN _ (by omega) (by omega)).trans hS.1, fun k hk => (hN _ (by omega) (by omega)).trans (hS.2 k hk)⟩, hI⟩
theorem PlB.put1 {X : gX} {h : gH} {p nw no ns b : Nat} {e : va_E} {S : Nat → Option Nat} {g : Nat → Int32} {wn : Nat → Nat} {wf : Nat → Nat → Int32} {oA : Nat → Nat} {oJ : Nat → Nat → Int32} (hP : PlB X h p nw no ns S g wn wf oA oJ) (hb : b < p ∨ p + 69 ≤ b) : PlB X (gset h b e) p nw no ns S g wn wf oA oJ := hP.off (b := b) (m := 1) (fun q hq => gset_ne (by omega)) (by omega)
theorem TkT.put1 {X : gX} {h : gH} {q b n la k kd st en : Nat} {e : va_E} {f : Nat → Int32} {kf : Nat → Option Nat} {S T : Nat → Int32} (h1 : TkT X h q n f kf S T la k kd st en) (hb : b < q ∨ q + 6 ≤ b) : TkT X (gset h b e) q n f kf S T la k kd st en := h1.off (b := b) (m := 1) (fun q hq => gset_ne (by omega)) (by omega)
theorem PaT.off {X : gX} {h h' : gH} {q b m : Nat} {L : List Int32} {day car : Int32} (hS : PaT X h q L day car) (hO : OffB h h' b m) (hd : q + 8 ≤ b ∨ b + m ≤ q) : PaT X h' q L day car := by
  obtain ⟨st, f, hB, hk, hl, hL⟩ := hS
  exact ⟨st, f, hB.off hO (by omega), hk, hl, hL.off hO (by omega)⟩
theorem PaT.put1 {X : gX} {h : gH} {q b : Nat} {e : va_E} {L : List Int32} {day car : Int32} (hS : PaT X h q L day car) (hb : b < q ∨ q + 8 ≤ b) : PaT X (gset h b e) q L day car := hS.off (b := b) (m := 1) (fun q hq => gset_ne (by omega)) (by omega)
/-- the first plan -/
def P00 : PlM := ((0, fun _ => []), (0, fun _ => ((0, 0, []), (0, 0, 0))), (0, fun _ => (0, 0)))
theorem P00_ok : OkP P00 := ⟨⟨Nat.zero_le _, fun i hi => absurd hi (Nat.not_lt_zero _)⟩, ⟨Nat.zero_le _, fun i hi => absurd hi (Nat.not_lt_zero _)⟩, Nat.zero_le _, fun i hi => absurd hi (Nat.not_lt_zero _)⟩
theorem PlC.p00 {X : gX} {K : gKo} {h : gH} {p : Nat} {S : Nat → Option Nat} {g : Nat → Int32} {wn : Nat → Nat} {wf : Nat → Nat → Int32} {oA : Nat → Nat} {oJ : Nat → Nat → Int32} (hP : PlB X h p 0 0 0 S g wn wf oA oJ) : PlC X K h p P00 :=
  ⟨S, g, wn, wf, oA, oJ, hP, fun i hi => absurd hi (Nat.not_lt_zero _), fun i hi => absurd hi (Nat.not_lt_zero _), fun i hi => absurd hi (Nat.not_lt_zero _)⟩
theorem MpP.p00 {X : gX} {h : gH} {q : Nat} {U W : Nat → Int64} (hP : MpB X h q (fun _ => 0) (fun _ _ => 0) U W) : MpP X h q P00 :=
  ⟨_, _, U, W, hP, ⟨rfl, rfl, rfl⟩, fun i hi => absurd hi (Nat.not_lt_zero _), fun i hi => absurd hi (Nat.not_lt_zero _), fun i hi => absurd hi (Nat.not_lt_zero _)⟩
/-- the class at o: a tape f of n bytes, the plan P, the letters L, the day, what was carried out, where the error was -/
def ClsS (X : gX) (K : gKo) (h : gH) (o n : Nat) (f : Nat → Int32) (P : PlM) (L : List Int32) (day car err : Int32) : Prop :=
  ∃ (pp sp : Nat) (ep : Int32) (dp er : Nat) (ir : Int32), h o = some (.inr (8, [.ref (o + 1), .ref (o + 3), .ref (o + 77), .ref (o + 85), .ref pp, .int err])) ∧ ((pp = o + 8 ∧ sp = o + 93) ∨ (pp = o + 93 ∧ sp = o + 8)) ∧
  h (o + 1) = some (grF (o + 1) sp ep dp er ir) ∧ (∃ kf S T la k kd st en, TkT X h (o + 2) n f kf S T la k kd st en) ∧ PlC X K h pp P ∧ (∃ nw no ns S g wn wf oA oJ, PlB X h sp nw no ns S g wn wf oA oJ) ∧ PaT X h (o + 77) L day car ∧ (∃ L1 d1 c1, PaT X h (o + 85) L1 d1 c1) ∧ OkP P ∧ n ≤ 2000
set_option maxRecDepth 100000 in
set_option maxHeartbeats 4000000 in
theorem m1_init {X : gX} {h : gH} {z a : Nat} {K : gKo} (hK : gCo X K) (ha : h a = some (.inr (0, [.null, .int 0, .null, .int 0, .int 0, .int 0]))) (hz : z = a + 1) : gMc X yX1_init cX1_init 1 (5, 75, 4429) [.ref a] h z (fun r h' z' => r = none ∧ z' = z + 75 ∧ h' a = some (grF a (a + 7) 0 0 0 0) ∧ (∃ kf, TkT X h' (a + 1) 0 (fun _ => 0) kf (fun _ => 0) (fun _ => 0) 0 0 (K.1 0) 0 0) ∧ PlB X h' (a + 7) 0 0 0 (fun j => if j < 400 then some (K.1 0) else none) (fun _ => 0) (fun _ => 0) (fun _ _ => 0) (fun _ => K.1 0) (fun _ _ => 0) ∧ NewB h h' a z) := by
  subst hz
  refine gMc.of px1 rfl (Nat.le_of_ble_eq_true rfl) ?_
  intro F hE hin
  refine g_aload_n dX1_init_0 rfl ?_
  refine g_obj woX1 wob.1 wob.2 (by decide) (Nat.le_of_ble_eq_true rfl) dX1_init_1 ?_
  refine g_aload_n dX1_init_4 rfl ?_
  refine g_new [.null, .null, .null, .null, .int 0, .int 0, .null, .int 0, .int 0] cl6 (gm1 41 (by decide +kernel)) (gm1 42 (by decide +kernel)) (gm1 3 (by decide +kernel)) (by decide) (by decide) (by decide) dX1_init_5 ?_
  refine g_dup dX1_init_8 rfl ?_
  refine g_callI kX1_11 (m8_init hK gset_same rfl) rfl rfl (Nat.le_of_ble_eq_true rfl) (by decide) (by decide) (by decide) (by decide) dX1_init_9 ?_
  rintro v1 h4 z1 ⟨rfl, rfl, ⟨kf4, hT4⟩, hN4⟩
  have k0 := (hN4 a (by omega) (by omega)).trans ((gset_ne (by omega)).trans ha)
  have hNx : NewB h h4 a (a + 1) := (NewB.rf.put (Or.inr (Nat.le_refl _))).trans hN4 (Or.inr (Nat.le_refl _)) (by omega)
  refine g_putF fl1_12 hin rfl (k0) rfl rfl rfl (Nat.le_of_ble_eq_true rfl) dX1_init_12 ?_
  refine g_aload_n dX1_init_15 rfl ?_
  refine g_new [.null, .null, .null, .int 0, .int 0, .int 0, .null] cl3 (gm1 98 (by decide +kernel)) (gm1 99 (by decide +kernel)) (gm1 7 (by decide +kernel)) (by decide) (by decide) (by decide) dX1_init_16 ?_
  refine g_dup dX1_init_19 rfl ?_
  refine g_callI kX1_20 (m4_init hK gset_same rfl) rfl rfl (Nat.le_of_ble_eq_true rfl) (by decide) (by decide) (by decide) (by decide) dX1_init_20 ?_
  rintro v1 h5 z1 ⟨rfl, rfl, hP5, hN5⟩
  have k1 := (hN5 a (by omega) (by omega)).trans ((gset_ne (by omega)).trans gset_same)
  have hT5 := ((hT4.put1 (b := a) (by omega)).put1 (b := a + 7) (by omega)).newb hN5 (by omega) (by omega)
  have hNy : NewB h h5 a (a + 1) := ((hNx.put (Or.inl rfl)).put (Or.inr (by omega))).trans hN5 (Or.inr (by omega)) (by omega)
  refine g_putf fl1_21 (k1) rfl rfl rfl (Nat.le_of_ble_eq_true rfl) dX1_init_23 ?_
  exact g_cret hE ⟨rfl, by omega, gset_same, ⟨kf4, hT5.put1 (by omega)⟩, hP5.put1 (by omega), hNy.put (Or.inl rfl)⟩ dX1_init_26 (by decide) (by decide)
set_option maxRecDepth 100000 in
set_option maxHeartbeats 4000000 in
theorem m10_init {X : gX} {h : gH} {z a : Nat} {K : gKo} (hK : gCo X K) (ha : h a = some (.inr (8, [.null, .null, .null, .null, .null, .int 0]))) (hz : z = a + 1) : gMc X yX10_init cX10_init 1 (6, 161, 6206) [.ref a] h z (fun r h' z' => r = none ∧ z' = z + 161 ∧ ClsS X K h' a 0 (fun _ => 0) P00 [] 0 0 (-1) ∧ NewB h h' a z) := by
  subst hz
  refine gMc.of px10 rfl (Nat.le_of_ble_eq_true rfl) ?_
  intro F hE hin
  refine g_aload_n dX10_init_0 rfl ?_
  refine g_obj woX10 wob.1 wob.2 (by decide) (Nat.le_of_ble_eq_true rfl) dX10_init_1 ?_
  refine g_aload_n dX10_init_4 rfl ?_
  refine g_new [.null, .int 0, .null, .int 0, .int 0, .int 0] cl0 (gm1 35 (by decide +kernel)) (gm1 36 (by decide +kernel)) (gm1 2 (by decide +kernel)) (by decide) (by decide) (by decide) dX10_init_5 ?_
  refine g_dup dX10_init_8 rfl ?_
  refine g_callN kX10_9 (m1_init hK gset_same rfl) rfl rfl (Nat.le_of_ble_eq_true rfl) (by decide) (by decide) (by decide) (by decide) dX10_init_9 ?_
  rintro v1 h4 z1 ⟨rfl, rfl, hg4, ⟨kf4, hT4⟩, hP4, hN4⟩
  have k0 := (hN4 a (by omega) (by omega)).trans ((gset_ne (by omega)).trans ha)
  have hNx : NewB h h4 a (a + 1) := (NewB.rf.put (Or.inr (Nat.le_refl _))).trans hN4 (Or.inr (Nat.le_refl _)) (by omega)
  refine g_putF fl10_10 hin rfl (k0) rfl rfl rfl (Nat.le_of_ble_eq_true rfl) dX10_init_12 ?_
  refine g_aload_n dX10_init_15 rfl ?_
  refine g_aload_n dX10_init_16 rfl ?_
  refine g_getf fl10_10 gset_same rfl dX10_init_17 ?_
  refine g_getf fl10_16 ((gset_ne (by omega)).trans hg4) rfl dX10_init_20 ?_
  refine g_getf fl10_20 ((gset_ne (by omega)).trans hT4.1.1) rfl dX10_init_23 ?_
  refine g_putF fl10_26 hin rfl (gset_same) rfl rfl rfl (Nat.le_of_ble_eq_true rfl) dX10_init_26 ?_
  refine g_aload_n dX10_init_29 rfl ?_
  refine g_new [.null, .int 0, .int 0, .null, .int 0] cl2 (gm1 212 (by decide +kernel)) (gm1 213 (by decide +kernel)) (gm1 10 (by decide +kernel)) (by decide) (by decide) (by decide) dX10_init_30 ?_
  refine g_dup dX10_init_33 rfl ?_
  refine g_callN kX10_29 (m3_init gset_same rfl) rfl rfl (Nat.le_of_ble_eq_true rfl) (by decide) (by decide) (by decide) (by decide) dX10_init_34 ?_
  rintro v1 h5 z1 ⟨rfl, rfl, hQ5, hN5⟩
  have hOa : ∀ q, q < a + 77 → q ≠ a → h5 q = h4 q := fun q b1 b2 => (hN5 q (by omega) (by omega)).trans ((gset_ne (by omega)).trans ((gset_ne b2).trans (gset_ne b2)))
  have k1 := (hN5 a (by omega) (by omega)).trans ((gset_ne (by omega)).trans gset_same)
  have hNy : NewB h h5 a (a + 1) := (((hNx.put (Or.inl rfl)).put (Or.inl rfl)).put (Or.inr (by omega))).trans hN5 (Or.inr (by omega)) (by omega)
  refine g_putF fl10_30 hin rfl (k1) rfl rfl rfl (Nat.le_of_ble_eq_true rfl) dX10_init_37 ?_
  refine g_aload_n dX10_init_40 rfl ?_
  refine g_new [.null, .int 0, .int 0, .null, .int 0] cl2 (gm1 212 (by decide +kernel)) (gm1 213 (by decide +kernel)) (gm1 10 (by decide +kernel)) (by decide) (by decide) (by decide) dX10_init_41 ?_
  refine g_dup dX10_init_44 rfl ?_
  refine g_callN kX10_29 (m3_init gset_same rfl) rfl rfl (Nat.le_of_ble_eq_true rfl) (by decide) (by decide) (by decide) (by decide) dX10_init_45 ?_
  rintro v1 h6 z1 ⟨rfl, rfl, hQ6, hN6⟩
  have k2 := (hN6 a (by omega) (by omega)).trans ((gset_ne (by omega)).trans gset_same)
  have hOb : ∀ q, q < a + 85 → q ≠ a → h6 q = h5 q := fun q b1 b2 => (hN6 q (by omega) (by omega)).trans ((gset_ne (by omega)).trans (gset_ne b2))
  have hNz : NewB h h6 a (a + 1) := ((hNy.put (Or.inl rfl)).put (Or.inr (by omega))).trans hN6 (Or.inr (by omega)) (by omega)
  refine g_putF fl10_34 hin rfl (k2) rfl rfl rfl (Nat.le_of_ble_eq_true rfl) dX10_init_48 ?_
  refine g_aload_n dX10_init_51 rfl ?_
  refine g_new [.null, .null, .null, .int 0, .int 0, .int 0, .null] cl3 (gm2 34 (by decide +kernel)) (gm1 99 (by decide +kernel)) (gm1 7 (by decide +kernel)) (by decide) (by decide) (by decide) dX10_init_52 ?_
  refine g_dup dX10_init_55 rfl ?_
  refine g_callI kX10_39 (m4_init hK gset_same rfl) rfl rfl (Nat.le_of_ble_eq_true rfl) (by decide) (by decide) (by decide) (by decide) dX10_init_56 ?_
  rintro v1 h7 z1 ⟨rfl, rfl, hP7, hN7⟩
  have k3 := (hN7 a (by omega) (by omega)).trans ((gset_ne (by omega)).trans gset_same)
  have hOc : ∀ q, q < a + 93 → q ≠ a → h7 q = h6 q := fun q b1 b2 => (hN7 q (by omega) (by omega)).trans ((gset_ne (by omega)).trans (gset_ne b2))
  have hNw : NewB h h7 a (a + 1) := ((hNz.put (Or.inl rfl)).put (Or.inr (by omega))).trans hN7 (Or.inr (by omega)) (by omega)
  have n47 : NewB h4 h7 a (a + 77) := fun q b1 b2 => (hOc q (by omega) b2).trans ((hOb q (by omega) b2).trans (hOa q b1 b2))
  have n57 : NewB h5 h7 a (a + 85) := fun q b1 b2 => (hOc q (by omega) b2).trans (hOb q b1 b2)
  have n67 : NewB h6 h7 a (a + 93) := fun q b1 b2 => hOc q b1 b2
  refine g_putf fl10_40 (k3) rfl rfl rfl (Nat.le_of_ble_eq_true rfl) dX10_init_59 ?_
  refine g_aload_n dX10_init_62 rfl ?_
  refine g_iconst (-1) dX10_init_63 (by decide) ?_
  refine g_putf fl10_44 (gset_same) rfl rfl rfl (Nat.le_of_ble_eq_true rfl) dX10_init_64 ?_
  exact g_cret hE ⟨rfl, by omega, ⟨a + 93, a + 8, 0, 0, 0, 0, gset_same, Or.inr ⟨rfl, rfl⟩, (gset_ne (by omega)).trans ((gset_ne (by omega)).trans ((n47 _ (by omega) (by omega)).trans hg4)), ⟨kf4, _, _, _, _, _, _, _, ((hT4.newb n47 (by omega) (by omega)).put1 (by omega)).put1 (by omega)⟩, PlC.p00 ((hP7.put1 (by omega)).put1 (by omega)), ⟨_, _, _, _, _, _, _, _, _, ((hP4.newb n47 (by omega) (by omega)).put1 (by omega)).put1 (by omega)⟩, ((hQ5.newb n57 (by omega) (by omega)).put1 (by omega)).put1 (by omega), ⟨_, _, _, ((hQ6.newb n67 (by omega) (by omega)).put1 (by omega)).put1 (by omega)⟩, P00_ok, by decide⟩, (hNw.put (Or.inl rfl)).put (Or.inl rfl)⟩ dX10_init_67 (by decide) (by decide)
theorem by4_b (x : BitVec 32) (s : Nat) (hs : s ≤ 24) : (x >>> s) &&& 255#32 = (x.sshiftRight s) &&& 255#32 := by
  apply BitVec.eq_of_getLsbD_eq
  intro j hj
  rw [BitVec.getLsbD_and, BitVec.getLsbD_and, BitVec.getLsbD_ushiftRight, BitVec.getLsbD_sshiftRight]
  by_cases h8 : j < 8
  · rw [if_pos (by omega), decide_eq_false (by omega)]; rfl
  · have h9 : ∀ j, j < 32 → ¬ j < 8 → (255#32).getLsbD j = false := by decide
    rw [h9 j hj h8, Bool.and_false, Bool.and_false]
theorem by4_c (x : Int32) (i : Nat) (hi : i < 4) : ((x.toUInt32 >>> ((nI (24 - 8 * i)).toUInt32 &&& Int32.toUInt32 31)).toInt32) &&& nI 255 = by4 x i := by
  rcases (show i = 0 ∨ i = 1 ∨ i = 2 ∨ i = 3 by omega) with rfl | rfl | rfl | rfl
  · exact congrArg Int32.ofBitVec (by4_b x.toBitVec 24 (by decide))
  · exact congrArg Int32.ofBitVec (by4_b x.toBitVec 16 (by decide))
  · exact congrArg Int32.ofBitVec (by4_b x.toBitVec 8 (by decide))
  · exact congrArg Int32.ofBitVec (by4_b x.toBitVec 0 (by decide))
