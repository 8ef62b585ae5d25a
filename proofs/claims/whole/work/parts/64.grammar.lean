/-! the grammar: its cells; a token is taken, a step is put, an error is noted -/
abbrev gWo : Type := (Nat → Nat) × (Nat → Nat → Int32) × (Nat → Nat) × (Nat → Nat → Int32)
/-- nothing but the grammar at g, its tokens and the plan at p has changed -/
def OffG (h h' : gH) (g p : Nat) : Prop := ∀ q : Nat, (q < g ∨ g + 7 ≤ q) → (q < p ∨ p + 69 ≤ q) → h' q = h q
theorem OffG.rf {h : gH} {g p : Nat} : OffG h h g p := fun _ _ _ => rfl
theorem OffG.trans {h0 h1 h2 : gH} {g p : Nat} (x : OffG h0 h1 g p) (y : OffG h1 h2 g p) : OffG h0 h2 g p := fun q a b => (y q a b).trans (x q a b)
theorem OffB.toG {h h' : gH} {g p b m : Nat} (x : OffB h h' b m) (hd : (g ≤ b ∧ b + m ≤ g + 7) ∨ (p ≤ b ∧ b + m ≤ p + 69)) : OffG h h' g p := fun q a1 a2 => x q (by omega)
/-- the grammar's own object -/
abbrev grF (g p : Nat) (ep : Int32) (dp er : Nat) (ir : Int32) : va_E := .inr (0, [.ref (g + 1), .int ep, .ref p, .int (nI dp), .int (nI er), .int ir])
/-- the grammar at g reads the tape f of n bytes into the plan at p: s is how far it has come -/
def GrI (X : gX) (K : gKo) (h : gH) (g p n : Nat) (f : Nat → Int32) (s : PSt) (dp : Nat) (ir : Int32) (W : gWo) : Prop :=
  ∃ (ep : Int32) (S : Nat → Option Nat) (gg : Nat → Int32), h g = some (grF g p ep dp (seF n f s.2.2).2.2.1 ir) ∧ ep = (if (seF n f s.2.2).2.2.1 = 0 then -1 else nI (tks n f (seF n f s.2.2).2.2.2)) ∧ TkO X K h (g + 1) n f s.1 ∧
  PlB X h p (seF n f s.2.2).1.length (seF n f s.2.2).2.1 s.2.1.length S gg W.1 W.2.1 W.2.2.1 W.2.2.2 ∧
  (∀ j x, s.2.1[j]? = some x → S j = some (K.1 x.1) ∧ ((seF n f s.2.2).2.2.1 = 0 → gg j = xvW n f (seF n f s.2.2).1 x)) ∧
  ∀ i D, (seF n f s.2.2).1[i]? = some D → wdf (W.1 i) (W.2.1 i) D
theorem tk_lt {n t : Nat} {f : Nat → Int32} (h : 2 ≤ tkk n f t) (ht : t ≤ tkl n f) : t < tkl n f := by
  have hl := (tkl_spec n f).2.1
  rcases Nat.lt_or_ge t (tkl n f) with q | q
  · exact q
  · have : t = tkl n f := by omega
    rw [this] at h; omega
/-- apart: the grammar at g and the plan at p -/
abbrev ApG (g p : Nat) : Prop := p + 69 ≤ g ∨ g + 7 ≤ p
theorem PlB.put {X : gX} {h : gH} {p nw no ns b : Nat} {S : Nat → Option Nat} {g : Nat → Int32} {wn : Nat → Nat} {wf : Nat → Nat → Int32} {oA : Nat → Nat} {oJ : Nat → Nat → Int32} {e : va_E} (hP : PlB X h p nw no ns S g wn wf oA oJ) (hd : p + 69 ≤ b ∨ b < p) : PlB X (gset h b e) p nw no ns S g wn wf oA oJ := hP.off (b := b) (m := 1) (fun q hq => gset_ne (by omega)) (by omega)
theorem TkO.put {X : gX} {K : gKo} {h : gH} {q n t b : Nat} {f : Nat → Int32} {e : va_E} (hT : TkO X K h q n f t) (hd : q + 6 ≤ b ∨ b < q) : TkO X K (gset h b e) q n f t := hT.off (b := b) (m := 1) (fun x hx => gset_ne (by omega)) (by omega)
set_option maxRecDepth 100000 in
set_option maxHeartbeats 4000000 in
theorem m4_addStep {X : gX} {h : gH} {z p nw no ns : Nat} {S : Nat → Option Nat} {g : Nat → Int32} {wn : Nat → Nat} {wf : Nat → Nat → Int32} {oA : Nat → Nat} {oJ : Nat → Nat → Int32} {K : gKo} (c : Nat) (x : Int32) (hc : c < 39) (hK : gCo X K) (hs : ns < 400) (hP : PlB X h p nw no ns S g wn wf oA oJ) : gM X yX4_addStep cX4_addStep 3 none (0, 0, 0) [.ref p, .ref (K.1 c), .int x] h z (fun r h' z' => r = none ∧ z' = z ∧ PlB X h' p nw no (ns + 1) (va_up S ns (some (K.1 c))) (upd g ns x) wn wf oA oJ ∧ OffB h h' p 69) gNoX := by
  obtain ⟨h1, ⟨f2, h2, g2⟩, h3, h4, ⟨f5, h5, g5⟩, h6, h7⟩ := hP
  refine gM.of px4 (Nat.le_of_ble_eq_true rfl) ?_
  intro F hE
  refine g_aload_n dX4_addStep_0 rfl ?_
  refine g_getf fl4_46 h1 rfl dX4_addStep_1 ?_
  refine g_sipush (nI 400) dX4_addStep_4 (by decide) ?_
  refine g_icmp_geN 40 dX4_addStep_7 (by decide) (by omega) (by omega) (fun c_7 => ?_) (fun c_7 => ?_)
  · exact absurd c_7 (by omega)
  · refine g_aload_n dX4_addStep_10 rfl ?_
    refine g_getf fl4_19 h1 rfl dX4_addStep_11 ?_
    refine g_aload_n dX4_addStep_14 rfl ?_
    refine g_getf fl4_46 h1 rfl dX4_addStep_15 ?_
    refine g_aload_n dX4_addStep_18 rfl ?_
    refine g_aastO h3 rfl (hK.1 c hc).2.1 (by omega) (by decide) dX4_addStep_19 ?_
    refine g_aload_n dX4_addStep_20 rfl ?_
    refine g_getf fl4_23 ((gset_ne (by omega)).trans h1) rfl dX4_addStep_21 ?_
    refine g_aload_n dX4_addStep_24 rfl ?_
    refine g_getf fl4_46 ((gset_ne (by omega)).trans h1) rfl dX4_addStep_25 ?_
    refine g_iload_n dX4_addStep_28 rfl ?_
    refine g_iastN ((gset_ne (by omega)).trans h4) (by omega) (by decide) dX4_addStep_29 ?_
    refine g_aload_n dX4_addStep_30 rfl ?_
    refine g_dup dX4_addStep_31 rfl ?_
    refine g_getf fl4_46 ((gset_ne (by omega)).trans ((gset_ne (by omega)).trans h1)) rfl dX4_addStep_32 ?_
    refine g_iconst (nI 1) dX4_addStep_35 (by decide) ?_
    first | refine g_iaddN dX4_addStep_36 ?_ | refine g_iadd dX4_addStep_36 ?_
    refine g_putf fl4_46 ((gset_ne (by omega)).trans ((gset_ne (by omega)).trans h1)) rfl rfl rfl (Nat.le_of_ble_eq_true rfl) dX4_addStep_37 ?_
    exact g_vret hE (⟨rfl, rfl, ⟨gset_same, ⟨f2, (gset_ne (by omega)).trans ((gset_ne (by omega)).trans ((gset_ne (by omega)).trans h2)), g2⟩, (gset_ne (by omega)).trans ((gset_ne (by omega)).trans gset_same), (gset_ne (by omega)).trans gset_same, ⟨f5, (gset_ne (by omega)).trans ((gset_ne (by omega)).trans ((gset_ne (by omega)).trans h5)), g5⟩, fun i hi => (h6 i hi).off (b := p) (m := 4) (fun q hq => (gset_ne (by omega)).trans ((gset_ne (by omega)).trans (gset_ne (by omega)))) (by omega), fun k hk => ⟨(gset_ne (by omega)).trans ((gset_ne (by omega)).trans ((gset_ne (by omega)).trans (h7 k hk).1)), (h7 k hk).2.off (b := p) (m := 4) (fun q hq => (gset_ne (by omega)).trans ((gset_ne (by omega)).trans (gset_ne (by omega)))) (by omega)⟩⟩, ((OffB.rf.put (by omega) (by omega)).put (by omega) (by omega)).put (by omega) (by omega)⟩) dX4_addStep_40
set_option maxRecDepth 100000 in
set_option maxHeartbeats 4000000 in
theorem m1_put {X : gX} {h : gH} {z g p n dp : Nat} {f : Nat → Int32} {K : gKo} {s : PSt} {ir : Int32} {W : gWo} (c y : Nat) (x : Int32) (hc : c < 39) (hK : gCo X K) (hd : ApG g p) (hs : s.2.1.length < 400) (hx : (seF n f s.2.2).2.2.1 = 0 → x = xvW n f (seF n f s.2.2).1 (c, y)) (hI : GrI X K h g p n f s dp ir W) : gM X yX1_put cX1_put 3 (some .boolean) (1, 0, 0) [.ref g, .ref (K.1 c), .int x] h z (fun r h' z' => r = some (.int (b2i true)) ∧ z' = z ∧ GrI X K h' g p n f (pPt c y s).2 dp ir W ∧ OffG h h' g p) gNoX := by
  obtain ⟨ep, S, gg, hg, hep, hT, hP, hst, hws⟩ := hI
  unfold ApG at hd
  refine gM.of px1 (Nat.le_of_ble_eq_true rfl) ?_
  intro F hE
  refine g_aload_n dX1_put_0 rfl ?_
  refine g_getf fl1_21 hg rfl dX1_put_1 ?_
  refine g_aload_n dX1_put_4 rfl ?_
  refine g_iload_n dX1_put_5 rfl ?_
  refine g_callV0 kX1_73 (m4_addStep c x hc hK hs hP) hP.1 rfl rfl rfl (Nat.le_of_ble_eq_true rfl) (by decide) (by decide) (by decide) (by decide) dX1_put_6 ?_
  rintro v1 h2 z1 ⟨rfl, rfl, hP2, hO2⟩
  refine g_iconst (nI 1) dX1_put_9 (by decide) ?_
  refine g_iret hE rfl (⟨rfl, rfl, ⟨ep, va_up S s.2.1.length (some (K.1 c)), upd gg s.2.1.length x, (hO2 g (by omega)).trans hg, hep, hT.off hO2 (by omega), ?_, fun j e he => ?_, hws⟩, hO2.toG (by omega)⟩) dX1_put_10
  · show PlB X h2 p _ _ (s.2.1 ++ [(c, y)]).length _ _ _ _ _ _
    rw [List.length_append]
    exact hP2
  · have he2 : (s.2.1 ++ [(c, y)])[j]? = some e := he
    show va_up S s.2.1.length (some (K.1 c)) j = some (K.1 e.1) ∧ (_ → upd gg s.2.1.length x j = xvW n f _ e)
    rcases Nat.lt_trichotomy j s.2.1.length with q | q | q
    · rw [List.getElem?_append_left q] at he2
      rw [vu_ne (by omega), upd_ne (by omega)]
      exact hst j e he2
    · subst q
      rw [List.getElem?_append_right (Nat.le_refl _), Nat.sub_self] at he2
      cases he2
      rw [vu_same, upd_same]
      exact ⟨rfl, hx⟩
    · rw [List.getElem?_append_right (by omega), List.getElem?_eq_none (by show 1 ≤ _; omega)] at he2
      cases he2
set_option maxRecDepth 100000 in
set_option maxHeartbeats 4000000 in
theorem m1_take {X : gX} {h : gH} {z g p n dp : Nat} {f : Nat → Int32} {K : gKo} {s : PSt} {ir : Int32} {W : gWo} (c : Nat) (h2 : 2 ≤ c) (hc : c < 39) (hK : gCo X K) (hd : ApG g p) (hs : s.1 ≤ tkl n f) (hI : GrI X K h g p n f s dp ir W) : gM X yX1_take cX1_take 2 (some .boolean) (2, 0, 0) [.ref g, .ref (K.1 c)] h z (fun r h' z' => r = some (.int (b2i (pTk (tkk n f) c s).1)) ∧ z' = z ∧ GrI X K h' g p n f (pTk (tkk n f) c s).2 dp ir W ∧ OffG h h' g p) gNoX := by
  have hl := tkl_spec n f
  unfold ApG at hd
  obtain ⟨ep, S, gg, hg, hep, hT, hP, hst, hws⟩ := hI
  obtain ⟨kf, S1, T1, en, hTT, hR⟩ := id hT
  refine gM.of px1 (Nat.le_of_ble_eq_true rfl) ?_
  intro F hE
  refine g_aload_n dX1_take_0 rfl ?_
  refine g_getf fl1_12 hg rfl dX1_take_1 ?_
  refine g_getf fl1_41 hTT.1.1 rfl dX1_take_4 ?_
  refine g_aload_n dX1_take_7 rfl ?_
  refine g_acmp_eq 13 dX1_take_8 (by decide) (fun c_8 => ?_) (fun c_8 => ?_)
  · have ht : tkk n f s.1 = c := (hK.sm (tkk_lt n f s.1) hc).mp c_8
    have hlt : s.1 < tkl n f := tk_lt (by omega) hs
    have ee : pTk (tkk n f) c s = (true, (s.1 + 1, s.2)) := if_pos ht
    refine g_aload_n dX1_take_13 rfl ?_
    refine g_getf fl1_12 hg rfl dX1_take_14 ?_
    refine g_callV0 kX1_70 (m8_advance hlt hT) hTT.1.1 rfl rfl rfl (Nat.le_of_ble_eq_true rfl) (by decide) (by decide) (by decide) (by decide) dX1_take_17 ?_
    rintro v1 h3 z1 ⟨rfl, rfl, hT2, hO2⟩
    refine g_iconst (nI 1) dX1_take_20 (by decide) ?_
    exact g_iret hE rfl (⟨by rw [ee]; rfl, rfl, by rw [ee]; exact ⟨ep, S, gg, (hO2 g (by omega)).trans hg, hep, hT2, hP.off hO2 (by omega), hst, hws⟩, hO2.toG (by omega)⟩) dX1_take_21
  · refine g_iconst (nI 0) dX1_take_11 (by decide) ?_
    exact g_iret hE rfl (⟨by rw [show pTk (tkk n f) c s = (false, s) from if_neg (fun e => c_8 ((hK.sm (tkk_lt n f s.1) hc).mpr e))]; rfl, rfl, by rw [show pTk (tkk n f) c s = (false, s) from if_neg (fun e => c_8 ((hK.sm (tkk_lt n f s.1) hc).mpr e))]; exact ⟨ep, S, gg, hg, hep, hT, hP, hst, hws⟩, OffG.rf⟩) dX1_take_12
set_option maxRecDepth 100000 in
set_option maxHeartbeats 4000000 in
theorem m1_takeDeeper {X : gX} {h : gH} {z g p n dp : Nat} {f : Nat → Int32} {K : gKo} {s : PSt} {ir : Int32} {W : gWo} (c : Nat) (h2 : 2 ≤ c) (hc : c < 39) (hK : gCo X K) (hd : ApG g p) (hs : s.1 ≤ tkl n f) (h8 : dp ≤ 8) (hI : GrI X K h g p n f s dp ir W) : gM X yX1_takeDeeper cX1_takeDeeper 2 (some .boolean) (3, 0, 0) [.ref g, .ref (K.1 c)] h z (fun r h' z' => z' = z ∧ OffG h h' g p ∧ ((dp = 8 ∧ r = some (.int (b2i false)) ∧ GrI X K h' g p n f s dp ir W) ∨ (dp < 8 ∧ (pTk (tkk n f) c s).1 = false ∧ r = some (.int (b2i false)) ∧ GrI X K h' g p n f (pTk (tkk n f) c s).2 dp ir W) ∨ (dp < 8 ∧ (pTk (tkk n f) c s).1 = true ∧ r = some (.int (b2i true)) ∧ GrI X K h' g p n f (pTk (tkk n f) c s).2 (dp + 1) ir W))) gNoX := by
  have hI0 := hI
  unfold ApG at hd
  obtain ⟨ep, S, gg, hg, hep, hT, hP, hst, hws⟩ := hI
  refine gM.of px1 (Nat.le_of_ble_eq_true rfl) ?_
  intro F hE
  refine g_aload_n dX1_takeDeeper_0 rfl ?_
  refine g_getf fl1_31 hg rfl dX1_takeDeeper_1 ?_
  refine g_bipush (nI 8) dX1_takeDeeper_4 (by decide) ?_
  refine g_icmp_geN 17 dX1_takeDeeper_6 (by decide) (by omega) (by omega) (fun c_6 => ?_) (fun c_6 => ?_)
  · refine g_iconst (nI 0) dX1_takeDeeper_17 (by decide) ?_
    exact g_iret hE rfl (⟨rfl, OffG.rf, Or.inl ⟨by omega, rfl, hI0⟩⟩) dX1_takeDeeper_18
  · refine g_aload_n dX1_takeDeeper_9 rfl ?_
    refine g_aload_n dX1_takeDeeper_10 rfl ?_
    refine g_callV0 kX1_63 (m1_take c h2 hc hK hd hs hI0) hg rfl rfl rfl (Nat.le_of_ble_eq_true rfl) (by decide) (by decide) (by decide) (by decide) dX1_takeDeeper_11 ?_
    rintro v1 h3 z1 ⟨rfl, rfl, hI2, hO2⟩
    obtain ⟨ep2, S2, gg2, hg2, hep2, hT2, hP2, hst2, hws2⟩ := id hI2
    refine g_if_neB 19 dX1_takeDeeper_14 (by decide) (fun c_14 => ?_) (fun c_14 => ?_)
    · refine g_aload_n dX1_takeDeeper_19 rfl ?_
      refine g_dup dX1_takeDeeper_20 rfl ?_
      refine g_getf fl1_31 hg2 rfl dX1_takeDeeper_21 ?_
      refine g_iconst (nI 1) dX1_takeDeeper_24 (by decide) ?_
      first | refine g_iaddN dX1_takeDeeper_25 ?_ | refine g_iadd dX1_takeDeeper_25 ?_
      refine g_putf fl1_31 hg2 rfl rfl rfl (Nat.le_of_ble_eq_true rfl) dX1_takeDeeper_26 ?_
      refine g_iconst (nI 1) dX1_takeDeeper_29 (by decide) ?_
      exact g_iret hE rfl (⟨rfl, fun q a b => (gset_ne (by omega)).trans (hO2 q a b), Or.inr (Or.inr ⟨by omega, c_14, rfl, ep2, S2, gg2, gset_same, hep2, hT2.put (by omega), hP2.put (by omega), hst2, hws2⟩)⟩) dX1_takeDeeper_30
    · refine g_iconst (nI 0) dX1_takeDeeper_17 (by decide) ?_
      exact g_iret hE rfl (⟨rfl, hO2, Or.inr (Or.inl ⟨by omega, c_14, rfl, hI2⟩)⟩) dX1_takeDeeper_18
set_option maxRecDepth 100000 in
set_option maxHeartbeats 4000000 in
theorem m1_rise {X : gX} {h : gH} {z g p n dp : Nat} {f : Nat → Int32} {K : gKo} {s : PSt} {ir : Int32} {W : gWo} (hd : ApG g p) (hI : GrI X K h g p n f s (dp + 1) ir W) : gM X yX1_rise cX1_rise 1 (some .boolean) (0, 0, 0) [.ref g] h z (fun r h' z' => r = some (.int (b2i true)) ∧ z' = z ∧ GrI X K h' g p n f s dp ir W ∧ OffG h h' g p) gNoX := by
  unfold ApG at hd
  obtain ⟨ep, S, gg, hg, hep, hT, hP, hst, hws⟩ := hI
  refine gM.of px1 (Nat.le_of_ble_eq_true rfl) ?_
  intro F hE
  refine g_aload_n dX1_rise_0 rfl ?_
  refine g_dup dX1_rise_1 rfl ?_
  refine g_getf fl1_31 hg rfl dX1_rise_2 ?_
  refine g_iconst (nI 1) dX1_rise_5 (by decide) ?_
  refine g_isubN (a := dp + 1) (b := 1) dX1_rise_6 (by omega) ?_
  rw [Nat.add_sub_cancel]
  refine g_putf fl1_31 hg rfl rfl rfl (Nat.le_of_ble_eq_true rfl) dX1_rise_7 ?_
  refine g_iconst (nI 1) dX1_rise_10 (by decide) ?_
  exact g_iret hE rfl (⟨rfl, rfl, ⟨ep, S, gg, gset_same, hep, hT.put (by omega), hP.put (by omega), hst, hws⟩, fun q a b => gset_ne (by omega)⟩) dX1_rise_11
set_option maxRecDepth 100000 in
set_option maxHeartbeats 4000000 in
theorem m1_note {X : gX} {h : gH} {z g p n dp er t : Nat} {f : Nat → Int32} {K : gKo} {ep ir : Int32} (x : Nat) (he : er < 10) (hg : h g = some (grF g p ep dp er ir)) (hT : TkO X K h (g + 1) n f t) : gM X yX1_note cX1_note 2 none (0, 0, 0) [.ref g, .int (nI x)] h z (fun r h' z' => r = none ∧ z' = z ∧ h' g = some (grF g p (if er = 0 then nI (tks n f t) else ep) dp (if er = 0 then x else er) ir) ∧ OffB h h' g 1) gNoX := by
  obtain ⟨kf, S1, T1, en, hTT, hR⟩ := hT
  refine gM.of px1 (Nat.le_of_ble_eq_true rfl) ?_
  intro F hE
  refine g_aload_n dX1_note_0 rfl ?_
  refine g_getf fl1_35 hg rfl dX1_note_1 ?_
  refine g_if_neN 23 dX1_note_4 (by decide) (by omega) (fun c_4 => ?_) (fun c_4 => ?_)
  · exact g_vret hE (⟨rfl, rfl, by rw [if_neg c_4, if_neg c_4]; exact hg, OffB.rf⟩) dX1_note_23
  · refine g_aload_n dX1_note_7 rfl ?_
    refine g_iload_n dX1_note_8 rfl ?_
    refine g_putf fl1_35 hg rfl rfl rfl (Nat.le_of_ble_eq_true rfl) dX1_note_9 ?_
    refine g_aload_n dX1_note_12 rfl ?_
    refine g_aload_n dX1_note_13 rfl ?_
    refine g_getf fl1_12 gset_same rfl dX1_note_14 ?_
    refine g_getf fl1_67 ((gset_ne (by omega)).trans hTT.1.1) rfl dX1_note_17 ?_
    refine g_putf fl1_38 gset_same rfl rfl rfl (Nat.le_of_ble_eq_true rfl) dX1_note_20 ?_
    exact g_vret hE (⟨rfl, rfl, by rw [if_pos c_4, if_pos c_4]; exact gset_same, (OffB.rf.put (by omega) (by omega)).put (by omega) (by omega)⟩) dX1_note_23
