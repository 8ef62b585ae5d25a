/-! the class: the tape, what is taught, the checksum -/
theorem w1069 : Cond.constantLong RX10 206 1069 ∈ lw_tbl := gm4 6 (by decide +kernel)
theorem w31 : Cond.constantLong RX10 270 31 ∈ lw_tbl := gm4 11 (by decide +kernel)
theorem ClsS.at {X : gX} {K : gKo} {h : gH} {o n : Nat} {f : Nat → Int32} {P : PlM} {L : List Int32} {day car err : Int32} (hC : ClsS X K h o n f P L day car err) : ∃ fs, h o = some (.inr (8, fs)) := by
  obtain ⟨pp, sp, ep, dp, er, ir, h0, -⟩ := hC
  exact ⟨_, h0⟩
theorem ClsS.len {X : gX} {K : gKo} {h : gH} {o n : Nat} {f : Nat → Int32} {P : PlM} {L : List Int32} {day car err : Int32} (hC : ClsS X K h o n f P L day car err) : L.length ≤ 40 ∧ OkP P ∧ n ≤ 2000 := by
  obtain ⟨pp, sp, ep, dp, er, ir, h0, hpp, hg, hT, hP, hSp, hPa, hTr, hok, hn⟩ := hC
  obtain ⟨sk, fk, hB, hkk, hl2, hL⟩ := hPa
  exact ⟨hL.len, hok, hn⟩
theorem ClsS.tape {X : gX} {K : gKo} {h h' : gH} {o n n' : Nat} {f f' : Nat → Int32} {P : PlM} {L : List Int32} {day car err : Int32} (hC : ClsS X K h o n f P L day car err) (hT2 : TpB X h' (o + 3) n' f') (hO : OffB h h' (o + 3) 2) (hn2 : n' ≤ 2000) : ClsS X K h' o n' f' P L day car err := by
  obtain ⟨pp, sp, ep, dp, er, ir, h0, hpp, hg, ⟨kf, S, T, la, kt, kd, st, en, hT⟩, hP, ⟨nw, no, ns, S2, g2, wn, wf, oA, oJ, hSp⟩, hPa, ⟨L1, d1, c1, hTr⟩, hok, hn⟩ := hC
  exact ⟨pp, sp, ep, dp, er, ir, (hO _ (by omega)).trans h0, hpp, (hO _ (by omega)).trans hg, ⟨kf, S, T, la, kt, kd, st, en, ⟨(hO _ (by omega)).trans hT.1.1, (hO _ (by omega)).trans hT.1.2.1, (hO _ (by omega)).trans hT.1.2.2.1, (hO _ (by omega)).trans hT.1.2.2.2⟩, hT2⟩, hP.off hO (by omega), ⟨nw, no, ns, S2, g2, wn, wf, oA, oJ, hSp.off hO (by omega)⟩, hPa.off hO (by omega), ⟨L1, d1, c1, hTr.off hO (by omega)⟩, hok, hn2⟩
/-- the shift of byte i -/
def shf (i : Nat) : Int32 := nI 24 - nI 8 * nI i
theorem shf_s : ∀ i, i < 4 → shf i + Int32.ofInt (-8) = shf (i + 1) := by decide
theorem shf_m : ∀ i, i < 4 → nI (24 - 8 * i) + Int32.ofInt (-8) = shf (i + 1) := by decide
theorem shf_n : ∀ i, i < 4 → shf i = nI (24 - 8 * i) := by decide
theorem shf_p : ∀ i, i < 4 → ¬ shf i < 0 := by decide
set_option maxRecDepth 100000 in
set_option maxHeartbeats 4000000 in
theorem m6_append {X : gX} {h : gH} {z a n : Nat} {f : Nat → Int32} (x : Int32) (hn : n + 4 ≤ 2000) (hT : TpB X h a n f) : gM X yX6_append cX6_append 3 none (1, 0, 0) [.ref a, .int x] h z (fun r h' z' => r = none ∧ z' = z ∧ TpB X h' a (n + 4) (fdU f n (by4 x) 4) ∧ OffB h h' a 2) gNoX := by
  refine gM.of px6 (Nat.le_of_ble_eq_true rfl) ?_
  intro F hE
  have loop : ∀ (N i : Nat) (h1 : gH), i + N = 4 → TpB X h1 a (n + i) (fdU f n (by4 x) i) → OffB h h1 a 2 → G X F cX6_append 3 yX6_append.cls (1, 0, 0) 0 0 3 [some (.ref a), some (.int x), some (.int (shf i))] [] h1 z := by
    intro N
    induction N with
    | zero =>
      intro i h1 hi hT1 hO1
      have hi4 : i = 4 := by omega
      subst hi4
      refine g_iload_n dX6_append_3 rfl ?_
      refine g_if_lt 56 dX6_append_4 (by decide) (fun c_4 => ?_) (fun c_4 => ?_)
      · exact g_vret hE (⟨rfl, rfl, hT1, hO1⟩) dX6_append_56
      · exact absurd (show shf 4 < 0 by decide) c_4
    | succ N ih =>
      intro i h1 hi hT1 hO1
      refine g_iload_n dX6_append_3 rfl ?_
      refine g_if_lt 56 dX6_append_4 (by decide) (fun c_4 => ?_) (fun c_4 => ?_)
      · exact absurd c_4 (shf_p i (by omega))
      · refine g_aload_n dX6_append_7 rfl ?_
        refine g_getf fl6_15 hT1.1 rfl dX6_append_8 ?_
        refine g_if_ltN 50 dX6_append_11 (by decide) (by omega) ?_
        refine g_aload_n dX6_append_14 rfl ?_
        refine g_getf fl6_15 hT1.1 rfl dX6_append_15 ?_
        refine g_sipush (nI 2000) dX6_append_18 (by decide) ?_
        refine g_icmp_geN 50 dX6_append_21 (by decide) (by omega) (by omega) (fun c_21 => ?_) (fun c_21 => ?_)
        · exact absurd c_21 (by omega)
        · refine g_aload_n dX6_append_24 rfl ?_
          refine g_getf fl6_9 hT1.1 rfl dX6_append_25 ?_
          refine g_aload_n dX6_append_28 rfl ?_
          refine g_getf fl6_15 hT1.1 rfl dX6_append_29 ?_
          refine g_iload_n dX6_append_32 rfl ?_
          refine g_iload_n dX6_append_33 rfl ?_
          refine g_iushr dX6_append_34 ?_
          refine g_sipush (nI 255) dX6_append_35 (by decide) ?_
          refine g_iand dX6_append_38 ?_
          rw [shf_n i (by omega), by4_c x i (by omega)]
          refine g_iastN (j := n + i) hT1.2 (by omega) (by decide) dX6_append_39 ?_
          refine g_aload_n dX6_append_40 rfl ?_
          refine g_dup dX6_append_41 rfl ?_
          refine g_getf fl6_15 ((gset_ne (by omega)).trans hT1.1) rfl dX6_append_42 ?_
          refine g_iconst (nI 1) dX6_append_45 (by decide) ?_
          first | refine g_iaddN dX6_append_46 ?_ | refine g_iadd dX6_append_46 ?_
          refine g_putf fl6_15 ((gset_ne (by omega)).trans hT1.1) rfl rfl rfl (Nat.le_of_ble_eq_true rfl) dX6_append_47 ?_
          refine g_iinc (x := nI (24 - 8 * i)) (shf (i + 1)) dX6_append_50 rfl (shf_m i (by omega)) (by decide) rfl ?_
          refine g_goto 3 dX6_append_53 (by decide) ?_
          exact ih (i + 1) _ (by omega) ⟨gset_same, (gset_ne (by omega)).trans gset_same⟩ ((hO1.put (by omega) (by omega)).put (by omega) (by omega))
  refine g_bipush (nI 24) dX6_append_0 (by decide) ?_
  refine g_istore_n dX6_append_2 (by decide) rfl ?_
  exact loop 4 0 h rfl hT OffB.rf
set_option maxRecDepth 100000 in
set_option maxHeartbeats 4000000 in
theorem m10_feed {X : gX} {K : gKo} {h : gH} {z o n : Nat} {f : Nat → Int32} {P : PlM} {L : List Int32} {day car err : Int32} (a b c d e : Int32) (hn : n ≤ 1980) (hC : ClsS X K h o n f P L day car err) : gM X yX10_feed cX10_feed 6 (some .int) (50, 0, 0) [.ref o, .int a, .int b, .int c, .int d, .int e] h z (fun r h' z' => r = some (.int (nI (n + 20))) ∧ z' = z ∧ ClsS X K h' o (n + 20) (fdU f n (fdG a b c d e) 20) P L day car err ∧ OffB h h' o 162) gNoX := by
  obtain ⟨pp, sp, ep, dp, er, ir, h0, hpp, hg, ⟨kf, S, T, la, kt, kd, st, en, hT⟩, -⟩ := id hC
  have hT0 : TpB X h (o + 3) n f := hT.2
  refine gM.of px10 (Nat.le_of_ble_eq_true rfl) ?_
  intro F hE
  refine g_aload_n dX10_feed_0 rfl ?_
  refine g_getf fl10_26 h0 rfl dX10_feed_1 ?_
  refine g_getf fl10_48 hT0.1 rfl dX10_feed_4 ?_
  refine g_sipush (nI 1980) dX10_feed_7 (by decide) ?_
  refine g_icmp_leN 23 dX10_feed_10 (by decide) (by omega) (by omega) (fun c_10 => ?_) (fun c_10 => ?_)
  · refine g_aload_n dX10_feed_23 rfl ?_
    refine g_getf fl10_26 h0 rfl dX10_feed_24 ?_
    refine g_iload_n dX10_feed_27 rfl ?_
    refine g_callV0 kX10_60 (m6_append a (by omega) hT0) hT0.1 rfl rfl rfl (Nat.le_of_ble_eq_true rfl) (by decide) (by decide) (by decide) (by decide) dX10_feed_28 ?_
    rintro v1 h1 z1 ⟨rfl, rfl, hT1, hO1⟩
    have h01 := (hO1 o (by omega)).trans h0
    refine g_aload_n dX10_feed_31 rfl ?_
    refine g_getf fl10_26 h01 rfl dX10_feed_32 ?_
    refine g_iload_n dX10_feed_35 rfl ?_
    refine g_callV0 kX10_60 (m6_append b (by omega) hT1) hT1.1 rfl rfl rfl (Nat.le_of_ble_eq_true rfl) (by decide) (by decide) (by decide) (by decide) dX10_feed_36 ?_
    rintro v1 h2 z1 ⟨rfl, rfl, hT2, hO2⟩
    have h02 := (hO2 o (by omega)).trans h01
    refine g_aload_n dX10_feed_39 rfl ?_
    refine g_getf fl10_26 h02 rfl dX10_feed_40 ?_
    refine g_iload_n dX10_feed_43 rfl ?_
    refine g_callV0 kX10_60 (m6_append c (by omega) hT2) hT2.1 rfl rfl rfl (Nat.le_of_ble_eq_true rfl) (by decide) (by decide) (by decide) (by decide) dX10_feed_44 ?_
    rintro v1 h3 z1 ⟨rfl, rfl, hT3, hO3⟩
    have h03 := (hO3 o (by omega)).trans h02
    refine g_aload_n dX10_feed_47 rfl ?_
    refine g_getf fl10_26 h03 rfl dX10_feed_48 ?_
    refine g_iload dX10_feed_51 rfl ?_
    refine g_callV0 kX10_60 (m6_append d (by omega) hT3) hT3.1 rfl rfl rfl (Nat.le_of_ble_eq_true rfl) (by decide) (by decide) (by decide) (by decide) dX10_feed_53 ?_
    rintro v1 h4 z1 ⟨rfl, rfl, hT4, hO4⟩
    have h04 := (hO4 o (by omega)).trans h03
    refine g_aload_n dX10_feed_56 rfl ?_
    refine g_getf fl10_26 h04 rfl dX10_feed_57 ?_
    refine g_iload dX10_feed_60 rfl ?_
    refine g_callV0 kX10_60 (m6_append e (by omega) hT4) hT4.1 rfl rfl rfl (Nat.le_of_ble_eq_true rfl) (by decide) (by decide) (by decide) (by decide) dX10_feed_62 ?_
    rintro v1 h5 z1 ⟨rfl, rfl, hT5, hO5⟩
    have h05 := (hO5 o (by omega)).trans h04
    refine g_aload_n dX10_feed_65 rfl ?_
    refine g_getf fl10_26 h05 rfl dX10_feed_66 ?_
    refine g_getf fl10_48 hT5.1 rfl dX10_feed_69 ?_
    exact g_iret hE rfl (⟨rfl, rfl, hC.tape (f' := fdU f n (fdG a b c d e) 20) (n' := n + 20) hT5 ((((hO1.trans hO2).trans hO3).trans hO4).trans hO5) (by omega), ((((hO1.trans hO2).trans hO3).trans hO4).trans hO5).wide (by omega) (by omega)⟩) dX10_feed_72
  · exact absurd c_10 (by omega)
set_option maxRecDepth 100000 in
set_option maxHeartbeats 4000000 in
theorem m10_trim {X : gX} {K : gKo} {h : gH} {z o n : Nat} {f : Nat → Int32} {P : PlM} {L : List Int32} {day car err : Int32} (k : Nat) (hk : k ≤ n) (hC : ClsS X K h o n f P L day car err) : gM X yX10_trim cX10_trim 2 (some .int) (50, 0, 0) [.ref o, .int (nI k)] h z (fun r h' z' => r = some (.int (nI k)) ∧ z' = z ∧ ClsS X K h' o k f P L day car err ∧ OffB h h' o 162) gNoX := by
  obtain ⟨pp, sp, ep, dp, er, ir, h0, hpp, hg, ⟨kf, S, T, la, kt, kd, st, en, hT⟩, -, -, -, -, -, hn⟩ := id hC
  have hT0 : TpB X h (o + 3) n f := hT.2
  refine gM.of px10 (Nat.le_of_ble_eq_true rfl) ?_
  intro F hE
  refine g_iload_n dX10_trim_0 rfl ?_
  refine g_if_ltN 15 dX10_trim_1 (by decide) (by omega) ?_
  refine g_iload_n dX10_trim_4 rfl ?_
  refine g_aload_n dX10_trim_5 rfl ?_
  refine g_getf fl10_26 h0 rfl dX10_trim_6 ?_
  refine g_getf fl10_48 hT0.1 rfl dX10_trim_9 ?_
  refine g_icmp_leN 25 dX10_trim_12 (by decide) (by omega) (by omega) (fun c_12 => ?_) (fun c_12 => ?_)
  · refine g_aload_n dX10_trim_25 rfl ?_
    refine g_getf fl10_26 h0 rfl dX10_trim_26 ?_
    refine g_iload_n dX10_trim_29 rfl ?_
    refine g_putf fl10_48 hT0.1 rfl rfl rfl (Nat.le_of_ble_eq_true rfl) dX10_trim_30 ?_
    refine g_iload_n dX10_trim_33 rfl ?_
    exact g_iret hE rfl (⟨rfl, rfl, hC.tape (n' := k) ⟨gset_same, (gset_ne (by omega)).trans hT0.2⟩ (OffB.rf.put (by omega) (by omega)) (by omega), (OffB.rf.put (a := o) (n := 162) (by omega) (by omega))⟩) dX10_trim_34
  · exact absurd c_12 (by omega)
set_option maxRecDepth 100000 in
set_option maxHeartbeats 4000000 in
theorem m1_exchange {X : gX} {h : gH} {z g p q dp er : Nat} {ep ir : Int32} (hg : h g = some (grF g p ep dp er ir)) : gM X yX1_exchange cX1_exchange 3 (some (.object "ParrotSquawks$Plan")) (1, 0, 0) [.ref g, .ref q] h z (fun r h' z' => r = some (.ref p) ∧ z' = z ∧ h' = gset h g (grF g q ep dp er ir)) gNoX := by
  refine gM.of px1 (Nat.le_of_ble_eq_true rfl) ?_
  intro F hE
  refine g_aload_n dX1_exchange_0 rfl ?_
  refine g_getf fl1_21 hg rfl dX1_exchange_1 ?_
  refine g_astore_n dX1_exchange_4 (by decide) rfl ?_
  refine g_aload_n dX1_exchange_5 rfl ?_
  refine g_aload_n dX1_exchange_6 rfl ?_
  refine g_putf fl1_21 hg rfl rfl rfl (Nat.le_of_ble_eq_true rfl) dX1_exchange_7 ?_
  refine g_aload_n dX1_exchange_10 rfl ?_
  exact g_aret hE (⟨rfl, rfl, rfl⟩) dX1_exchange_11
theorem PlC.eqb {X : gX} {K : gKo} {h h' : gH} {p : Nat} {P : PlM} (hP : PlC X K h p P) (hq : ∀ x, p ≤ x → x < p + 69 → h' x = h x) : PlC X K h' p P := by
  obtain ⟨S, g, wn, wf, oA, oJ, ⟨h1, ⟨f2, h2, g2⟩, h3, h4, ⟨f5, h5, g5⟩, h6, h7⟩, hR⟩ := hP
  exact ⟨S, g, wn, wf, oA, oJ, ⟨(hq _ (by omega) (by omega)).trans h1, ⟨f2, (hq _ (by omega) (by omega)).trans h2, g2⟩, (hq _ (by omega) (by omega)).trans h3, (hq _ (by omega) (by omega)).trans h4, ⟨f5, (hq _ (by omega) (by omega)).trans h5, g5⟩, fun i hi => ⟨(hq _ (by omega) (by omega)).trans (h6 i hi).1, (hq _ (by omega) (by omega)).trans (h6 i hi).2⟩, fun k hk => ⟨(hq _ (by omega) (by omega)).trans (h7 k hk).1, (hq _ (by omega) (by omega)).trans (h7 k hk).2.1, (hq _ (by omega) (by omega)).trans (h7 k hk).2.2⟩⟩, hR⟩
theorem PaT.eqb {X : gX} {h h' : gH} {q : Nat} {L : List Int32} {day car : Int32} (hS : PaT X h q L day car) (hq : ∀ x, q ≤ x → x < q + 8 → h' x = h x) : PaT X h' q L day car := by
  obtain ⟨st, f, hB, hk, hl, n, I, A, hS, hI⟩ := hS
  exact ⟨st, f, ⟨(hq _ (by omega) (by omega)).trans hB.1, (hq _ (by omega) (by omega)).trans hB.2⟩, hk, hl, n, I, A, ⟨(hq _ (by omega) (by omega)).trans hS.1, fun k hk => (hq _ (by omega) (by omega)).trans (hS.2 k hk)⟩, hI⟩
theorem PlC.put1 {X : gX} {K : gKo} {h : gH} {p b : Nat} {e : va_E} {P : PlM} (hP : PlC X K h p P) (hb : b < p ∨ p + 69 ≤ b) : PlC X K (gset h b e) p P := hP.off (b := b) (m := 1) (fun q hq => gset_ne (by omega)) (by omega)
set_option maxRecDepth 100000 in
set_option maxHeartbeats 4000000 in
theorem m10_teach {X : gX} {K : gKo} {h : gH} {z o n : Nat} {f : Nat → Int32} {P : PlM} {L : List Int32} {day car err : Int32} (hK : gCo X K) (hC : ClsS X K h o n f P L day car err) : gM X yX10_teach cX10_teach 2 (some .int) (50, 0, 0) [.ref o] h z (fun r h' z' => r = some (.int (nI (bkE n f))) ∧ z' = z ∧ (if bkE n f = 0 then ClsS X K h' o 0 f (plM n f (bkR n f).2) [] 0 0 (bkP n f) else ClsS X K h' o 0 f P L day car (bkP n f)) ∧ OffB h h' o 162) gNoX := by
  obtain ⟨pp, sp, ep, dp, er, ir, h0, hpp, hg, ⟨kf, S, T, la, kt, kd, st, en, hT⟩, hP, ⟨nw, no, ns, S2, g2, wn, wf, oA, oJ, hSp⟩, hPa, ⟨L1, d1, c1, hTr⟩, hok, hn⟩ := id hC
  have hap : ApG (o + 1) sp := by unfold ApG; omega
  have hbe : bkE n f < 10 := by unfold bkE; split; exact se_err _; decide
  refine gM.of px10 (Nat.le_of_ble_eq_true rfl) ?_
  intro F hE
  refine g_aload_n dX10_teach_0 rfl ?_
  refine g_getf fl10_10 h0 rfl dX10_teach_1 ?_
  refine g_callV0 kX10_69 (m1_readPlan hK hap hn hg hT hSp) hg rfl rfl rfl (Nat.le_of_ble_eq_true rfl) (by decide) (by decide) (by decide) (by decide) dX10_teach_4 ?_
  rintro v1 h2 z1 ⟨rfl, rfl, ⟨dp2, ir2, hg2⟩, ⟨t2, kf2, S3, T3, en2, hT2, -⟩, ⟨nw2, no2, ns2, S4, g4, wn4, wf4, oA4, oJ4, hSp2⟩, hPc2, hO2⟩
  have hq : ∀ x, (x < o + 1 ∨ o + 8 ≤ x) → (x < sp ∨ sp + 69 ≤ x) → h2 x = h x := fun x b1 b2 => hO2 x (by omega) b2
  have hf1 : ∀ b m, (b + m ≤ o + 1 ∨ o + 8 ≤ b) → (b + m ≤ sp ∨ sp + 69 ≤ b) → ∀ x, b ≤ x → x < b + m → h2 x = h x := fun b m b1 b2 x b3 b4 => hq x (by omega) (by omega)
  have h02 := (hq o (by omega) (by omega)).trans h0
  have hP2 : PlC X K h2 pp P := hP.eqb (hf1 pp 69 (by omega) (by omega))
  have hPa2 : PaT X h2 (o + 77) L day car := hPa.eqb (hf1 (o + 77) 8 (by omega) (by omega))
  have hTr2 : PaT X h2 (o + 85) L1 d1 c1 := hTr.eqb (hf1 (o + 85) 8 (by omega) (by omega))
  have hTp2 : TpB X h2 (o + 3) n f := hT2.2
  have hOw : OffB h h2 o 162 := fun x hx => hq x (by omega) (by omega)
  refine g_istore_n dX10_teach_7 (by decide) rfl ?_
  refine g_aload_n dX10_teach_8 rfl ?_
  refine g_aload_n dX10_teach_9 rfl ?_
  refine g_getf fl10_10 h02 rfl dX10_teach_10 ?_
  refine g_getf fl10_73 hg2 rfl dX10_teach_13 ?_
  refine g_putf fl10_44 h02 rfl rfl rfl (Nat.le_of_ble_eq_true rfl) dX10_teach_16 ?_
  refine g_aload_n dX10_teach_19 rfl ?_
  refine g_getf fl10_26 gset_same rfl dX10_teach_20 ?_
  refine g_iconst (nI 0) dX10_teach_23 (by decide) ?_
  refine g_putf fl10_48 ((gset_ne (by omega)).trans hTp2.1) rfl rfl rfl (Nat.le_of_ble_eq_true rfl) dX10_teach_24 ?_
  refine g_iload_n dX10_teach_27 rfl ?_
  refine g_if_neN 53 dX10_teach_28 (by decide) (by omega) (fun c_28 => ?_) (fun c_28 => ?_)
  · refine g_iload_n dX10_teach_53 rfl ?_
    refine g_iret hE rfl ⟨rfl, rfl, ?_, (hOw.put (by omega) (by omega)).put (by omega) (by omega)⟩ dX10_teach_54
    rw [if_neg c_28]
    exact ⟨pp, sp, _, _, _, _, (gset_ne (by omega)).trans gset_same, hpp, (gset_ne (by omega)).trans ((gset_ne (by omega)).trans hg2), ⟨kf2, S3, T3, _, _, _, _, en2, ⟨(gset_ne (by omega)).trans ((gset_ne (by omega)).trans hT2.1.1), (gset_ne (by omega)).trans ((gset_ne (by omega)).trans hT2.1.2.1), (gset_ne (by omega)).trans ((gset_ne (by omega)).trans hT2.1.2.2.1), (gset_ne (by omega)).trans ((gset_ne (by omega)).trans hT2.1.2.2.2)⟩, gset_same, (gset_ne (by omega)).trans ((gset_ne (by omega)).trans hTp2.2)⟩, (hP2.put1 (by omega)).put1 (by omega), ⟨_, _, _, _, _, _, _, _, _, (hSp2.put1 (by omega)).put1 (by omega)⟩, (hPa2.put1 (by omega)).put1 (by omega), ⟨_, _, _, (hTr2.put1 (by omega)).put1 (by omega)⟩, hok, Nat.zero_le _⟩
  · have hPb := ((((hPa2.put1 (b := o) (e := .inr (8, [.ref (o + 1), .ref (o + 3), .ref (o + 77), .ref (o + 85), .ref pp, .int (bkP n f)])) (by omega)).put1 (b := o + 3) (e := .inr (5, [.ref (o + 4), .int (nI 0)])) (by omega)).put1 (b := o + 1) (e := grF (o + 1) pp (bkP n f) dp2 (bkE n f) ir2) (by omega)).put1 (b := o) (e := .inr (8, [.ref (o + 1), .ref (o + 3), .ref (o + 77), .ref (o + 85), .ref sp, .int (bkP n f)])) (by omega))
    obtain ⟨skb, fkb, hBb, -⟩ := id hPb
    refine g_aload_n dX10_teach_31 rfl ?_
    refine g_aload_n dX10_teach_32 rfl ?_
    refine g_getf fl10_10 ((gset_ne (by omega)).trans gset_same) rfl dX10_teach_33 ?_
    refine g_aload_n dX10_teach_36 rfl ?_
    refine g_getf fl10_40 ((gset_ne (by omega)).trans gset_same) rfl dX10_teach_37 ?_
    refine g_callV0 kX10_74 (m1_exchange (q := pp) ((gset_ne (by omega)).trans ((gset_ne (by omega)).trans hg2))) ((gset_ne (by omega)).trans ((gset_ne (by omega)).trans hg2)) rfl rfl rfl (Nat.le_of_ble_eq_true rfl) (by decide) (by decide) (by decide) (by decide) dX10_teach_40 ?_
    rintro v1 h3 z1 ⟨rfl, rfl, rfl⟩
    refine g_putf fl10_40 ((gset_ne (by omega)).trans ((gset_ne (by omega)).trans gset_same)) rfl rfl rfl (Nat.le_of_ble_eq_true rfl) dX10_teach_43 ?_
    refine g_aload_n dX10_teach_46 rfl ?_
    refine g_getf fl10_30 gset_same rfl dX10_teach_47 ?_
    refine g_callV0 kX10_78 (m3_beginAnew hPb) hBb.1 rfl rfl rfl (Nat.le_of_ble_eq_true rfl) (by decide) (by decide) (by decide) (by decide) dX10_teach_50 ?_
    rintro v1 h4 z1 ⟨rfl, rfl, hPa4, hO4⟩
    refine g_iload_n dX10_teach_53 rfl ?_
    refine g_iret hE rfl ⟨rfl, rfl, ?_, ((((hOw.put (by omega) (by omega)).put (by omega) (by omega)).put (by omega) (by omega)).put (by omega) (by omega)).trans (hO4.wide (by omega) (by omega))⟩ dX10_teach_54
    rw [if_pos c_28]
    have hb1 : (bkR n f).1 = true := by
      cases hb : (bkR n f).1 with
      | true => rfl
      | false => unfold bkE at c_28; rw [hb] at c_28; cases c_28
    have he2 : (seF n f (bkR n f).2.1.2.2).2.2.1 = 0 := by unfold bkE at c_28; rw [if_pos hb1] at c_28; exact c_28
    obtain ⟨S9, g9, wn9, wf9, oA9, oJ9, hPB9, -⟩ := id hP2
    refine ⟨sp, pp, _, _, _, _, (hO4 _ (by omega)).trans gset_same, by omega, (hO4 _ (by omega)).trans ((gset_ne (by omega)).trans gset_same), ⟨kf2, S3, T3, tkl n f, t2, K.1 (tkk n f t2), tks n f t2, en2, ⟨?_, ?_, ?_, ?_⟩, ?_, ?_⟩, ?_, ⟨P.1.1, P.2.1.1, P.2.2.1, S9, g9, wn9, wf9, oA9, oJ9, ?_⟩, hPa4, ⟨L1, d1, c1, ?_⟩, plM_ok (bkR_ok hb1).1 he2, Nat.zero_le _⟩
    · exact (hO4 _ (by omega)).trans ((gset_ne (by omega)).trans ((gset_ne (by omega)).trans ((gset_ne (by omega)).trans ((gset_ne (by omega)).trans hT2.1.1))))
    · exact (hO4 _ (by omega)).trans ((gset_ne (by omega)).trans ((gset_ne (by omega)).trans ((gset_ne (by omega)).trans ((gset_ne (by omega)).trans hT2.1.2.1))))
    · exact (hO4 _ (by omega)).trans ((gset_ne (by omega)).trans ((gset_ne (by omega)).trans ((gset_ne (by omega)).trans ((gset_ne (by omega)).trans hT2.1.2.2.1))))
    · exact (hO4 _ (by omega)).trans ((gset_ne (by omega)).trans ((gset_ne (by omega)).trans ((gset_ne (by omega)).trans ((gset_ne (by omega)).trans hT2.1.2.2.2))))
    · exact (hO4 _ (by omega)).trans ((gset_ne (by omega)).trans ((gset_ne (by omega)).trans gset_same))
    · exact (hO4 _ (by omega)).trans ((gset_ne (by omega)).trans ((gset_ne (by omega)).trans ((gset_ne (by omega)).trans ((gset_ne (by omega)).trans hTp2.2))))
    · exact ((((((hPc2 c_28).put1 (by omega)).put1 (by omega)).put1 (by omega)).put1 (by omega)).off hO4 (by omega))
    · exact ((((hPB9.put1 (by omega)).put1 (by omega)).put1 (by omega)).put1 (by omega)).off hO4 (by omega)
    · exact (((((hTr2.put1 (by omega)).put1 (by omega)).put1 (by omega)).put1 (by omega)).off hO4 (by omega))
