/-! the class: what its calls keep; short answers, squawks, phrases, insults -/
section CL
variable {X : gX} {K : gKo} {h h' : gH} {o n : Nat} {f : Nat → Int32} {P : PlM} {L L' : List Int32} {day car err day' car' : Int32}
theorem ClsS.pa (hC : ClsS X K h o n f P L day car err) (hS : PaT X h' (o + 77) L' day' car') (hO : OffB h h' (o + 77) 8) : ClsS X K h' o n f P L' day' car' err := by
  obtain ⟨pp, sp, ep, dp, er, ir, h0, hpp, hg, ⟨kf, S, T, la, kt, kd, st, en, hT⟩, hP, ⟨nw, no, ns, S2, g2, wn, wf, oA, oJ, hSp⟩, hPa, ⟨L1, d1, c1, hTr⟩, hok, hn⟩ := hC
  exact ⟨pp, sp, ep, dp, er, ir, (hO _ (by omega)).trans h0, hpp, (hO _ (by omega)).trans hg, ⟨kf, S, T, la, kt, kd, st, en, hT.off hO (by omega)⟩, hP.off hO (by omega), ⟨nw, no, ns, S2, g2, wn, wf, oA, oJ, hSp.off hO (by omega)⟩, hS, ⟨L1, d1, c1, hTr.off hO (by omega)⟩, hok, hn⟩
theorem ClsS.tr (hC : ClsS X K h o n f P L day car err) (hS : PaT X h' (o + 85) L' day' car') (hO : OffB h h' (o + 85) 8) : ClsS X K h' o n f P L day car err := by
  obtain ⟨pp, sp, ep, dp, er, ir, h0, hpp, hg, ⟨kf, S, T, la, kt, kd, st, en, hT⟩, hP, ⟨nw, no, ns, S2, g2, wn, wf, oA, oJ, hSp⟩, hPa, hTr, hok, hn⟩ := hC
  exact ⟨pp, sp, ep, dp, er, ir, (hO _ (by omega)).trans h0, hpp, (hO _ (by omega)).trans hg, ⟨kf, S, T, la, kt, kd, st, en, hT.off hO (by omega)⟩, hP.off hO (by omega), ⟨nw, no, ns, S2, g2, wn, wf, oA, oJ, hSp.off hO (by omega)⟩, hPa.off hO (by omega), ⟨L', day', car', hS⟩, hok, hn⟩
theorem PaT.sq {q : Nat} (hS : PaT X h q L day car) (hL : SqL sqCa X h' (q + 1) L') (hO : OffB h h' (q + 1) 6) : PaT X h' q L' day car := by
  obtain ⟨st, f, hB, hk, hl, -⟩ := hS
  exact ⟨st, f, hB.off hO (Or.inr (Or.inr ⟨rfl, Nat.le_refl _⟩)), hk, hl, hL⟩
theorem ClsS.sq (hC : ClsS X K h o n f P L day car err) (hL : SqL sqCa X h' (o + 77 + 1) L') (hO : OffB h h' (o + 77 + 1) 6) : ClsS X K h' o n f P L' day car err := by
  have hPa : PaT X h (o + 77) L day car := by
    obtain ⟨pp, sp, ep, dp, er, ir, h0, hpp, hg, hT, hP, hSp, hPa, hr⟩ := hC
    exact hPa
  exact hC.pa (hPa.sq hL hO) (hO.wide (by omega) (by omega))
end CL
/-- an answer of the class: v, nothing told of has changed -/
abbrev cA (X : gX) (K : gKo) (h : gH) (z o n : Nat) (f : Nat → Int32) (P : PlM) (L : List Int32) (day car err v : Int32) : Option Value → gH → Nat → Prop := fun r h' z' => r = some (.int v) ∧ z' = z ∧ ClsS X K h' o n f P L day car err ∧ OffB h h' o 162
theorem nI_notlt {k n : Nat} (hn : n < 2 ^ 31) (h : n ≤ k) (hk : k < 2 ^ 31) : ¬ nI k < nI n := fun w => by have := (nI_ltI hk hn).mp w; omega
set_option maxRecDepth 100000 in
set_option maxHeartbeats 4000000 in
theorem m10_checkPlace {X : gX} {K : gKo} {h : gH} {z o n : Nat} {f : Nat → Int32} {P : PlM} {L : List Int32} {day car err : Int32} (k : Nat) (hk : k < L.length) (hC : ClsS X K h o n f P L day car err) : gM X yX10_checkPlace cX10_checkPlace 2 none (2, 0, 0) [.ref o, .int (nI k)] h z (fun r h' z' => r = none ∧ h' = h ∧ z' = z) gNoX := by
  obtain ⟨pp, sp, ep, dp, er, ir, h0, hpp, hg, ⟨kf, S, T, la, kt, kd, st, en, hT⟩, hP, hSp, hPa, hTr, hok, hn⟩ := id hC
  obtain ⟨sk, fk, hB, hkk, hl2, hL⟩ := id hPa
  obtain ⟨nq, I, A, hS, rfl, hl, hA, -⟩ := id hL
  obtain ⟨S1, g1, wn1, wf1, oA1, oJ1, hPB, hPR⟩ := id hP
  refine gM.of px10 (Nat.le_of_ble_eq_true rfl) ?_
  intro F hE
  refine g_iload_n dX10_checkPlace_0 rfl ?_
  refine g_if_ltN 18 dX10_checkPlace_1 (by decide) (by omega) ?_
  refine g_iload_n dX10_checkPlace_4 rfl ?_
  refine g_aload_n dX10_checkPlace_5 rfl ?_
  refine g_getf fl10_30 h0 rfl dX10_checkPlace_6 ?_
  refine g_getf fl10_81 hB.1 rfl dX10_checkPlace_9 ?_
  refine g_getf fl10_85 hS.1 rfl dX10_checkPlace_12 ?_
  refine g_icmp_ltN 29 dX10_checkPlace_15 (by decide) (by omega) (by omega) (fun c_15 => ?_) (fun c_15 => ?_)
  · exact g_vret hE (⟨rfl, rfl, rfl⟩) dX10_checkPlace_29
  · exact absurd c_15 (by omega)
set_option maxRecDepth 100000 in
set_option maxHeartbeats 4000000 in
theorem m10_checkInsult {X : gX} {K : gKo} {h : gH} {z o n : Nat} {f : Nat → Int32} {P : PlM} {L : List Int32} {day car err : Int32} (k : Nat) (hk : k < P.1.1) (hC : ClsS X K h o n f P L day car err) : gM X yX10_checkInsult cX10_checkInsult 2 none (2, 0, 0) [.ref o, .int (nI k)] h z (fun r h' z' => r = none ∧ h' = h ∧ z' = z) gNoX := by
  obtain ⟨pp, sp, ep, dp, er, ir, h0, hpp, hg, ⟨kf, S, T, la, kt, kd, st, en, hT⟩, hP, hSp, hPa, hTr, hok, hn⟩ := id hC
  obtain ⟨sk, fk, hB, hkk, hl2, hL⟩ := id hPa
  obtain ⟨nq, I, A, hS, rfl, hl, hA, -⟩ := id hL
  obtain ⟨S1, g1, wn1, wf1, oA1, oJ1, hPB, hPR⟩ := id hP
  have h8 := hok.1.1
  refine gM.of px10 (Nat.le_of_ble_eq_true rfl) ?_
  intro F hE
  refine g_iload_n dX10_checkInsult_0 rfl ?_
  refine g_if_ltN 15 dX10_checkInsult_1 (by decide) (by omega) ?_
  refine g_iload_n dX10_checkInsult_4 rfl ?_
  refine g_aload_n dX10_checkInsult_5 rfl ?_
  refine g_getf fl10_40 h0 rfl dX10_checkInsult_6 ?_
  refine g_getf fl10_90 hPB.1 rfl dX10_checkInsult_9 ?_
  refine g_icmp_ltN 26 dX10_checkInsult_12 (by decide) (by omega) (by omega) (fun c_12 => ?_) (fun c_12 => ?_)
  · exact g_vret hE (⟨rfl, rfl, rfl⟩) dX10_checkInsult_26
  · exact absurd c_12 (by omega)
set_option maxRecDepth 100000 in
set_option maxHeartbeats 4000000 in
theorem m10_checkLetters {X : gX} {K : gKo} {h : gH} {z o n : Nat} {f : Nat → Int32} {P : PlM} {L : List Int32} {day car err : Int32} (k : Nat) (hk1 : 1 ≤ k) (hk : k ≤ 40) (hC : ClsS X K h o n f P L day car err) : gM X yX10_checkLetters cX10_checkLetters 2 none (2, 0, 0) [.ref o, .int (nI k)] h z (fun r h' z' => r = none ∧ h' = h ∧ z' = z) gNoX := by
  obtain ⟨pp, sp, ep, dp, er, ir, h0, hpp, hg, ⟨kf, S, T, la, kt, kd, st, en, hT⟩, hP, hSp, hPa, hTr, hok, hn⟩ := id hC
  obtain ⟨sk, fk, hB, hkk, hl2, hL⟩ := id hPa
  obtain ⟨nq, I, A, hS, rfl, hl, hA, -⟩ := id hL
  obtain ⟨S1, g1, wn1, wf1, oA1, oJ1, hPB, hPR⟩ := id hP
  refine gM.of px10 (Nat.le_of_ble_eq_true rfl) ?_
  intro F hE
  refine g_iload_n dX10_checkLetters_0 rfl ?_
  refine g_iconst (nI 1) dX10_checkLetters_1 (by decide) ?_
  refine g_icmp_ltN 11 dX10_checkLetters_2 (by decide) (by omega) (by omega) (fun c_2 => ?_) (fun c_2 => ?_)
  · exact absurd c_2 (by omega)
  · refine g_iload_n dX10_checkLetters_5 rfl ?_
    refine g_bipush (nI 40) dX10_checkLetters_6 (by decide) ?_
    refine g_icmp_leN 22 dX10_checkLetters_8 (by decide) (by omega) (by omega) (fun c_8 => ?_) (fun c_8 => ?_)
    · exact g_vret hE (⟨rfl, rfl, rfl⟩) dX10_checkLetters_22
    · exact absurd c_8 (by omega)
set_option maxRecDepth 100000 in
set_option maxHeartbeats 4000000 in
theorem m10_checkRemembered {X : gX} {K : gKo} {h : gH} {z o n : Nat} {f : Nat → Int32} {P : PlM} {L : List Int32} {day car err : Int32} (k : Nat) (hk1 : 1 ≤ k) (hk : k ≤ L.length) (hC : ClsS X K h o n f P L day car err) : gM X yX10_checkRemembered cX10_checkRemembered 2 none (3, 0, 0) [.ref o, .int (nI k)] h z (fun r h' z' => r = none ∧ h' = h ∧ z' = z) gNoX := by
  obtain ⟨pp, sp, ep, dp, er, ir, h0, hpp, hg, ⟨kf, S, T, la, kt, kd, st, en, hT⟩, hP, hSp, hPa, hTr, hok, hn⟩ := id hC
  obtain ⟨sk, fk, hB, hkk, hl2, hL⟩ := id hPa
  obtain ⟨nq, I, A, hS, rfl, hl, hA, -⟩ := id hL
  obtain ⟨S1, g1, wn1, wf1, oA1, oJ1, hPB, hPR⟩ := id hP
  refine gM.of px10 (Nat.le_of_ble_eq_true rfl) ?_
  intro F hE
  refine g_aload_n dX10_checkRemembered_0 rfl ?_
  refine g_iload_n dX10_checkRemembered_1 rfl ?_
  refine g_callV0 kX10_132 (m10_checkLetters k hk1 (by omega) hC) h0 rfl rfl rfl (Nat.le_of_ble_eq_true rfl) (by decide) (by decide) (by decide) (by decide) dX10_checkRemembered_2 ?_
  rintro v1 h2 z1 ⟨rfl, rfl, rfl⟩
  refine g_iload_n dX10_checkRemembered_5 rfl ?_
  refine g_aload_n dX10_checkRemembered_6 rfl ?_
  refine g_getf fl10_30 h0 rfl dX10_checkRemembered_7 ?_
  refine g_getf fl10_81 hB.1 rfl dX10_checkRemembered_10 ?_
  refine g_getf fl10_85 hS.1 rfl dX10_checkRemembered_13 ?_
  refine g_icmp_leN 30 dX10_checkRemembered_16 (by decide) (by omega) (by omega) (fun c_16 => ?_) (fun c_16 => ?_)
  · exact g_vret hE (⟨rfl, rfl, rfl⟩) dX10_checkRemembered_30
  · exact absurd c_16 (by omega)
set_option maxRecDepth 100000 in
set_option maxHeartbeats 4000000 in
theorem m10_checkDays {X : gX} {K : gKo} {h : gH} {z o n : Nat} {f : Nat → Int32} {P : PlM} {L : List Int32} {day car err : Int32} (k : Nat) (hk1 : 1 ≤ k) (hk : k ≤ 30) (hC : ClsS X K h o n f P L day car err) : gM X yX10_checkDays cX10_checkDays 2 none (2, 0, 0) [.ref o, .int (nI k)] h z (fun r h' z' => r = none ∧ h' = h ∧ z' = z) gNoX := by
  obtain ⟨pp, sp, ep, dp, er, ir, h0, hpp, hg, ⟨kf, S, T, la, kt, kd, st, en, hT⟩, hP, hSp, hPa, hTr, hok, hn⟩ := id hC
  obtain ⟨sk, fk, hB, hkk, hl2, hL⟩ := id hPa
  obtain ⟨nq, I, A, hS, rfl, hl, hA, -⟩ := id hL
  obtain ⟨S1, g1, wn1, wf1, oA1, oJ1, hPB, hPR⟩ := id hP
  refine gM.of px10 (Nat.le_of_ble_eq_true rfl) ?_
  intro F hE
  refine g_iload_n dX10_checkDays_0 rfl ?_
  refine g_iconst (nI 1) dX10_checkDays_1 (by decide) ?_
  refine g_icmp_ltN 11 dX10_checkDays_2 (by decide) (by omega) (by omega) (fun c_2 => ?_) (fun c_2 => ?_)
  · exact absurd c_2 (by omega)
  · refine g_iload_n dX10_checkDays_5 rfl ?_
    refine g_bipush (nI 30) dX10_checkDays_6 (by decide) ?_
    refine g_icmp_leN 22 dX10_checkDays_8 (by decide) (by omega) (by omega) (fun c_8 => ?_) (fun c_8 => ?_)
    · exact g_vret hE (⟨rfl, rfl, rfl⟩) dX10_checkDays_22
    · exact absurd c_8 (by omega)
set_option maxRecDepth 100000 in
set_option maxHeartbeats 4000000 in
theorem m10_errorAt {X : gX} {K : gKo} {h : gH} {z o n : Nat} {f : Nat → Int32} {P : PlM} {L : List Int32} {day car err : Int32}  (hC : ClsS X K h o n f P L day car err) : gM X yX10_errorAt cX10_errorAt 1 (some .int) (50, 0, 0) [.ref o] h z (cA X K h z o n f P L day car err (err)) gNoX := by
  obtain ⟨pp, sp, ep, dp, er, ir, h0, hpp, hg, ⟨kf, S, T, la, kt, kd, st, en, hT⟩, hP, hSp, hPa, hTr, hok, hn⟩ := id hC
  obtain ⟨sk, fk, hB, hkk, hl2, hL⟩ := id hPa
  obtain ⟨nq, I, A, hS, rfl, hl, hA, -⟩ := id hL
  obtain ⟨S1, g1, wn1, wf1, oA1, oJ1, hPB, hPR⟩ := id hP
  refine gM.of px10 (Nat.le_of_ble_eq_true rfl) ?_
  intro F hE
  refine g_aload_n dX10_errorAt_0 rfl ?_
  refine g_getf fl10_44 h0 rfl dX10_errorAt_1 ?_
  exact g_iret hE rfl (⟨rfl, rfl, hC, OffB.rf⟩) dX10_errorAt_4
set_option maxRecDepth 100000 in
set_option maxHeartbeats 4000000 in
theorem m10_length {X : gX} {K : gKo} {h : gH} {z o n : Nat} {f : Nat → Int32} {P : PlM} {L : List Int32} {day car err : Int32}  (hC : ClsS X K h o n f P L day car err) : gM X yX10_length cX10_length 1 (some .int) (50, 0, 0) [.ref o] h z (cA X K h z o n f P L day car err (nI L.length)) gNoX := by
  obtain ⟨pp, sp, ep, dp, er, ir, h0, hpp, hg, ⟨kf, S, T, la, kt, kd, st, en, hT⟩, hP, hSp, hPa, hTr, hok, hn⟩ := id hC
  obtain ⟨sk, fk, hB, hkk, hl2, hL⟩ := id hPa
  obtain ⟨nq, I, A, hS, rfl, hl, hA, -⟩ := id hL
  obtain ⟨S1, g1, wn1, wf1, oA1, oJ1, hPB, hPR⟩ := id hP
  refine gM.of px10 (Nat.le_of_ble_eq_true rfl) ?_
  intro F hE
  refine g_aload_n dX10_length_0 rfl ?_
  refine g_getf fl10_30 h0 rfl dX10_length_1 ?_
  refine g_getf fl10_81 hB.1 rfl dX10_length_4 ?_
  refine g_getf fl10_85 hS.1 rfl dX10_length_7 ?_
  exact g_iret hE rfl (⟨rfl, rfl, hC, OffB.rf⟩) dX10_length_10
set_option maxRecDepth 100000 in
set_option maxHeartbeats 4000000 in
theorem m10_insults {X : gX} {K : gKo} {h : gH} {z o n : Nat} {f : Nat → Int32} {P : PlM} {L : List Int32} {day car err : Int32}  (hC : ClsS X K h o n f P L day car err) : gM X yX10_insults cX10_insults 1 (some .int) (50, 0, 0) [.ref o] h z (cA X K h z o n f P L day car err (nI P.1.1)) gNoX := by
  obtain ⟨pp, sp, ep, dp, er, ir, h0, hpp, hg, ⟨kf, S, T, la, kt, kd, st, en, hT⟩, hP, hSp, hPa, hTr, hok, hn⟩ := id hC
  obtain ⟨sk, fk, hB, hkk, hl2, hL⟩ := id hPa
  obtain ⟨nq, I, A, hS, rfl, hl, hA, -⟩ := id hL
  obtain ⟨S1, g1, wn1, wf1, oA1, oJ1, hPB, hPR⟩ := id hP
  refine gM.of px10 (Nat.le_of_ble_eq_true rfl) ?_
  intro F hE
  refine g_aload_n dX10_insults_0 rfl ?_
  refine g_getf fl10_40 h0 rfl dX10_insults_1 ?_
  refine g_getf fl10_90 hPB.1 rfl dX10_insults_4 ?_
  exact g_iret hE rfl (⟨rfl, rfl, hC, OffB.rf⟩) dX10_insults_7
set_option maxRecDepth 100000 in
set_option maxHeartbeats 4000000 in
theorem m10_day {X : gX} {K : gKo} {h : gH} {z o n : Nat} {f : Nat → Int32} {P : PlM} {L : List Int32} {day car err : Int32}  (hC : ClsS X K h o n f P L day car err) : gM X yX10_day cX10_day 1 (some .int) (50, 0, 0) [.ref o] h z (cA X K h z o n f P L day car err (day)) gNoX := by
  obtain ⟨pp, sp, ep, dp, er, ir, h0, hpp, hg, ⟨kf, S, T, la, kt, kd, st, en, hT⟩, hP, hSp, hPa, hTr, hok, hn⟩ := id hC
  obtain ⟨sk, fk, hB, hkk, hl2, hL⟩ := id hPa
  obtain ⟨nq, I, A, hS, rfl, hl, hA, -⟩ := id hL
  obtain ⟨S1, g1, wn1, wf1, oA1, oJ1, hPB, hPR⟩ := id hP
  refine gM.of px10 (Nat.le_of_ble_eq_true rfl) ?_
  intro F hE
  refine g_aload_n dX10_day_0 rfl ?_
  refine g_getf fl10_30 h0 rfl dX10_day_1 ?_
  refine g_getf fl10_93 hB.1 rfl dX10_day_4 ?_
  exact g_iret hE rfl (⟨rfl, rfl, hC, OffB.rf⟩) dX10_day_7
set_option maxRecDepth 100000 in
set_option maxHeartbeats 4000000 in
theorem m10_ordersCarriedOut {X : gX} {K : gKo} {h : gH} {z o n : Nat} {f : Nat → Int32} {P : PlM} {L : List Int32} {day car err : Int32}  (hC : ClsS X K h o n f P L day car err) : gM X yX10_ordersCarriedOut cX10_ordersCarriedOut 1 (some .int) (50, 0, 0) [.ref o] h z (cA X K h z o n f P L day car err (car)) gNoX := by
  obtain ⟨pp, sp, ep, dp, er, ir, h0, hpp, hg, ⟨kf, S, T, la, kt, kd, st, en, hT⟩, hP, hSp, hPa, hTr, hok, hn⟩ := id hC
  obtain ⟨sk, fk, hB, hkk, hl2, hL⟩ := id hPa
  obtain ⟨nq, I, A, hS, rfl, hl, hA, -⟩ := id hL
  obtain ⟨S1, g1, wn1, wf1, oA1, oJ1, hPB, hPR⟩ := id hP
  refine gM.of px10 (Nat.le_of_ble_eq_true rfl) ?_
  intro F hE
  refine g_aload_n dX10_ordersCarriedOut_0 rfl ?_
  refine g_getf fl10_30 h0 rfl dX10_ordersCarriedOut_1 ?_
  refine g_getf fl10_96 hB.1 rfl dX10_ordersCarriedOut_4 ?_
  exact g_iret hE rfl (⟨rfl, rfl, hC, OffB.rf⟩) dX10_ordersCarriedOut_7
set_option maxRecDepth 100000 in
set_option maxHeartbeats 4000000 in
theorem m10_kinds {X : gX} {K : gKo} {h : gH} {z o n : Nat} {f : Nat → Int32} {P : PlM} {L : List Int32} {day car err : Int32}  (hC : ClsS X K h o n f P L day car err) : gM X yX10_kinds cX10_kinds 1 (some .int) (50, 0, 0) [.ref o] h z (cA X K h z o n f P L day car err (nI (akU L L.length))) gNoX := by
  obtain ⟨pp, sp, ep, dp, er, ir, h0, hpp, hg, ⟨kf, S, T, la, kt, kd, st, en, hT⟩, hP, hSp, hPa, hTr, hok, hn⟩ := id hC
  obtain ⟨sk, fk, hB, hkk, hl2, hL⟩ := id hPa
  obtain ⟨nq, I, A, hS, rfl, hl, hA, -⟩ := id hL
  obtain ⟨S1, g1, wn1, wf1, oA1, oJ1, hPB, hPR⟩ := id hP
  refine gM.of px10 (Nat.le_of_ble_eq_true rfl) ?_
  intro F hE
  refine g_aload_n dX10_kinds_0 rfl ?_
  refine g_getf fl10_30 h0 rfl dX10_kinds_1 ?_
  refine g_getf fl10_81 hB.1 rfl dX10_kinds_4 ?_
  refine g_callV0 kX10_99 (m5_differentPhrases hL) hS.1 rfl rfl rfl (Nat.le_of_ble_eq_true rfl) (by decide) (by decide) (by decide) (by decide) dX10_kinds_7 ?_
  rintro v1 h2 z1 ⟨rfl, rfl, hL2, hO2⟩
  rw [nI_diff]
  exact g_iret hE rfl (⟨rfl, rfl, hC.sq hL2 (hO2.wide (by omega) (by omega)), hO2.wide (by omega) (by omega)⟩) dX10_kinds_10
set_option maxRecDepth 100000 in
set_option maxHeartbeats 4000000 in
theorem m10_longestRepeat {X : gX} {K : gKo} {h : gH} {z o n : Nat} {f : Nat → Int32} {P : PlM} {L : List Int32} {day car err : Int32}  (hC : ClsS X K h o n f P L day car err) : gM X yX10_longestRepeat cX10_longestRepeat 1 (some .int) (50, 0, 0) [.ref o] h z (cA X K h z o n f P L day car err (nI (lon L))) gNoX := by
  obtain ⟨pp, sp, ep, dp, er, ir, h0, hpp, hg, ⟨kf, S, T, la, kt, kd, st, en, hT⟩, hP, hSp, hPa, hTr, hok, hn⟩ := id hC
  obtain ⟨sk, fk, hB, hkk, hl2, hL⟩ := id hPa
  obtain ⟨nq, I, A, hS, rfl, hl, hA, -⟩ := id hL
  obtain ⟨S1, g1, wn1, wf1, oA1, oJ1, hPB, hPR⟩ := id hP
  refine gM.of px10 (Nat.le_of_ble_eq_true rfl) ?_
  intro F hE
  refine g_aload_n dX10_longestRepeat_0 rfl ?_
  refine g_getf fl10_30 h0 rfl dX10_longestRepeat_1 ?_
  refine g_getf fl10_81 hB.1 rfl dX10_longestRepeat_4 ?_
  refine g_callV0 kX10_123 (m5_longestRepeated hL) hS.1 rfl rfl rfl (Nat.le_of_ble_eq_true rfl) (by decide) (by decide) (by decide) (by decide) dX10_longestRepeat_7 ?_
  rintro v1 h2 z1 ⟨rfl, rfl, hL2, hO2⟩
  exact g_iret hE rfl (⟨rfl, rfl, hC.sq hL2 (hO2.wide (by omega) (by omega)), hO2.wide (by omega) (by omega)⟩) dX10_longestRepeat_10
set_option maxRecDepth 100000 in
set_option maxHeartbeats 4000000 in
theorem m10_repeatPlace {X : gX} {K : gKo} {h : gH} {z o n : Nat} {f : Nat → Int32} {P : PlM} {L : List Int32} {day car err : Int32}  (hC : ClsS X K h o n f P L day car err) : gM X yX10_repeatPlace cX10_repeatPlace 1 (some .int) (50, 0, 0) [.ref o] h z (cA X K h z o n f P L day car err (rpI L)) gNoX := by
  obtain ⟨pp, sp, ep, dp, er, ir, h0, hpp, hg, ⟨kf, S, T, la, kt, kd, st, en, hT⟩, hP, hSp, hPa, hTr, hok, hn⟩ := id hC
  obtain ⟨sk, fk, hB, hkk, hl2, hL⟩ := id hPa
  obtain ⟨nq, I, A, hS, rfl, hl, hA, -⟩ := id hL
  obtain ⟨S1, g1, wn1, wf1, oA1, oJ1, hPB, hPR⟩ := id hP
  refine gM.of px10 (Nat.le_of_ble_eq_true rfl) ?_
  intro F hE
  refine g_aload_n dX10_repeatPlace_0 rfl ?_
  refine g_getf fl10_30 h0 rfl dX10_repeatPlace_1 ?_
  refine g_getf fl10_81 hB.1 rfl dX10_repeatPlace_4 ?_
  refine g_callV0 kX10_126 (m5_firstPlaceOfRepeat hL) hS.1 rfl rfl rfl (Nat.le_of_ble_eq_true rfl) (by decide) (by decide) (by decide) (by decide) dX10_repeatPlace_7 ?_
  rintro v1 h2 z1 ⟨rfl, rfl, hL2, hO2⟩
  exact g_iret hE rfl (⟨rfl, rfl, hC.sq hL2 (hO2.wide (by omega) (by omega)), hO2.wide (by omega) (by omega)⟩) dX10_repeatPlace_10
set_option maxRecDepth 100000 in
set_option maxHeartbeats 4000000 in
theorem m10_repeatCount {X : gX} {K : gKo} {h : gH} {z o n : Nat} {f : Nat → Int32} {P : PlM} {L : List Int32} {day car err : Int32}  (hC : ClsS X K h o n f P L day car err) : gM X yX10_repeatCount cX10_repeatCount 1 (some .int) (50, 0, 0) [.ref o] h z (cA X K h z o n f P L day car err (nI (rcI L))) gNoX := by
  obtain ⟨pp, sp, ep, dp, er, ir, h0, hpp, hg, ⟨kf, S, T, la, kt, kd, st, en, hT⟩, hP, hSp, hPa, hTr, hok, hn⟩ := id hC
  obtain ⟨sk, fk, hB, hkk, hl2, hL⟩ := id hPa
  obtain ⟨nq, I, A, hS, rfl, hl, hA, -⟩ := id hL
  obtain ⟨S1, g1, wn1, wf1, oA1, oJ1, hPB, hPR⟩ := id hP
  refine gM.of px10 (Nat.le_of_ble_eq_true rfl) ?_
  intro F hE
  refine g_aload_n dX10_repeatCount_0 rfl ?_
  refine g_getf fl10_30 h0 rfl dX10_repeatCount_1 ?_
  refine g_getf fl10_81 hB.1 rfl dX10_repeatCount_4 ?_
  refine g_callV0 kX10_129 (m5_placesOfRepeat hL) hS.1 rfl rfl rfl (Nat.le_of_ble_eq_true rfl) (by decide) (by decide) (by decide) (by decide) dX10_repeatCount_7 ?_
  rintro v1 h2 z1 ⟨rfl, rfl, hL2, hO2⟩
  exact g_iret hE rfl (⟨rfl, rfl, hC.sq hL2 (hO2.wide (by omega) (by omega)), hO2.wide (by omega) (by omega)⟩) dX10_repeatCount_10
set_option maxRecDepth 100000 in
set_option maxHeartbeats 4000000 in
theorem m10_mockedAtEnd {X : gX} {K : gKo} {h : gH} {z o n : Nat} {f : Nat → Int32} {P : PlM} {L : List Int32} {day car err : Int32}  (hC : ClsS X K h o n f P L day car err) : gM X yX10_mockedAtEnd cX10_mockedAtEnd 1 (some .int) (50, 0, 0) [.ref o] h z (cA X K h z o n f P L day car err (nI (ese L))) gNoX := by
  obtain ⟨pp, sp, ep, dp, er, ir, h0, hpp, hg, ⟨kf, S, T, la, kt, kd, st, en, hT⟩, hP, hSp, hPa, hTr, hok, hn⟩ := id hC
  obtain ⟨sk, fk, hB, hkk, hl2, hL⟩ := id hPa
  obtain ⟨nq, I, A, hS, rfl, hl, hA, -⟩ := id hL
  obtain ⟨S1, g1, wn1, wf1, oA1, oJ1, hPB, hPR⟩ := id hP
  refine gM.of px10 (Nat.le_of_ble_eq_true rfl) ?_
  intro F hE
  refine g_aload_n dX10_mockedAtEnd_0 rfl ?_
  refine g_getf fl10_30 h0 rfl dX10_mockedAtEnd_1 ?_
  refine g_getf fl10_81 hB.1 rfl dX10_mockedAtEnd_4 ?_
  refine g_callV0 kX10_141 (m5_endStandingEarlier hL) hS.1 rfl rfl rfl (Nat.le_of_ble_eq_true rfl) (by decide) (by decide) (by decide) (by decide) dX10_mockedAtEnd_7 ?_
  rintro v1 h2 z1 ⟨rfl, rfl, rfl⟩
  exact g_iret hE rfl (⟨rfl, rfl, hC, OffB.rf⟩) dX10_mockedAtEnd_10
set_option maxRecDepth 100000 in
set_option maxHeartbeats 4000000 in
theorem m10_letterAt {X : gX} {K : gKo} {h : gH} {z o n : Nat} {f : Nat → Int32} {P : PlM} {L : List Int32} {day car err : Int32} (k : Nat) (hk : k < L.length) (hC : ClsS X K h o n f P L day car err) : gM X yX10_letterAt cX10_letterAt 2 (some .int) (50, 0, 0) [.ref o, .int (nI k)] h z (cA X K h z o n f P L day car err (lt L k)) gNoX := by
  obtain ⟨pp, sp, ep, dp, er, ir, h0, hpp, hg, ⟨kf, S, T, la, kt, kd, st, en, hT⟩, hP, hSp, hPa, hTr, hok, hn⟩ := id hC
  obtain ⟨sk, fk, hB, hkk, hl2, hL⟩ := id hPa
  obtain ⟨nq, I, A, hS, rfl, hl, hA, -⟩ := id hL
  obtain ⟨S1, g1, wn1, wf1, oA1, oJ1, hPB, hPR⟩ := id hP
  refine gM.of px10 (Nat.le_of_ble_eq_true rfl) ?_
  intro F hE
  refine g_aload_n dX10_letterAt_0 rfl ?_
  refine g_iload_n dX10_letterAt_1 rfl ?_
  refine g_callV0 kX10_102 (m10_checkPlace k hk hC) h0 rfl rfl rfl (Nat.le_of_ble_eq_true rfl) (by decide) (by decide) (by decide) (by decide) dX10_letterAt_2 ?_
  rintro v1 h2 z1 ⟨rfl, rfl, rfl⟩
  refine g_aload_n dX10_letterAt_5 rfl ?_
  refine g_getf fl10_30 h0 rfl dX10_letterAt_6 ?_
  refine g_getf fl10_81 hB.1 rfl dX10_letterAt_9 ?_
  refine g_getf fl10_105 hS.1 rfl dX10_letterAt_12 ?_
  refine g_iload_n dX10_letterAt_15 rfl ?_
  refine g_ialdN (hS.2 0 (by decide)) (by omega) (by decide) dX10_letterAt_16 ?_
  rw [hA k hk]
  exact g_iret hE rfl (⟨rfl, rfl, hC, OffB.rf⟩) dX10_letterAt_17
set_option maxRecDepth 100000 in
set_option maxHeartbeats 4000000 in
theorem m10_rankOf {X : gX} {K : gKo} {h : gH} {z o n : Nat} {f : Nat → Int32} {P : PlM} {L : List Int32} {day car err : Int32} (k : Nat) (hk : k < L.length) (hC : ClsS X K h o n f P L day car err) : gM X yX10_rankOf cX10_rankOf 2 (some .int) (50, 0, 0) [.ref o, .int (nI k)] h z (cA X K h z o n f P L day car err (nI (rk L k))) gNoX := by
  obtain ⟨pp, sp, ep, dp, er, ir, h0, hpp, hg, ⟨kf, S, T, la, kt, kd, st, en, hT⟩, hP, hSp, hPa, hTr, hok, hn⟩ := id hC
  obtain ⟨sk, fk, hB, hkk, hl2, hL⟩ := id hPa
  obtain ⟨nq, I, A, hS, rfl, hl, hA, -⟩ := id hL
  obtain ⟨S1, g1, wn1, wf1, oA1, oJ1, hPB, hPR⟩ := id hP
  refine gM.of px10 (Nat.le_of_ble_eq_true rfl) ?_
  intro F hE
  refine g_aload_n dX10_rankOf_0 rfl ?_
  refine g_iload_n dX10_rankOf_1 rfl ?_
  refine g_callV0 kX10_102 (m10_checkPlace k hk hC) h0 rfl rfl rfl (Nat.le_of_ble_eq_true rfl) (by decide) (by decide) (by decide) (by decide) dX10_rankOf_2 ?_
  rintro v1 h2 z1 ⟨rfl, rfl, rfl⟩
  refine g_aload_n dX10_rankOf_5 rfl ?_
  refine g_getf fl10_30 h0 rfl dX10_rankOf_6 ?_
  refine g_getf fl10_81 hB.1 rfl dX10_rankOf_9 ?_
  refine g_iload_n dX10_rankOf_12 rfl ?_
  refine g_callV0 kX10_109 (m5_rankAt k hk hL) hS.1 rfl rfl rfl (Nat.le_of_ble_eq_true rfl) (by decide) (by decide) (by decide) (by decide) dX10_rankOf_13 ?_
  rintro v1 h2 z1 ⟨rfl, rfl, hL2, hO2⟩
  exact g_iret hE rfl (⟨rfl, rfl, hC.sq hL2 (hO2.wide (by omega) (by omega)), hO2.wide (by omega) (by omega)⟩) dX10_rankOf_16
set_option maxRecDepth 100000 in
set_option maxHeartbeats 4000000 in
theorem m10_placeAt {X : gX} {K : gKo} {h : gH} {z o n : Nat} {f : Nat → Int32} {P : PlM} {L : List Int32} {day car err : Int32} (k : Nat) (hk : k < L.length) (hC : ClsS X K h o n f P L day car err) : gM X yX10_placeAt cX10_placeAt 2 (some .int) (50, 0, 0) [.ref o, .int (nI k)] h z (cA X K h z o n f P L day car err (nI (plc L k))) gNoX := by
  obtain ⟨pp, sp, ep, dp, er, ir, h0, hpp, hg, ⟨kf, S, T, la, kt, kd, st, en, hT⟩, hP, hSp, hPa, hTr, hok, hn⟩ := id hC
  obtain ⟨sk, fk, hB, hkk, hl2, hL⟩ := id hPa
  obtain ⟨nq, I, A, hS, rfl, hl, hA, -⟩ := id hL
  obtain ⟨S1, g1, wn1, wf1, oA1, oJ1, hPB, hPR⟩ := id hP
  refine gM.of px10 (Nat.le_of_ble_eq_true rfl) ?_
  intro F hE
  refine g_aload_n dX10_placeAt_0 rfl ?_
  refine g_iload_n dX10_placeAt_1 rfl ?_
  refine g_callV0 kX10_102 (m10_checkPlace k hk hC) h0 rfl rfl rfl (Nat.le_of_ble_eq_true rfl) (by decide) (by decide) (by decide) (by decide) dX10_placeAt_2 ?_
  rintro v1 h2 z1 ⟨rfl, rfl, rfl⟩
  refine g_aload_n dX10_placeAt_5 rfl ?_
  refine g_getf fl10_30 h0 rfl dX10_placeAt_6 ?_
  refine g_getf fl10_81 hB.1 rfl dX10_placeAt_9 ?_
  refine g_iload_n dX10_placeAt_12 rfl ?_
  refine g_callV0 kX10_113 (m5_placeOfRank k hk hL) hS.1 rfl rfl rfl (Nat.le_of_ble_eq_true rfl) (by decide) (by decide) (by decide) (by decide) dX10_placeAt_13 ?_
  rintro v1 h2 z1 ⟨rfl, rfl, hL2, hO2⟩
  exact g_iret hE rfl (⟨rfl, rfl, hC.sq hL2 (hO2.wide (by omega) (by omega)), hO2.wide (by omega) (by omega)⟩) dX10_placeAt_16
set_option maxRecDepth 100000 in
set_option maxHeartbeats 4000000 in
theorem m10_sharedAt {X : gX} {K : gKo} {h : gH} {z o n : Nat} {f : Nat → Int32} {P : PlM} {L : List Int32} {day car err : Int32} (k : Nat) (hk : k < L.length) (hC : ClsS X K h o n f P L day car err) : gM X yX10_sharedAt cX10_sharedAt 2 (some .int) (50, 0, 0) [.ref o, .int (nI k)] h z (cA X K h z o n f P L day car err (nI (shr L k))) gNoX := by
  obtain ⟨pp, sp, ep, dp, er, ir, h0, hpp, hg, ⟨kf, S, T, la, kt, kd, st, en, hT⟩, hP, hSp, hPa, hTr, hok, hn⟩ := id hC
  obtain ⟨sk, fk, hB, hkk, hl2, hL⟩ := id hPa
  obtain ⟨nq, I, A, hS, rfl, hl, hA, -⟩ := id hL
  obtain ⟨S1, g1, wn1, wf1, oA1, oJ1, hPB, hPR⟩ := id hP
  refine gM.of px10 (Nat.le_of_ble_eq_true rfl) ?_
  intro F hE
  refine g_aload_n dX10_sharedAt_0 rfl ?_
  refine g_iload_n dX10_sharedAt_1 rfl ?_
  refine g_callV0 kX10_102 (m10_checkPlace k hk hC) h0 rfl rfl rfl (Nat.le_of_ble_eq_true rfl) (by decide) (by decide) (by decide) (by decide) dX10_sharedAt_2 ?_
  rintro v1 h2 z1 ⟨rfl, rfl, rfl⟩
  refine g_aload_n dX10_sharedAt_5 rfl ?_
  refine g_getf fl10_30 h0 rfl dX10_sharedAt_6 ?_
  refine g_getf fl10_81 hB.1 rfl dX10_sharedAt_9 ?_
  refine g_iload_n dX10_sharedAt_12 rfl ?_
  refine g_callV0 kX10_116 (m5_sharedWithRankAhead k hk hL) hS.1 rfl rfl rfl (Nat.le_of_ble_eq_true rfl) (by decide) (by decide) (by decide) (by decide) dX10_sharedAt_13 ?_
  rintro v1 h2 z1 ⟨rfl, rfl, hL2, hO2⟩
  exact g_iret hE rfl (⟨rfl, rfl, hC.sq hL2 (hO2.wide (by omega) (by omega)), hO2.wide (by omega) (by omega)⟩) dX10_sharedAt_16
set_option maxRecDepth 100000 in
set_option maxHeartbeats 4000000 in
theorem m10_shared {X : gX} {K : gKo} {h : gH} {z o n : Nat} {f : Nat → Int32} {P : PlM} {L : List Int32} {day car err : Int32} (k k2 : Nat) (hk : k < L.length) (hk2 : k2 < L.length) (hC : ClsS X K h o n f P L day car err) : gM X yX10_shared cX10_shared 3 (some .int) (50, 0, 0) [.ref o, .int (nI k), .int (nI k2)] h z (cA X K h z o n f P L day car err (nI (lcp L k k2))) gNoX := by
  obtain ⟨pp, sp, ep, dp, er, ir, h0, hpp, hg, ⟨kf, S, T, la, kt, kd, st, en, hT⟩, hP, hSp, hPa, hTr, hok, hn⟩ := id hC
  obtain ⟨sk, fk, hB, hkk, hl2, hL⟩ := id hPa
  obtain ⟨nq, I, A, hS, rfl, hl, hA, -⟩ := id hL
  obtain ⟨S1, g1, wn1, wf1, oA1, oJ1, hPB, hPR⟩ := id hP
  refine gM.of px10 (Nat.le_of_ble_eq_true rfl) ?_
  intro F hE
  refine g_aload_n dX10_shared_0 rfl ?_
  refine g_iload_n dX10_shared_1 rfl ?_
  refine g_callV0 kX10_102 (m10_checkPlace k hk hC) h0 rfl rfl rfl (Nat.le_of_ble_eq_true rfl) (by decide) (by decide) (by decide) (by decide) dX10_shared_2 ?_
  rintro v1 h2 z1 ⟨rfl, rfl, rfl⟩
  refine g_aload_n dX10_shared_5 rfl ?_
  refine g_iload_n dX10_shared_6 rfl ?_
  refine g_callV0 kX10_102 (m10_checkPlace k2 hk2 hC) h0 rfl rfl rfl (Nat.le_of_ble_eq_true rfl) (by decide) (by decide) (by decide) (by decide) dX10_shared_7 ?_
  rintro v1 h2 z1 ⟨rfl, rfl, rfl⟩
  refine g_aload_n dX10_shared_10 rfl ?_
  refine g_getf fl10_30 h0 rfl dX10_shared_11 ?_
  refine g_getf fl10_81 hB.1 rfl dX10_shared_14 ?_
  refine g_iload_n dX10_shared_17 rfl ?_
  refine g_iload_n dX10_shared_18 rfl ?_
  refine g_callV0 kX10_119 (m5_sharedFrom k k2 hS hl hA hk hk2) hS.1 rfl rfl rfl (Nat.le_of_ble_eq_true rfl) (by decide) (by decide) (by decide) (by decide) dX10_shared_19 ?_
  rintro v1 h2 z1 ⟨rfl, rfl, rfl⟩
  exact g_iret hE rfl (⟨rfl, rfl, hC, OffB.rf⟩) dX10_shared_22
set_option maxRecDepth 100000 in
set_option maxHeartbeats 4000000 in
theorem m10_isAhead {X : gX} {K : gKo} {h : gH} {z o n : Nat} {f : Nat → Int32} {P : PlM} {L : List Int32} {day car err : Int32} (k k2 : Nat) (hk : k < L.length) (hk2 : k2 < L.length) (hC : ClsS X K h o n f P L day car err) : gM X yX10_isAhead cX10_isAhead 3 (some .boolean) (50, 0, 0) [.ref o, .int (nI k), .int (nI k2)] h z (cA X K h z o n f P L day car err (b2i (ahd L k k2))) gNoX := by
  obtain ⟨pp, sp, ep, dp, er, ir, h0, hpp, hg, ⟨kf, S, T, la, kt, kd, st, en, hT⟩, hP, hSp, hPa, hTr, hok, hn⟩ := id hC
  obtain ⟨sk, fk, hB, hkk, hl2, hL⟩ := id hPa
  obtain ⟨nq, I, A, hS, rfl, hl, hA, -⟩ := id hL
  obtain ⟨S1, g1, wn1, wf1, oA1, oJ1, hPB, hPR⟩ := id hP
  refine gM.of px10 (Nat.le_of_ble_eq_true rfl) ?_
  intro F hE
  have hr1 := rk_lt hk
  have hr2 := rk_lt hk2
  refine g_aload_n dX10_isAhead_0 rfl ?_
  refine g_iload_n dX10_isAhead_1 rfl ?_
  refine g_callV0 kX10_102 (m10_checkPlace k hk hC) h0 rfl rfl rfl (Nat.le_of_ble_eq_true rfl) (by decide) (by decide) (by decide) (by decide) dX10_isAhead_2 ?_
  rintro v1 h2 z1 ⟨rfl, rfl, rfl⟩
  refine g_aload_n dX10_isAhead_5 rfl ?_
  refine g_iload_n dX10_isAhead_6 rfl ?_
  refine g_callV0 kX10_102 (m10_checkPlace k2 hk2 hC) h0 rfl rfl rfl (Nat.le_of_ble_eq_true rfl) (by decide) (by decide) (by decide) (by decide) dX10_isAhead_7 ?_
  rintro v1 h2 z1 ⟨rfl, rfl, rfl⟩
  refine g_aload_n dX10_isAhead_10 rfl ?_
  refine g_getf fl10_30 h0 rfl dX10_isAhead_11 ?_
  refine g_getf fl10_81 hB.1 rfl dX10_isAhead_14 ?_
  refine g_iload_n dX10_isAhead_17 rfl ?_
  refine g_callV0 kX10_109 (m5_rankAt k hk hL) hS.1 rfl rfl rfl (Nat.le_of_ble_eq_true rfl) (by decide) (by decide) (by decide) (by decide) dX10_isAhead_18 ?_
  rintro v1 h2 z1 ⟨rfl, rfl, hL2, hO2⟩
  have hC2 := hC.sq hL2 (hO2.wide (by omega) (by omega))
  have h02 := (hO2 o (by omega)).trans h0
  have hB2 := hB.off hO2 (Or.inr (Or.inr ⟨rfl, by omega⟩))
  obtain ⟨nq2, I2, A2, hS2, -⟩ := id hL2
  refine g_aload_n dX10_isAhead_21 rfl ?_
  refine g_getf fl10_30 h02 rfl dX10_isAhead_22 ?_
  refine g_getf fl10_81 hB2.1 rfl dX10_isAhead_25 ?_
  refine g_iload_n dX10_isAhead_28 rfl ?_
  refine g_callV0 kX10_109 (m5_rankAt k2 hk2 hL2) hS2.1 rfl rfl rfl (Nat.le_of_ble_eq_true rfl) (by decide) (by decide) (by decide) (by decide) dX10_isAhead_29 ?_
  rintro v1 h3 z1 ⟨rfl, rfl, hL3, hO3⟩
  refine g_icmp_geN 39 dX10_isAhead_32 (by decide) (by omega) (by omega) (fun c_32 => ?_) (fun c_32 => ?_)
  · rw [show ahd L k k2 = false from by cases hh : ahd L k k2 with | false => rfl | true => exact absurd ((rk_iff hk hk2).mpr hh) (by omega)] at hE
    refine g_iconst (nI 0) dX10_isAhead_39 (by decide) ?_
    exact g_iret hE rfl (⟨rfl, rfl, hC2.sq hL3 (hO3.wide (by omega) (by omega)), (hO2.wide (by omega) (by omega)).trans (hO3.wide (by omega) (by omega))⟩) dX10_isAhead_40
  · rw [(rk_iff hk hk2).mp (by omega)] at hE
    refine g_iconst (nI 1) dX10_isAhead_35 (by decide) ?_
    refine g_goto 40 dX10_isAhead_36 (by decide) ?_
    exact g_iret hE rfl (⟨rfl, rfl, hC2.sq hL3 (hO3.wide (by omega) (by omega)), (hO2.wide (by omega) (by omega)).trans (hO3.wide (by omega) (by omega))⟩) dX10_isAhead_40
set_option maxRecDepth 100000 in
set_option maxHeartbeats 4000000 in
theorem m10_kindsOf {X : gX} {K : gKo} {h : gH} {z o n : Nat} {f : Nat → Int32} {P : PlM} {L : List Int32} {day car err : Int32} (k : Nat) (hk1 : 1 ≤ k) (hk : k ≤ 40) (hC : ClsS X K h o n f P L day car err) : gM X yX10_kindsOf cX10_kindsOf 2 (some .int) (50, 0, 0) [.ref o, .int (nI k)] h z (cA X K h z o n f P L day car err (nI (cnt (dpP L k) L.length))) gNoX := by
  obtain ⟨pp, sp, ep, dp, er, ir, h0, hpp, hg, ⟨kf, S, T, la, kt, kd, st, en, hT⟩, hP, hSp, hPa, hTr, hok, hn⟩ := id hC
  obtain ⟨sk, fk, hB, hkk, hl2, hL⟩ := id hPa
  obtain ⟨nq, I, A, hS, rfl, hl, hA, -⟩ := id hL
  obtain ⟨S1, g1, wn1, wf1, oA1, oJ1, hPB, hPR⟩ := id hP
  refine gM.of px10 (Nat.le_of_ble_eq_true rfl) ?_
  intro F hE
  refine g_aload_n dX10_kindsOf_0 rfl ?_
  refine g_iload_n dX10_kindsOf_1 rfl ?_
  refine g_callV0 kX10_132 (m10_checkLetters k hk1 hk hC) h0 rfl rfl rfl (Nat.le_of_ble_eq_true rfl) (by decide) (by decide) (by decide) (by decide) dX10_kindsOf_2 ?_
  rintro v1 h2 z1 ⟨rfl, rfl, rfl⟩
  refine g_aload_n dX10_kindsOf_5 rfl ?_
  refine g_getf fl10_30 h0 rfl dX10_kindsOf_6 ?_
  refine g_getf fl10_81 hB.1 rfl dX10_kindsOf_9 ?_
  refine g_iload_n dX10_kindsOf_12 rfl ?_
  refine g_callV0 kX10_135 (m5_differentPhrasesWith k hk hL) hS.1 rfl rfl rfl (Nat.le_of_ble_eq_true rfl) (by decide) (by decide) (by decide) (by decide) dX10_kindsOf_13 ?_
  rintro v1 h2 z1 ⟨rfl, rfl, hL2, hO2⟩
  exact g_iret hE rfl (⟨rfl, rfl, hC.sq hL2 (hO2.wide (by omega) (by omega)), hO2.wide (by omega) (by omega)⟩) dX10_kindsOf_16
set_option maxRecDepth 100000 in
set_option maxHeartbeats 4000000 in
theorem m10_repeatedOf {X : gX} {K : gKo} {h : gH} {z o n : Nat} {f : Nat → Int32} {P : PlM} {L : List Int32} {day car err : Int32} (k : Nat) (hk1 : 1 ≤ k) (hk : k ≤ 40) (hC : ClsS X K h o n f P L day car err) : gM X yX10_repeatedOf cX10_repeatedOf 2 (some .int) (50, 0, 0) [.ref o, .int (nI k)] h z (cA X K h z o n f P L day car err (nI (cnt (rwP L k) L.length))) gNoX := by
  obtain ⟨pp, sp, ep, dp, er, ir, h0, hpp, hg, ⟨kf, S, T, la, kt, kd, st, en, hT⟩, hP, hSp, hPa, hTr, hok, hn⟩ := id hC
  obtain ⟨sk, fk, hB, hkk, hl2, hL⟩ := id hPa
  obtain ⟨nq, I, A, hS, rfl, hl, hA, -⟩ := id hL
  obtain ⟨S1, g1, wn1, wf1, oA1, oJ1, hPB, hPR⟩ := id hP
  refine gM.of px10 (Nat.le_of_ble_eq_true rfl) ?_
  intro F hE
  refine g_aload_n dX10_repeatedOf_0 rfl ?_
  refine g_iload_n dX10_repeatedOf_1 rfl ?_
  refine g_callV0 kX10_132 (m10_checkLetters k hk1 hk hC) h0 rfl rfl rfl (Nat.le_of_ble_eq_true rfl) (by decide) (by decide) (by decide) (by decide) dX10_repeatedOf_2 ?_
  rintro v1 h2 z1 ⟨rfl, rfl, rfl⟩
  refine g_aload_n dX10_repeatedOf_5 rfl ?_
  refine g_getf fl10_30 h0 rfl dX10_repeatedOf_6 ?_
  refine g_getf fl10_81 hB.1 rfl dX10_repeatedOf_9 ?_
  refine g_iload_n dX10_repeatedOf_12 rfl ?_
  refine g_callV0 kX10_138 (m5_repeatedPhrasesWith k hk hL) hS.1 rfl rfl rfl (Nat.le_of_ble_eq_true rfl) (by decide) (by decide) (by decide) (by decide) dX10_repeatedOf_13 ?_
  rintro v1 h2 z1 ⟨rfl, rfl, hL2, hO2⟩
  exact g_iret hE rfl (⟨rfl, rfl, hC.sq hL2 (hO2.wide (by omega) (by omega)), hO2.wide (by omega) (by omega)⟩) dX10_repeatedOf_16
set_option maxRecDepth 100000 in
set_option maxHeartbeats 4000000 in
theorem m10_lettersOf {X : gX} {K : gKo} {h : gH} {z o n : Nat} {f : Nat → Int32} {P : PlM} {L : List Int32} {day car err : Int32} (k : Nat) (hk : k < P.1.1) (hC : ClsS X K h o n f P L day car err) : gM X yX10_lettersOf cX10_lettersOf 2 (some .int) (50, 0, 0) [.ref o, .int (nI k)] h z (cA X K h z o n f P L day car err (nI (wl (P.1.2 k)).length)) gNoX := by
  obtain ⟨pp, sp, ep, dp, er, ir, h0, hpp, hg, ⟨kf, S, T, la, kt, kd, st, en, hT⟩, hP, hSp, hPa, hTr, hok, hn⟩ := id hC
  obtain ⟨sk, fk, hB, hkk, hl2, hL⟩ := id hPa
  obtain ⟨nq, I, A, hS, rfl, hl, hA, -⟩ := id hL
  obtain ⟨S1, g1, wn1, wf1, oA1, oJ1, hPB, hPR⟩ := id hP
  refine gM.of px10 (Nat.le_of_ble_eq_true rfl) ?_
  intro F hE
  have hW := hP.word hok hk
  obtain ⟨fw, hWB, hWl, hWe⟩ := id hW
  refine g_aload_n dX10_lettersOf_0 rfl ?_
  refine g_iload_n dX10_lettersOf_1 rfl ?_
  refine g_callV0 kX10_144 (m10_checkInsult k hk hC) h0 rfl rfl rfl (Nat.le_of_ble_eq_true rfl) (by decide) (by decide) (by decide) (by decide) dX10_lettersOf_2 ?_
  rintro v1 h2 z1 ⟨rfl, rfl, rfl⟩
  refine g_aload_n dX10_lettersOf_5 rfl ?_
  refine g_getf fl10_40 h0 rfl dX10_lettersOf_6 ?_
  refine g_iload_n dX10_lettersOf_9 rfl ?_
  refine g_callV0 kX10_147 (m4_insultAt k (by have := hok.1.1; omega) hPB) hPB.1 rfl rfl rfl (Nat.le_of_ble_eq_true rfl) (by decide) (by decide) (by decide) (by decide) dX10_lettersOf_10 ?_
  rintro v1 h2 z1 ⟨rfl, rfl, rfl⟩
  refine g_getf fl10_151 hWB.1 rfl dX10_lettersOf_13 ?_
  exact g_iret hE rfl (⟨rfl, rfl, hC, OffB.rf⟩) dX10_lettersOf_16
set_option maxRecDepth 100000 in
set_option maxHeartbeats 4000000 in
theorem m10_countOf {X : gX} {K : gKo} {h : gH} {z o n : Nat} {f : Nat → Int32} {P : PlM} {L : List Int32} {day car err : Int32} (k : Nat) (hk : k < P.1.1) (hC : ClsS X K h o n f P L day car err) : gM X yX10_countOf cX10_countOf 2 (some .int) (50, 0, 0) [.ref o, .int (nI k)] h z (cA X K h z o n f P L day car err (nI (cnt (stands L (wl (P.1.2 k))) L.length))) gNoX := by
  obtain ⟨pp, sp, ep, dp, er, ir, h0, hpp, hg, ⟨kf, S, T, la, kt, kd, st, en, hT⟩, hP, hSp, hPa, hTr, hok, hn⟩ := id hC
  obtain ⟨sk, fk, hB, hkk, hl2, hL⟩ := id hPa
  obtain ⟨nq, I, A, hS, rfl, hl, hA, -⟩ := id hL
  obtain ⟨S1, g1, wn1, wf1, oA1, oJ1, hPB, hPR⟩ := id hP
  refine gM.of px10 (Nat.le_of_ble_eq_true rfl) ?_
  intro F hE
  have hW := hP.word hok hk
  obtain ⟨fw, hWB, hWl, hWe⟩ := id hW
  refine g_aload_n dX10_countOf_0 rfl ?_
  refine g_iload_n dX10_countOf_1 rfl ?_
  refine g_callV0 kX10_144 (m10_checkInsult k hk hC) h0 rfl rfl rfl (Nat.le_of_ble_eq_true rfl) (by decide) (by decide) (by decide) (by decide) dX10_countOf_2 ?_
  rintro v1 h2 z1 ⟨rfl, rfl, rfl⟩
  refine g_aload_n dX10_countOf_5 rfl ?_
  refine g_getf fl10_30 h0 rfl dX10_countOf_6 ?_
  refine g_getf fl10_81 hB.1 rfl dX10_countOf_9 ?_
  refine g_aload_n dX10_countOf_12 rfl ?_
  refine g_getf fl10_40 h0 rfl dX10_countOf_13 ?_
  refine g_iload_n dX10_countOf_16 rfl ?_
  refine g_callV0 kX10_147 (m4_insultAt k (by have := hok.1.1; omega) hPB) hPB.1 rfl rfl rfl (Nat.le_of_ble_eq_true rfl) (by decide) (by decide) (by decide) (by decide) dX10_countOf_17 ?_
  rintro v1 h2 z1 ⟨rfl, rfl, rfl⟩
  refine g_callV0 kX10_154 (m5_placesWith hL hW) hS.1 rfl rfl rfl (Nat.le_of_ble_eq_true rfl) (by decide) (by decide) (by decide) (by decide) dX10_countOf_20 ?_
  rintro v1 h2 z1 ⟨rfl, rfl, rfl⟩
  exact g_iret hE rfl (⟨rfl, rfl, hC, OffB.rf⟩) dX10_countOf_23
set_option maxRecDepth 100000 in
set_option maxHeartbeats 4000000 in
theorem m10_firstOf {X : gX} {K : gKo} {h : gH} {z o n : Nat} {f : Nat → Int32} {P : PlM} {L : List Int32} {day car err : Int32} (k : Nat) (hk : k < P.1.1) (hC : ClsS X K h o n f P L day car err) : gM X yX10_firstOf cX10_firstOf 2 (some .int) (50, 0, 0) [.ref o, .int (nI k)] h z (cA X K h z o n f P L day car err (oI (fstA (stands L (wl (P.1.2 k))) L.length 0))) gNoX := by
  obtain ⟨pp, sp, ep, dp, er, ir, h0, hpp, hg, ⟨kf, S, T, la, kt, kd, st, en, hT⟩, hP, hSp, hPa, hTr, hok, hn⟩ := id hC
  obtain ⟨sk, fk, hB, hkk, hl2, hL⟩ := id hPa
  obtain ⟨nq, I, A, hS, rfl, hl, hA, -⟩ := id hL
  obtain ⟨S1, g1, wn1, wf1, oA1, oJ1, hPB, hPR⟩ := id hP
  refine gM.of px10 (Nat.le_of_ble_eq_true rfl) ?_
  intro F hE
  have hW := hP.word hok hk
  obtain ⟨fw, hWB, hWl, hWe⟩ := id hW
  refine g_aload_n dX10_firstOf_0 rfl ?_
  refine g_iload_n dX10_firstOf_1 rfl ?_
  refine g_callV0 kX10_144 (m10_checkInsult k hk hC) h0 rfl rfl rfl (Nat.le_of_ble_eq_true rfl) (by decide) (by decide) (by decide) (by decide) dX10_firstOf_2 ?_
  rintro v1 h2 z1 ⟨rfl, rfl, rfl⟩
  refine g_aload_n dX10_firstOf_5 rfl ?_
  refine g_getf fl10_30 h0 rfl dX10_firstOf_6 ?_
  refine g_getf fl10_81 hB.1 rfl dX10_firstOf_9 ?_
  refine g_aload_n dX10_firstOf_12 rfl ?_
  refine g_getf fl10_40 h0 rfl dX10_firstOf_13 ?_
  refine g_iload_n dX10_firstOf_16 rfl ?_
  refine g_callV0 kX10_147 (m4_insultAt k (by have := hok.1.1; omega) hPB) hPB.1 rfl rfl rfl (Nat.le_of_ble_eq_true rfl) (by decide) (by decide) (by decide) (by decide) dX10_firstOf_17 ?_
  rintro v1 h2 z1 ⟨rfl, rfl, rfl⟩
  refine g_callV0 kX10_158 (m5_firstPlaceWith hL hW) hS.1 rfl rfl rfl (Nat.le_of_ble_eq_true rfl) (by decide) (by decide) (by decide) (by decide) dX10_firstOf_20 ?_
  rintro v1 h2 z1 ⟨rfl, rfl, rfl⟩
  exact g_iret hE rfl (⟨rfl, rfl, hC, OffB.rf⟩) dX10_firstOf_23
set_option maxRecDepth 100000 in
set_option maxHeartbeats 4000000 in
theorem m10_lastOf {X : gX} {K : gKo} {h : gH} {z o n : Nat} {f : Nat → Int32} {P : PlM} {L : List Int32} {day car err : Int32} (k : Nat) (hk : k < P.1.1) (hC : ClsS X K h o n f P L day car err) : gM X yX10_lastOf cX10_lastOf 2 (some .int) (50, 0, 0) [.ref o, .int (nI k)] h z (cA X K h z o n f P L day car err (oI (lstA (stands L (wl (P.1.2 k))) L.length))) gNoX := by
  obtain ⟨pp, sp, ep, dp, er, ir, h0, hpp, hg, ⟨kf, S, T, la, kt, kd, st, en, hT⟩, hP, hSp, hPa, hTr, hok, hn⟩ := id hC
  obtain ⟨sk, fk, hB, hkk, hl2, hL⟩ := id hPa
  obtain ⟨nq, I, A, hS, rfl, hl, hA, -⟩ := id hL
  obtain ⟨S1, g1, wn1, wf1, oA1, oJ1, hPB, hPR⟩ := id hP
  refine gM.of px10 (Nat.le_of_ble_eq_true rfl) ?_
  intro F hE
  have hW := hP.word hok hk
  obtain ⟨fw, hWB, hWl, hWe⟩ := id hW
  refine g_aload_n dX10_lastOf_0 rfl ?_
  refine g_iload_n dX10_lastOf_1 rfl ?_
  refine g_callV0 kX10_144 (m10_checkInsult k hk hC) h0 rfl rfl rfl (Nat.le_of_ble_eq_true rfl) (by decide) (by decide) (by decide) (by decide) dX10_lastOf_2 ?_
  rintro v1 h2 z1 ⟨rfl, rfl, rfl⟩
  refine g_aload_n dX10_lastOf_5 rfl ?_
  refine g_getf fl10_30 h0 rfl dX10_lastOf_6 ?_
  refine g_getf fl10_81 hB.1 rfl dX10_lastOf_9 ?_
  refine g_aload_n dX10_lastOf_12 rfl ?_
  refine g_getf fl10_40 h0 rfl dX10_lastOf_13 ?_
  refine g_iload_n dX10_lastOf_16 rfl ?_
  refine g_callV0 kX10_147 (m4_insultAt k (by have := hok.1.1; omega) hPB) hPB.1 rfl rfl rfl (Nat.le_of_ble_eq_true rfl) (by decide) (by decide) (by decide) (by decide) dX10_lastOf_17 ?_
  rintro v1 h2 z1 ⟨rfl, rfl, rfl⟩
  refine g_callV0 kX10_161 (m5_lastPlaceWith hL hW) hS.1 rfl rfl rfl (Nat.le_of_ble_eq_true rfl) (by decide) (by decide) (by decide) (by decide) dX10_lastOf_20 ?_
  rintro v1 h2 z1 ⟨rfl, rfl, rfl⟩
  exact g_iret hE rfl (⟨rfl, rfl, hC, OffB.rf⟩) dX10_lastOf_23
set_option maxRecDepth 100000 in
set_option maxHeartbeats 4000000 in
theorem m10_stepsTo {X : gX} {K : gKo} {h : gH} {z o n : Nat} {f : Nat → Int32} {P : PlM} {L : List Int32} {day car err : Int32} (k : Nat) (hk : k < P.1.1) (hC : ClsS X K h o n f P L day car err) : gM X yX10_stepsTo cX10_stepsTo 2 (some .int) (50, 0, 0) [.ref o, .int (nI k)] h z (cA X K h z o n f P L day car err (nI (hv L (wl (P.1.2 k))))) gNoX := by
  obtain ⟨pp, sp, ep, dp, er, ir, h0, hpp, hg, ⟨kf, S, T, la, kt, kd, st, en, hT⟩, hP, hSp, hPa, hTr, hok, hn⟩ := id hC
  obtain ⟨sk, fk, hB, hkk, hl2, hL⟩ := id hPa
  obtain ⟨nq, I, A, hS, rfl, hl, hA, -⟩ := id hL
  obtain ⟨S1, g1, wn1, wf1, oA1, oJ1, hPB, hPR⟩ := id hP
  refine gM.of px10 (Nat.le_of_ble_eq_true rfl) ?_
  intro F hE
  have hW := hP.word hok hk
  obtain ⟨fw, hWB, hWl, hWe⟩ := id hW
  refine g_aload_n dX10_stepsTo_0 rfl ?_
  refine g_iload_n dX10_stepsTo_1 rfl ?_
  refine g_callV0 kX10_144 (m10_checkInsult k hk hC) h0 rfl rfl rfl (Nat.le_of_ble_eq_true rfl) (by decide) (by decide) (by decide) (by decide) dX10_stepsTo_2 ?_
  rintro v1 h2 z1 ⟨rfl, rfl, rfl⟩
  refine g_aload_n dX10_stepsTo_5 rfl ?_
  refine g_getf fl10_30 h0 rfl dX10_stepsTo_6 ?_
  refine g_getf fl10_81 hB.1 rfl dX10_stepsTo_9 ?_
  refine g_aload_n dX10_stepsTo_12 rfl ?_
  refine g_getf fl10_40 h0 rfl dX10_stepsTo_13 ?_
  refine g_iload_n dX10_stepsTo_16 rfl ?_
  refine g_callV0 kX10_147 (m4_insultAt k (by have := hok.1.1; omega) hPB) hPB.1 rfl rfl rfl (Nat.le_of_ble_eq_true rfl) (by decide) (by decide) (by decide) (by decide) dX10_stepsTo_17 ?_
  rintro v1 h2 z1 ⟨rfl, rfl, rfl⟩
  refine g_callV0 kX10_164 (m5_halvingsTo hL hW (by have := hok.1.1; omega)) hS.1 rfl rfl rfl (Nat.le_of_ble_eq_true rfl) (by decide) (by decide) (by decide) (by decide) dX10_stepsTo_20 ?_
  rintro v1 h2 z1 ⟨rfl, rfl, hL2, hO2⟩
  exact g_iret hE rfl (⟨rfl, rfl, hC.sq hL2 (hO2.wide (by omega) (by omega)), hO2.wide (by omega) (by omega)⟩) dX10_stepsTo_23
