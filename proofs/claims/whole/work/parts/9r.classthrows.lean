/-! the class: what it throws -/
abbrev thX (E : String) (h : gH) (z : Nat) : String → gH → Nat → Prop := fun E' h' z' => E' = E ∧ h' = h ∧ z ≤ z'
abbrev noP : Option Value → gH → Nat → Prop := fun _ _ _ => False
theorem isPl3 {c : Nat} {p : Int32} (hc : c ≤ 4000) (h1 : ¬ p < 0) (h2 : p < nI c) : p.toNatClampNeg < c ∧ p = nI p.toNatClampNeg := by
  have h0 : (0 : Int32).toInt = 0 := rfl
  have hp : p.toNatClampNeg = p.toInt.toNat := rfl
  simp only [Int32.lt_iff_toInt_lt, h0, nI_toInt (show c < 2 ^ 31 by omega)] at h1 h2
  refine ⟨by omega, Int32.toInt_inj.mp ?_⟩
  rw [nI_toInt (by omega)]
  omega
theorem isPl4 {c : Nat} {p : Int32} (hc : c ≤ 4000) (h1 : ¬ p < 0) (h2 : p ≤ nI c) : p.toNatClampNeg ≤ c ∧ p = nI p.toNatClampNeg := by
  have h0 : (0 : Int32).toInt = 0 := rfl
  have hp : p.toNatClampNeg = p.toInt.toNat := rfl
  simp only [Int32.lt_iff_toInt_lt, Int32.le_iff_toInt_le, h0, nI_toInt (show c < 2 ^ 31 by omega)] at h1 h2
  refine ⟨by omega, Int32.toInt_inj.mp ?_⟩
  rw [nI_toInt (by omega)]
  omega
theorem wst274 : Cond.stringRef RX10 274 "there is no such place or rank" ∈ lw_tbl := gm4 74 (by decide +kernel)
theorem wst277 : Cond.stringRef RX10 277 "there is no such insult" ∈ lw_tbl := gm4 129 (by decide +kernel)
theorem wst55 : Cond.stringRef RX10 55 "the tape would be too long" ∈ lw_tbl := gm4 175 (by decide +kernel)
theorem wst66 : Cond.stringRef RX10 66 "the tape has not so many bytes" ∈ lw_tbl := gm4 203 (by decide +kernel)
theorem wst279 : Cond.stringRef RX10 279 "letters is not 1 to 40" ∈ lw_tbl := gm5 20 (by decide +kernel)
theorem wst167 : Cond.stringRef RX10 167 "there is no such letter" ∈ lw_tbl := gm5 66 (by decide +kernel)
theorem wst281 : Cond.stringRef RX10 281 "it does not remember so many letters" ∈ lw_tbl := gm5 90 (by decide +kernel)
theorem wst283 : Cond.stringRef RX10 283 "days is not 1 to 30" ∈ lw_tbl := gm5 114 (by decide +kernel)
set_option maxRecDepth 100000 in
set_option maxHeartbeats 4000000 in
theorem m10_checkPlaceX {X : gX} {K : gKo} {h : gH} {z o n : Nat} {f : Nat → Int32} {P : PlM} {L : List Int32} {day car err : Int32} (p : Int32) (hp : ¬ (p.toNatClampNeg < L.length ∧ p = nI p.toNatClampNeg)) (hTh : gTh X) (hC : ClsS X K h o n f P L day car err) : gM X yX10_checkPlace cX10_checkPlace 2 none (6, 1, 6) [.ref o, .int p] h z noP (thX IOE h z) := by
  obtain ⟨pp, sp, ep, dp, er, ir, h0, hpp, hg, ⟨kf, S, T, la, kt, kd, st, en, hT⟩, hP, hSp, hPa, hTr, hok, hn⟩ := id hC
  obtain ⟨sk, fk, hB, hkk, hl2, hL⟩ := id hPa
  obtain ⟨nq, I, A, hS, rfl, hl, hA, -⟩ := id hL
  obtain ⟨S1, g1, wn1, wf1, oA1, oJ1, hPB, hPR⟩ := id hP
  refine gM.ofS px10 (Nat.le_of_ble_eq_true rfl) ?_
  intro F hE hSt
  refine g_iload_n dX10_checkPlace_0 rfl ?_
  refine g_if_lt 18 dX10_checkPlace_1 (by decide) (fun c_1 => ?_) (fun c_1 => ?_)
  · exact g_throwW hTh hSt hE wclIOE winIOE wst274 wthIOE weBIOE wbcIOE wotIOE wftIOE dX10_checkPlace_18 dX10_checkPlace_21 dX10_checkPlace_22 dX10_checkPlace_25 dX10_checkPlace_28 (by decide) (Nat.le_of_ble_eq_true rfl) (by decide) (by decide) (fun z2 hz2 => ⟨rfl, rfl, hz2⟩)
  · refine g_iload_n dX10_checkPlace_4 rfl ?_
    refine g_aload_n dX10_checkPlace_5 rfl ?_
    refine g_getf fl10_30 h0 rfl dX10_checkPlace_6 ?_
    refine g_getf fl10_81 hB.1 rfl dX10_checkPlace_9 ?_
    refine g_getf fl10_85 hS.1 rfl dX10_checkPlace_12 ?_
    refine g_icmp_lt 29 dX10_checkPlace_15 (by decide) (fun c_15 => ?_) (fun c_15 => ?_)
    · exact absurd (isPl3 (by omega) c_1 c_15) hp
    · exact g_throwW hTh hSt hE wclIOE winIOE wst274 wthIOE weBIOE wbcIOE wotIOE wftIOE dX10_checkPlace_18 dX10_checkPlace_21 dX10_checkPlace_22 dX10_checkPlace_25 dX10_checkPlace_28 (by decide) (Nat.le_of_ble_eq_true rfl) (by decide) (by decide) (fun z2 hz2 => ⟨rfl, rfl, hz2⟩)
set_option maxRecDepth 100000 in
set_option maxHeartbeats 4000000 in
theorem m10_checkInsultX {X : gX} {K : gKo} {h : gH} {z o n : Nat} {f : Nat → Int32} {P : PlM} {L : List Int32} {day car err : Int32} (p : Int32) (hp : ¬ (p.toNatClampNeg < P.1.1 ∧ p = nI p.toNatClampNeg)) (hTh : gTh X) (hC : ClsS X K h o n f P L day car err) : gM X yX10_checkInsult cX10_checkInsult 2 none (6, 1, 6) [.ref o, .int p] h z noP (thX IOE h z) := by
  obtain ⟨pp, sp, ep, dp, er, ir, h0, hpp, hg, ⟨kf, S, T, la, kt, kd, st, en, hT⟩, hP, hSp, hPa, hTr, hok, hn⟩ := id hC
  obtain ⟨sk, fk, hB, hkk, hl2, hL⟩ := id hPa
  obtain ⟨nq, I, A, hS, rfl, hl, hA, -⟩ := id hL
  obtain ⟨S1, g1, wn1, wf1, oA1, oJ1, hPB, hPR⟩ := id hP
  have h8 := hok.1.1
  refine gM.ofS px10 (Nat.le_of_ble_eq_true rfl) ?_
  intro F hE hSt
  refine g_iload_n dX10_checkInsult_0 rfl ?_
  refine g_if_lt 15 dX10_checkInsult_1 (by decide) (fun c_1 => ?_) (fun c_1 => ?_)
  · exact g_throwW hTh hSt hE wclIOE winIOE wst277 wthIOE weBIOE wbcIOE wotIOE wftIOE dX10_checkInsult_15 dX10_checkInsult_18 dX10_checkInsult_19 dX10_checkInsult_22 dX10_checkInsult_25 (by decide) (Nat.le_of_ble_eq_true rfl) (by decide) (by decide) (fun z2 hz2 => ⟨rfl, rfl, hz2⟩)
  · refine g_iload_n dX10_checkInsult_4 rfl ?_
    refine g_aload_n dX10_checkInsult_5 rfl ?_
    refine g_getf fl10_40 h0 rfl dX10_checkInsult_6 ?_
    refine g_getf fl10_90 hPB.1 rfl dX10_checkInsult_9 ?_
    refine g_icmp_lt 26 dX10_checkInsult_12 (by decide) (fun c_12 => ?_) (fun c_12 => ?_)
    · exact absurd (isPl3 (by omega) c_1 c_12) hp
    · exact g_throwW hTh hSt hE wclIOE winIOE wst277 wthIOE weBIOE wbcIOE wotIOE wftIOE dX10_checkInsult_15 dX10_checkInsult_18 dX10_checkInsult_19 dX10_checkInsult_22 dX10_checkInsult_25 (by decide) (Nat.le_of_ble_eq_true rfl) (by decide) (by decide) (fun z2 hz2 => ⟨rfl, rfl, hz2⟩)
set_option maxRecDepth 100000 in
set_option maxHeartbeats 4000000 in
theorem m10_checkLettersX {X : gX} {K : gKo} {h : gH} {z o n : Nat} {f : Nat → Int32} {P : PlM} {L : List Int32} {day car err : Int32} (p : Int32) (hp : ¬ (nI 1 ≤ p ∧ p ≤ nI 40)) (hTh : gTh X) (hC : ClsS X K h o n f P L day car err) : gM X yX10_checkLetters cX10_checkLetters 2 none (6, 1, 6) [.ref o, .int p] h z noP (thX IAE h z) := by
  obtain ⟨pp, sp, ep, dp, er, ir, h0, hpp, hg, ⟨kf, S, T, la, kt, kd, st, en, hT⟩, hP, hSp, hPa, hTr, hok, hn⟩ := id hC
  obtain ⟨sk, fk, hB, hkk, hl2, hL⟩ := id hPa
  obtain ⟨nq, I, A, hS, rfl, hl, hA, -⟩ := id hL
  obtain ⟨S1, g1, wn1, wf1, oA1, oJ1, hPB, hPR⟩ := id hP
  refine gM.ofS px10 (Nat.le_of_ble_eq_true rfl) ?_
  intro F hE hSt
  refine g_iload_n dX10_checkLetters_0 rfl ?_
  refine g_iconst (nI 1) dX10_checkLetters_1 (by decide) ?_
  refine g_icmp_lt 11 dX10_checkLetters_2 (by decide) (fun c_2 => ?_) (fun c_2 => ?_)
  · exact g_throwW hTh hSt hE wclIAE winIAE wst279 wthIAE weBIAE wbcIAE wotIAE wftIAE dX10_checkLetters_11 dX10_checkLetters_14 dX10_checkLetters_15 dX10_checkLetters_18 dX10_checkLetters_21 (by decide) (Nat.le_of_ble_eq_true rfl) (by decide) (by decide) (fun z2 hz2 => ⟨rfl, rfl, hz2⟩)
  · refine g_iload_n dX10_checkLetters_5 rfl ?_
    refine g_bipush (nI 40) dX10_checkLetters_6 (by decide) ?_
    refine g_icmp_le 22 dX10_checkLetters_8 (by decide) (fun c_8 => ?_) (fun c_8 => ?_)
    · exact absurd ⟨Int32.not_lt.mp c_2, c_8⟩ hp
    · exact g_throwW hTh hSt hE wclIAE winIAE wst279 wthIAE weBIAE wbcIAE wotIAE wftIAE dX10_checkLetters_11 dX10_checkLetters_14 dX10_checkLetters_15 dX10_checkLetters_18 dX10_checkLetters_21 (by decide) (Nat.le_of_ble_eq_true rfl) (by decide) (by decide) (fun z2 hz2 => ⟨rfl, rfl, hz2⟩)
set_option maxRecDepth 100000 in
set_option maxHeartbeats 4000000 in
theorem m10_checkDaysX {X : gX} {K : gKo} {h : gH} {z o n : Nat} {f : Nat → Int32} {P : PlM} {L : List Int32} {day car err : Int32} (p : Int32) (hp : ¬ (nI 1 ≤ p ∧ p ≤ nI 30)) (hTh : gTh X) (hC : ClsS X K h o n f P L day car err) : gM X yX10_checkDays cX10_checkDays 2 none (6, 1, 6) [.ref o, .int p] h z noP (thX IAE h z) := by
  obtain ⟨pp, sp, ep, dp, er, ir, h0, hpp, hg, ⟨kf, S, T, la, kt, kd, st, en, hT⟩, hP, hSp, hPa, hTr, hok, hn⟩ := id hC
  obtain ⟨sk, fk, hB, hkk, hl2, hL⟩ := id hPa
  obtain ⟨nq, I, A, hS, rfl, hl, hA, -⟩ := id hL
  obtain ⟨S1, g1, wn1, wf1, oA1, oJ1, hPB, hPR⟩ := id hP
  refine gM.ofS px10 (Nat.le_of_ble_eq_true rfl) ?_
  intro F hE hSt
  refine g_iload_n dX10_checkDays_0 rfl ?_
  refine g_iconst (nI 1) dX10_checkDays_1 (by decide) ?_
  refine g_icmp_lt 11 dX10_checkDays_2 (by decide) (fun c_2 => ?_) (fun c_2 => ?_)
  · exact g_throwW hTh hSt hE wclIAE winIAE wst283 wthIAE weBIAE wbcIAE wotIAE wftIAE dX10_checkDays_11 dX10_checkDays_14 dX10_checkDays_15 dX10_checkDays_18 dX10_checkDays_21 (by decide) (Nat.le_of_ble_eq_true rfl) (by decide) (by decide) (fun z2 hz2 => ⟨rfl, rfl, hz2⟩)
  · refine g_iload_n dX10_checkDays_5 rfl ?_
    refine g_bipush (nI 30) dX10_checkDays_6 (by decide) ?_
    refine g_icmp_le 22 dX10_checkDays_8 (by decide) (fun c_8 => ?_) (fun c_8 => ?_)
    · exact absurd ⟨Int32.not_lt.mp c_2, c_8⟩ hp
    · exact g_throwW hTh hSt hE wclIAE winIAE wst283 wthIAE weBIAE wbcIAE wotIAE wftIAE dX10_checkDays_11 dX10_checkDays_14 dX10_checkDays_15 dX10_checkDays_18 dX10_checkDays_21 (by decide) (Nat.le_of_ble_eq_true rfl) (by decide) (by decide) (fun z2 hz2 => ⟨rfl, rfl, hz2⟩)
set_option maxRecDepth 100000 in
set_option maxHeartbeats 4000000 in
theorem m10_checkRememberedX {X : gX} {K : gKo} {h : gH} {z o n : Nat} {f : Nat → Int32} {P : PlM} {L : List Int32} {day car err : Int32} (p : Int32) (hp : ¬ (nI 1 ≤ p ∧ p ≤ nI L.length)) (hTh : gTh X) (hC : ClsS X K h o n f P L day car err) : gM X yX10_checkRemembered cX10_checkRemembered 2 none (7, 1, 6) [.ref o, .int p] h z noP (thX IAE h z) := by
  obtain ⟨pp, sp, ep, dp, er, ir, h0, hpp, hg, ⟨kf, S, T, la, kt, kd, st, en, hT⟩, hP, hSp, hPa, hTr, hok, hn⟩ := id hC
  obtain ⟨sk, fk, hB, hkk, hl2, hL⟩ := id hPa
  obtain ⟨nq, I, A, hS, rfl, hl, hA, -⟩ := id hL
  obtain ⟨S1, g1, wn1, wf1, oA1, oJ1, hPB, hPR⟩ := id hP
  refine gM.ofS px10 (Nat.le_of_ble_eq_true rfl) ?_
  intro F hE hSt
  by_cases h40 : nI 1 ≤ p ∧ p ≤ nI 40
  · obtain ⟨g1, g2, hx⟩ := i32_nat (by decide) h40.1 h40.2 (by decide)
    generalize p.toNatClampNeg = k at g1 g2 hx
    subst hx
    refine g_aload_n dX10_checkRemembered_0 rfl ?_
    refine g_iload_n dX10_checkRemembered_1 rfl ?_
    refine g_callV0 kX10_132 (m10_checkLetters k g1 g2 hC) h0 rfl rfl rfl (Nat.le_of_ble_eq_true rfl) (by decide) (by decide) (by decide) (by decide) dX10_checkRemembered_2 ?_
    rintro v1 h2 z1 ⟨rfl, rfl, rfl⟩
    refine g_iload_n dX10_checkRemembered_5 rfl ?_
    refine g_aload_n dX10_checkRemembered_6 rfl ?_
    refine g_getf fl10_30 h0 rfl dX10_checkRemembered_7 ?_
    refine g_getf fl10_81 hB.1 rfl dX10_checkRemembered_10 ?_
    refine g_getf fl10_85 hS.1 rfl dX10_checkRemembered_13 ?_
    refine g_icmp_le 30 dX10_checkRemembered_16 (by decide) (fun c_16 => ?_) (fun c_16 => ?_)
    · exact absurd ⟨h40.1, c_16⟩ hp
    · exact g_throwW hTh hSt hE wclIAE winIAE wst281 wthIAE weBIAE wbcIAE wotIAE wftIAE dX10_checkRemembered_19 dX10_checkRemembered_22 dX10_checkRemembered_23 dX10_checkRemembered_26 dX10_checkRemembered_29 (by decide) (Nat.le_of_ble_eq_true rfl) (by decide) (by decide) (fun z2 hz2 => ⟨rfl, rfl, hz2⟩)
  · refine g_aload_n dX10_checkRemembered_0 rfl ?_
    refine g_iload_n dX10_checkRemembered_1 rfl ?_
    exact g_callVX kX10_132 (m10_checkLettersX p h40 hTh hC) h0 rfl rfl rfl (Nat.le_of_ble_eq_true rfl) (by decide) (by decide) (by decide) (by decide) dX10_checkRemembered_2 hE (fun _ _ _ q => q) (fun _ _ _ q => q)
set_option maxRecDepth 100000 in
set_option maxHeartbeats 4000000 in
theorem m10_feedX {X : gX} {K : gKo} {h : gH} {z o n : Nat} {f : Nat → Int32} {P : PlM} {L : List Int32} {day car err : Int32} (a b c d e : Int32) (hp : ¬ n ≤ 1980) (hTh : gTh X) (hC : ClsS X K h o n f P L day car err) : gM X yX10_feed cX10_feed 6 (some .int) (8, 1, 6) [.ref o, .int a, .int b, .int c, .int d, .int e] h z noP (thX ISE h z) := by
  obtain ⟨pp, sp, ep, dp, er, ir, h0, hpp, hg, ⟨kf, S, T, la, kt, kd, st, en, hT⟩, hP, hSp, hPa, hTr, hok, hn⟩ := id hC
  obtain ⟨sk, fk, hB, hkk, hl2, hL⟩ := id hPa
  obtain ⟨nq, I, A, hS, rfl, hl, hA, -⟩ := id hL
  obtain ⟨S1, g1, wn1, wf1, oA1, oJ1, hPB, hPR⟩ := id hP
  refine gM.ofS px10 (Nat.le_of_ble_eq_true rfl) ?_
  intro F hE hSt
  refine g_aload_n dX10_feed_0 rfl ?_
  refine g_getf fl10_26 h0 rfl dX10_feed_1 ?_
  refine g_getf fl10_48 hT.2.1 rfl dX10_feed_4 ?_
  refine g_sipush (nI 1980) dX10_feed_7 (by decide) ?_
  refine g_icmp_leN 23 dX10_feed_10 (by decide) (by omega) (by omega) (fun c_10 => ?_) (fun c_10 => ?_)
  · exact absurd c_10 hp
  · exact g_throwS hTh hSt hE wclISE winISE wst55 wthISE weBISE wbcISE wotISE wftISE dX10_feed_13 dX10_feed_16 dX10_feed_17 dX10_feed_19 dX10_feed_22 (by decide) (Nat.le_of_ble_eq_true rfl) (by decide) (by decide) (fun z2 hz2 => ⟨rfl, rfl, hz2⟩)
set_option maxRecDepth 100000 in
set_option maxHeartbeats 4000000 in
theorem m10_trimX {X : gX} {K : gKo} {h : gH} {z o n : Nat} {f : Nat → Int32} {P : PlM} {L : List Int32} {day car err : Int32} (p : Int32) (hp : ¬ (p.toNatClampNeg ≤ n ∧ p = nI p.toNatClampNeg)) (hTh : gTh X) (hC : ClsS X K h o n f P L day car err) : gM X yX10_trim cX10_trim 2 (some .int) (8, 1, 6) [.ref o, .int p] h z noP (thX IAE h z) := by
  obtain ⟨pp, sp, ep, dp, er, ir, h0, hpp, hg, ⟨kf, S, T, la, kt, kd, st, en, hT⟩, hP, hSp, hPa, hTr, hok, hn⟩ := id hC
  obtain ⟨sk, fk, hB, hkk, hl2, hL⟩ := id hPa
  obtain ⟨nq, I, A, hS, rfl, hl, hA, -⟩ := id hL
  obtain ⟨S1, g1, wn1, wf1, oA1, oJ1, hPB, hPR⟩ := id hP
  refine gM.ofS px10 (Nat.le_of_ble_eq_true rfl) ?_
  intro F hE hSt
  refine g_iload_n dX10_trim_0 rfl ?_
  refine g_if_lt 15 dX10_trim_1 (by decide) (fun c_1 => ?_) (fun c_1 => ?_)
  · exact g_throwS hTh hSt hE wclIAE winIAE wst66 wthIAE weBIAE wbcIAE wotIAE wftIAE dX10_trim_15 dX10_trim_18 dX10_trim_19 dX10_trim_21 dX10_trim_24 (by decide) (Nat.le_of_ble_eq_true rfl) (by decide) (by decide) (fun z2 hz2 => ⟨rfl, rfl, hz2⟩)
  · refine g_iload_n dX10_trim_4 rfl ?_
    refine g_aload_n dX10_trim_5 rfl ?_
    refine g_getf fl10_26 h0 rfl dX10_trim_6 ?_
    refine g_getf fl10_48 hT.2.1 rfl dX10_trim_9 ?_
    refine g_icmp_le 25 dX10_trim_12 (by decide) (fun c_12 => ?_) (fun c_12 => ?_)
    · exact absurd (isPl4 (by omega) c_1 c_12) hp
    · exact g_throwS hTh hSt hE wclIAE winIAE wst66 wthIAE weBIAE wbcIAE wotIAE wftIAE dX10_trim_15 dX10_trim_18 dX10_trim_19 dX10_trim_21 dX10_trim_24 (by decide) (Nat.le_of_ble_eq_true rfl) (by decide) (by decide) (fun z2 hz2 => ⟨rfl, rfl, hz2⟩)
set_option maxRecDepth 100000 in
set_option maxHeartbeats 4000000 in
theorem m10_hearX {X : gX} {K : gKo} {h : gH} {z o n : Nat} {f : Nat → Int32} {P : PlM} {L : List Int32} {day car err : Int32} (p : Int32) (hp : ¬ (nI 1 ≤ p ∧ p ≤ nI 26)) (hTh : gTh X) (hC : ClsS X K h o n f P L day car err) : gM X yX10_hear cX10_hear 2 (some .int) (8, 1, 6) [.ref o, .int p] h z noP (thX IAE h z) := by
  obtain ⟨pp, sp, ep, dp, er, ir, h0, hpp, hg, ⟨kf, S, T, la, kt, kd, st, en, hT⟩, hP, hSp, hPa, hTr, hok, hn⟩ := id hC
  obtain ⟨sk, fk, hB, hkk, hl2, hL⟩ := id hPa
  obtain ⟨nq, I, A, hS, rfl, hl, hA, -⟩ := id hL
  obtain ⟨S1, g1, wn1, wf1, oA1, oJ1, hPB, hPR⟩ := id hP
  refine gM.ofS px10 (Nat.le_of_ble_eq_true rfl) ?_
  intro F hE hSt
  refine g_iload_n dX10_hear_0 rfl ?_
  refine g_iconst (nI 1) dX10_hear_1 (by decide) ?_
  refine g_icmp_lt 11 dX10_hear_2 (by decide) (fun c_2 => ?_) (fun c_2 => ?_)
  · exact g_throwS hTh hSt hE wclIAE winIAE wst167 wthIAE weBIAE wbcIAE wotIAE wftIAE dX10_hear_11 dX10_hear_14 dX10_hear_15 dX10_hear_17 dX10_hear_20 (by decide) (Nat.le_of_ble_eq_true rfl) (by decide) (by decide) (fun z2 hz2 => ⟨rfl, rfl, hz2⟩)
  · refine g_iload_n dX10_hear_5 rfl ?_
    refine g_bipush (nI 26) dX10_hear_6 (by decide) ?_
    refine g_icmp_le 21 dX10_hear_8 (by decide) (fun c_8 => ?_) (fun c_8 => ?_)
    · exact absurd ⟨Int32.not_lt.mp c_2, c_8⟩ hp
    · exact g_throwS hTh hSt hE wclIAE winIAE wst167 wthIAE weBIAE wbcIAE wotIAE wftIAE dX10_hear_11 dX10_hear_14 dX10_hear_15 dX10_hear_17 dX10_hear_20 (by decide) (Nat.le_of_ble_eq_true rfl) (by decide) (by decide) (fun z2 hz2 => ⟨rfl, rfl, hz2⟩)
set_option maxRecDepth 100000 in
set_option maxHeartbeats 4000000 in
theorem m10_letterAtX {X : gX} {K : gKo} {h : gH} {z o n : Nat} {f : Nat → Int32} {P : PlM} {L : List Int32} {day car err : Int32} (p : Int32) (hp : ¬ (p.toNatClampNeg < L.length ∧ p = nI p.toNatClampNeg)) (hTh : gTh X) (hC : ClsS X K h o n f P L day car err) : gM X yX10_letterAt cX10_letterAt 2 (some .int) (8, 1, 6) [.ref o, .int p] h z noP (thX IOE h z) := by
  obtain ⟨fs0, h0⟩ := hC.at
  refine gM.of px10 (Nat.le_of_ble_eq_true rfl) ?_
  intro F hE
  refine g_aload_n dX10_letterAt_0 rfl ?_
  refine g_iload_n dX10_letterAt_1 rfl ?_
  exact g_callVX kX10_102 (m10_checkPlaceX p hp hTh hC) h0 rfl rfl rfl (Nat.le_of_ble_eq_true rfl) (by decide) (by decide) (by decide) (by decide) dX10_letterAt_2 hE (fun _ _ _ q => q) (fun _ _ _ q => q)
set_option maxRecDepth 100000 in
set_option maxHeartbeats 4000000 in
theorem m10_rankOfX {X : gX} {K : gKo} {h : gH} {z o n : Nat} {f : Nat → Int32} {P : PlM} {L : List Int32} {day car err : Int32} (p : Int32) (hp : ¬ (p.toNatClampNeg < L.length ∧ p = nI p.toNatClampNeg)) (hTh : gTh X) (hC : ClsS X K h o n f P L day car err) : gM X yX10_rankOf cX10_rankOf 2 (some .int) (8, 1, 6) [.ref o, .int p] h z noP (thX IOE h z) := by
  obtain ⟨fs0, h0⟩ := hC.at
  refine gM.of px10 (Nat.le_of_ble_eq_true rfl) ?_
  intro F hE
  refine g_aload_n dX10_rankOf_0 rfl ?_
  refine g_iload_n dX10_rankOf_1 rfl ?_
  exact g_callVX kX10_102 (m10_checkPlaceX p hp hTh hC) h0 rfl rfl rfl (Nat.le_of_ble_eq_true rfl) (by decide) (by decide) (by decide) (by decide) dX10_rankOf_2 hE (fun _ _ _ q => q) (fun _ _ _ q => q)
set_option maxRecDepth 100000 in
set_option maxHeartbeats 4000000 in
theorem m10_placeAtX {X : gX} {K : gKo} {h : gH} {z o n : Nat} {f : Nat → Int32} {P : PlM} {L : List Int32} {day car err : Int32} (p : Int32) (hp : ¬ (p.toNatClampNeg < L.length ∧ p = nI p.toNatClampNeg)) (hTh : gTh X) (hC : ClsS X K h o n f P L day car err) : gM X yX10_placeAt cX10_placeAt 2 (some .int) (8, 1, 6) [.ref o, .int p] h z noP (thX IOE h z) := by
  obtain ⟨fs0, h0⟩ := hC.at
  refine gM.of px10 (Nat.le_of_ble_eq_true rfl) ?_
  intro F hE
  refine g_aload_n dX10_placeAt_0 rfl ?_
  refine g_iload_n dX10_placeAt_1 rfl ?_
  exact g_callVX kX10_102 (m10_checkPlaceX p hp hTh hC) h0 rfl rfl rfl (Nat.le_of_ble_eq_true rfl) (by decide) (by decide) (by decide) (by decide) dX10_placeAt_2 hE (fun _ _ _ q => q) (fun _ _ _ q => q)
set_option maxRecDepth 100000 in
set_option maxHeartbeats 4000000 in
theorem m10_sharedAtX {X : gX} {K : gKo} {h : gH} {z o n : Nat} {f : Nat → Int32} {P : PlM} {L : List Int32} {day car err : Int32} (p : Int32) (hp : ¬ (p.toNatClampNeg < L.length ∧ p = nI p.toNatClampNeg)) (hTh : gTh X) (hC : ClsS X K h o n f P L day car err) : gM X yX10_sharedAt cX10_sharedAt 2 (some .int) (8, 1, 6) [.ref o, .int p] h z noP (thX IOE h z) := by
  obtain ⟨fs0, h0⟩ := hC.at
  refine gM.of px10 (Nat.le_of_ble_eq_true rfl) ?_
  intro F hE
  refine g_aload_n dX10_sharedAt_0 rfl ?_
  refine g_iload_n dX10_sharedAt_1 rfl ?_
  exact g_callVX kX10_102 (m10_checkPlaceX p hp hTh hC) h0 rfl rfl rfl (Nat.le_of_ble_eq_true rfl) (by decide) (by decide) (by decide) (by decide) dX10_sharedAt_2 hE (fun _ _ _ q => q) (fun _ _ _ q => q)
set_option maxRecDepth 100000 in
set_option maxHeartbeats 4000000 in
theorem m10_kindsOfX {X : gX} {K : gKo} {h : gH} {z o n : Nat} {f : Nat → Int32} {P : PlM} {L : List Int32} {day car err : Int32} (p : Int32) (hp : ¬ (nI 1 ≤ p ∧ p ≤ nI 40)) (hTh : gTh X) (hC : ClsS X K h o n f P L day car err) : gM X yX10_kindsOf cX10_kindsOf 2 (some .int) (8, 1, 6) [.ref o, .int p] h z noP (thX IAE h z) := by
  obtain ⟨fs0, h0⟩ := hC.at
  refine gM.of px10 (Nat.le_of_ble_eq_true rfl) ?_
  intro F hE
  refine g_aload_n dX10_kindsOf_0 rfl ?_
  refine g_iload_n dX10_kindsOf_1 rfl ?_
  exact g_callVX kX10_132 (m10_checkLettersX p hp hTh hC) h0 rfl rfl rfl (Nat.le_of_ble_eq_true rfl) (by decide) (by decide) (by decide) (by decide) dX10_kindsOf_2 hE (fun _ _ _ q => q) (fun _ _ _ q => q)
set_option maxRecDepth 100000 in
set_option maxHeartbeats 4000000 in
theorem m10_repeatedOfX {X : gX} {K : gKo} {h : gH} {z o n : Nat} {f : Nat → Int32} {P : PlM} {L : List Int32} {day car err : Int32} (p : Int32) (hp : ¬ (nI 1 ≤ p ∧ p ≤ nI 40)) (hTh : gTh X) (hC : ClsS X K h o n f P L day car err) : gM X yX10_repeatedOf cX10_repeatedOf 2 (some .int) (8, 1, 6) [.ref o, .int p] h z noP (thX IAE h z) := by
  obtain ⟨fs0, h0⟩ := hC.at
  refine gM.of px10 (Nat.le_of_ble_eq_true rfl) ?_
  intro F hE
  refine g_aload_n dX10_repeatedOf_0 rfl ?_
  refine g_iload_n dX10_repeatedOf_1 rfl ?_
  exact g_callVX kX10_132 (m10_checkLettersX p hp hTh hC) h0 rfl rfl rfl (Nat.le_of_ble_eq_true rfl) (by decide) (by decide) (by decide) (by decide) dX10_repeatedOf_2 hE (fun _ _ _ q => q) (fun _ _ _ q => q)
set_option maxRecDepth 100000 in
set_option maxHeartbeats 4000000 in
theorem m10_lettersOfX {X : gX} {K : gKo} {h : gH} {z o n : Nat} {f : Nat → Int32} {P : PlM} {L : List Int32} {day car err : Int32} (p : Int32) (hp : ¬ (p.toNatClampNeg < P.1.1 ∧ p = nI p.toNatClampNeg)) (hTh : gTh X) (hC : ClsS X K h o n f P L day car err) : gM X yX10_lettersOf cX10_lettersOf 2 (some .int) (8, 1, 6) [.ref o, .int p] h z noP (thX IOE h z) := by
  obtain ⟨fs0, h0⟩ := hC.at
  refine gM.of px10 (Nat.le_of_ble_eq_true rfl) ?_
  intro F hE
  refine g_aload_n dX10_lettersOf_0 rfl ?_
  refine g_iload_n dX10_lettersOf_1 rfl ?_
  exact g_callVX kX10_144 (m10_checkInsultX p hp hTh hC) h0 rfl rfl rfl (Nat.le_of_ble_eq_true rfl) (by decide) (by decide) (by decide) (by decide) dX10_lettersOf_2 hE (fun _ _ _ q => q) (fun _ _ _ q => q)
set_option maxRecDepth 100000 in
set_option maxHeartbeats 4000000 in
theorem m10_countOfX {X : gX} {K : gKo} {h : gH} {z o n : Nat} {f : Nat → Int32} {P : PlM} {L : List Int32} {day car err : Int32} (p : Int32) (hp : ¬ (p.toNatClampNeg < P.1.1 ∧ p = nI p.toNatClampNeg)) (hTh : gTh X) (hC : ClsS X K h o n f P L day car err) : gM X yX10_countOf cX10_countOf 2 (some .int) (8, 1, 6) [.ref o, .int p] h z noP (thX IOE h z) := by
  obtain ⟨fs0, h0⟩ := hC.at
  refine gM.of px10 (Nat.le_of_ble_eq_true rfl) ?_
  intro F hE
  refine g_aload_n dX10_countOf_0 rfl ?_
  refine g_iload_n dX10_countOf_1 rfl ?_
  exact g_callVX kX10_144 (m10_checkInsultX p hp hTh hC) h0 rfl rfl rfl (Nat.le_of_ble_eq_true rfl) (by decide) (by decide) (by decide) (by decide) dX10_countOf_2 hE (fun _ _ _ q => q) (fun _ _ _ q => q)
set_option maxRecDepth 100000 in
set_option maxHeartbeats 4000000 in
theorem m10_firstOfX {X : gX} {K : gKo} {h : gH} {z o n : Nat} {f : Nat → Int32} {P : PlM} {L : List Int32} {day car err : Int32} (p : Int32) (hp : ¬ (p.toNatClampNeg < P.1.1 ∧ p = nI p.toNatClampNeg)) (hTh : gTh X) (hC : ClsS X K h o n f P L day car err) : gM X yX10_firstOf cX10_firstOf 2 (some .int) (8, 1, 6) [.ref o, .int p] h z noP (thX IOE h z) := by
  obtain ⟨fs0, h0⟩ := hC.at
  refine gM.of px10 (Nat.le_of_ble_eq_true rfl) ?_
  intro F hE
  refine g_aload_n dX10_firstOf_0 rfl ?_
  refine g_iload_n dX10_firstOf_1 rfl ?_
  exact g_callVX kX10_144 (m10_checkInsultX p hp hTh hC) h0 rfl rfl rfl (Nat.le_of_ble_eq_true rfl) (by decide) (by decide) (by decide) (by decide) dX10_firstOf_2 hE (fun _ _ _ q => q) (fun _ _ _ q => q)
set_option maxRecDepth 100000 in
set_option maxHeartbeats 4000000 in
theorem m10_lastOfX {X : gX} {K : gKo} {h : gH} {z o n : Nat} {f : Nat → Int32} {P : PlM} {L : List Int32} {day car err : Int32} (p : Int32) (hp : ¬ (p.toNatClampNeg < P.1.1 ∧ p = nI p.toNatClampNeg)) (hTh : gTh X) (hC : ClsS X K h o n f P L day car err) : gM X yX10_lastOf cX10_lastOf 2 (some .int) (8, 1, 6) [.ref o, .int p] h z noP (thX IOE h z) := by
  obtain ⟨fs0, h0⟩ := hC.at
  refine gM.of px10 (Nat.le_of_ble_eq_true rfl) ?_
  intro F hE
  refine g_aload_n dX10_lastOf_0 rfl ?_
  refine g_iload_n dX10_lastOf_1 rfl ?_
  exact g_callVX kX10_144 (m10_checkInsultX p hp hTh hC) h0 rfl rfl rfl (Nat.le_of_ble_eq_true rfl) (by decide) (by decide) (by decide) (by decide) dX10_lastOf_2 hE (fun _ _ _ q => q) (fun _ _ _ q => q)
set_option maxRecDepth 100000 in
set_option maxHeartbeats 4000000 in
theorem m10_stepsToX {X : gX} {K : gKo} {h : gH} {z o n : Nat} {f : Nat → Int32} {P : PlM} {L : List Int32} {day car err : Int32} (p : Int32) (hp : ¬ (p.toNatClampNeg < P.1.1 ∧ p = nI p.toNatClampNeg)) (hTh : gTh X) (hC : ClsS X K h o n f P L day car err) : gM X yX10_stepsTo cX10_stepsTo 2 (some .int) (8, 1, 6) [.ref o, .int p] h z noP (thX IOE h z) := by
  obtain ⟨fs0, h0⟩ := hC.at
  refine gM.of px10 (Nat.le_of_ble_eq_true rfl) ?_
  intro F hE
  refine g_aload_n dX10_stepsTo_0 rfl ?_
  refine g_iload_n dX10_stepsTo_1 rfl ?_
  exact g_callVX kX10_144 (m10_checkInsultX p hp hTh hC) h0 rfl rfl rfl (Nat.le_of_ble_eq_true rfl) (by decide) (by decide) (by decide) (by decide) dX10_stepsTo_2 hE (fun _ _ _ q => q) (fun _ _ _ q => q)
set_option maxRecDepth 100000 in
set_option maxHeartbeats 4000000 in
theorem m10_mockX {X : gX} {K : gKo} {h : gH} {z o n : Nat} {f : Nat → Int32} {P : PlM} {L : List Int32} {day car err : Int32} (p : Int32) (hp : ¬ (p.toNatClampNeg < P.1.1 ∧ p = nI p.toNatClampNeg)) (hTh : gTh X) (hC : ClsS X K h o n f P L day car err) : gM X yX10_mock cX10_mock 2 (some .int) (8, 1, 6) [.ref o, .int p] h z noP (thX IOE h z) := by
  obtain ⟨fs0, h0⟩ := hC.at
  refine gM.of px10 (Nat.le_of_ble_eq_true rfl) ?_
  intro F hE
  refine g_aload_n dX10_mock_0 rfl ?_
  refine g_iload_n dX10_mock_1 rfl ?_
  exact g_callVX kX10_144 (m10_checkInsultX p hp hTh hC) h0 rfl rfl rfl (Nat.le_of_ble_eq_true rfl) (by decide) (by decide) (by decide) (by decide) dX10_mock_2 hE (fun _ _ _ q => q) (fun _ _ _ q => q)
set_option maxRecDepth 100000 in
set_option maxHeartbeats 4000000 in
theorem m10_daysUntilKnownX {X : gX} {K : gKo} {h : gH} {z o n : Nat} {f : Nat → Int32} {P : PlM} {L : List Int32} {day car err : Int32} (p : Int32) (hp : ¬ (p.toNatClampNeg < P.1.1 ∧ p = nI p.toNatClampNeg)) (hTh : gTh X) (hC : ClsS X K h o n f P L day car err) : gM X yX10_daysUntilKnown cX10_daysUntilKnown 4 (some .int) (8, 1, 6) [.ref o, .int p] h z noP (thX IOE h z) := by
  obtain ⟨fs0, h0⟩ := hC.at
  refine gM.of px10 (Nat.le_of_ble_eq_true rfl) ?_
  intro F hE
  refine g_aload_n dX10_daysUntilKnown_0 rfl ?_
  refine g_iload_n dX10_daysUntilKnown_1 rfl ?_
  exact g_callVX kX10_144 (m10_checkInsultX p hp hTh hC) h0 rfl rfl rfl (Nat.le_of_ble_eq_true rfl) (by decide) (by decide) (by decide) (by decide) dX10_daysUntilKnown_2 hE (fun _ _ _ q => q) (fun _ _ _ q => q)
set_option maxRecDepth 100000 in
set_option maxHeartbeats 4000000 in
theorem m10_echoX {X : gX} {K : gKo} {h : gH} {z o n : Nat} {f : Nat → Int32} {P : PlM} {L : List Int32} {day car err : Int32} (p : Int32) (hp : ¬ (nI 1 ≤ p ∧ p ≤ nI L.length)) (hTh : gTh X) (hC : ClsS X K h o n f P L day car err) : gM X yX10_echo cX10_echo 2 (some .int) (8, 1, 6) [.ref o, .int p] h z noP (thX IAE h z) := by
  obtain ⟨fs0, h0⟩ := hC.at
  refine gM.of px10 (Nat.le_of_ble_eq_true rfl) ?_
  intro F hE
  refine g_aload_n dX10_echo_0 rfl ?_
  refine g_iload_n dX10_echo_1 rfl ?_
  exact g_callVX kX10_176 (m10_checkRememberedX p hp hTh hC) h0 rfl rfl rfl (Nat.le_of_ble_eq_true rfl) (by decide) (by decide) (by decide) (by decide) dX10_echo_2 hE (fun _ _ _ q => q) (fun _ _ _ q => q)
set_option maxRecDepth 100000 in
set_option maxHeartbeats 4000000 in
theorem m10_forgetX {X : gX} {K : gKo} {h : gH} {z o n : Nat} {f : Nat → Int32} {P : PlM} {L : List Int32} {day car err : Int32} (p : Int32) (hp : ¬ (nI 1 ≤ p ∧ p ≤ nI L.length)) (hTh : gTh X) (hC : ClsS X K h o n f P L day car err) : gM X yX10_forget cX10_forget 2 (some .int) (8, 1, 6) [.ref o, .int p] h z noP (thX IAE h z) := by
  obtain ⟨fs0, h0⟩ := hC.at
  refine gM.of px10 (Nat.le_of_ble_eq_true rfl) ?_
  intro F hE
  refine g_aload_n dX10_forget_0 rfl ?_
  refine g_iload_n dX10_forget_1 rfl ?_
  exact g_callVX kX10_176 (m10_checkRememberedX p hp hTh hC) h0 rfl rfl rfl (Nat.le_of_ble_eq_true rfl) (by decide) (by decide) (by decide) (by decide) dX10_forget_2 hE (fun _ _ _ q => q) (fun _ _ _ q => q)
set_option maxRecDepth 100000 in
set_option maxHeartbeats 4000000 in
theorem m10_passDaysX {X : gX} {K : gKo} {h : gH} {z o n : Nat} {f : Nat → Int32} {P : PlM} {L : List Int32} {day car err : Int32} (p : Int32) (hp : ¬ (nI 1 ≤ p ∧ p ≤ nI 30)) (hTh : gTh X) (hC : ClsS X K h o n f P L day car err) : gM X yX10_passDays cX10_passDays 3 (some .int) (8, 1, 6) [.ref o, .int p] h z noP (thX IAE h z) := by
  obtain ⟨fs0, h0⟩ := hC.at
  refine gM.of px10 (Nat.le_of_ble_eq_true rfl) ?_
  intro F hE
  refine g_aload_n dX10_passDays_0 rfl ?_
  refine g_iload_n dX10_passDays_1 rfl ?_
  exact g_callVX kX10_185 (m10_checkDaysX p hp hTh hC) h0 rfl rfl rfl (Nat.le_of_ble_eq_true rfl) (by decide) (by decide) (by decide) (by decide) dX10_passDays_2 hE (fun _ _ _ q => q) (fun _ _ _ q => q)
set_option maxRecDepth 100000 in
set_option maxHeartbeats 4000000 in
theorem m10_repeatAfterX {X : gX} {K : gKo} {h : gH} {z o n : Nat} {f : Nat → Int32} {P : PlM} {L : List Int32} {day car err : Int32} (p : Int32) (hp : ¬ (nI 1 ≤ p ∧ p ≤ nI 30)) (hTh : gTh X) (hC : ClsS X K h o n f P L day car err) : gM X yX10_repeatAfter cX10_repeatAfter 2 (some .int) (8, 1, 6) [.ref o, .int p] h z noP (thX IAE h z) := by
  obtain ⟨fs0, h0⟩ := hC.at
  refine gM.of px10 (Nat.le_of_ble_eq_true rfl) ?_
  intro F hE
  refine g_aload_n dX10_repeatAfter_0 rfl ?_
  refine g_iload_n dX10_repeatAfter_1 rfl ?_
  exact g_callVX kX10_185 (m10_checkDaysX p hp hTh hC) h0 rfl rfl rfl (Nat.le_of_ble_eq_true rfl) (by decide) (by decide) (by decide) (by decide) dX10_repeatAfter_2 hE (fun _ _ _ q => q) (fun _ _ _ q => q)
set_option maxRecDepth 100000 in
set_option maxHeartbeats 4000000 in
theorem m10_sharedX {X : gX} {K : gKo} {h : gH} {z o n : Nat} {f : Nat → Int32} {P : PlM} {L : List Int32} {day car err : Int32} (p q : Int32) (hp : ¬ ((p.toNatClampNeg < L.length ∧ p = nI p.toNatClampNeg) ∧ q.toNatClampNeg < L.length ∧ q = nI q.toNatClampNeg)) (hTh : gTh X) (hC : ClsS X K h o n f P L day car err) : gM X yX10_shared cX10_shared 3 (some .int) (8, 1, 6) [.ref o, .int p, .int q] h z noP (thX IOE h z) := by
  obtain ⟨fs0, h0⟩ := hC.at
  refine gM.of px10 (Nat.le_of_ble_eq_true rfl) ?_
  intro F hE
  by_cases h1 : p.toNatClampNeg < L.length ∧ p = nI p.toNatClampNeg
  · have hx := h1.2
    have hqn : ¬ (q.toNatClampNeg < L.length ∧ q = nI q.toNatClampNeg) := fun w => hp ⟨h1, w⟩
    generalize p.toNatClampNeg = k at h1 hx
    subst hx
    refine g_aload_n dX10_shared_0 rfl ?_
    refine g_iload_n dX10_shared_1 rfl ?_
    refine g_callV0 kX10_102 (m10_checkPlace k h1.1 hC) h0 rfl rfl rfl (Nat.le_of_ble_eq_true rfl) (by decide) (by decide) (by decide) (by decide) dX10_shared_2 ?_
    rintro v1 h2 z1 ⟨rfl, rfl, rfl⟩
    refine g_aload_n dX10_shared_5 rfl ?_
    refine g_iload_n dX10_shared_6 rfl ?_
    exact g_callVX kX10_102 (m10_checkPlaceX q hqn hTh hC) h0 rfl rfl rfl (Nat.le_of_ble_eq_true rfl) (by decide) (by decide) (by decide) (by decide) dX10_shared_7 hE (fun _ _ _ q => q) (fun _ _ _ q => q)
  · refine g_aload_n dX10_shared_0 rfl ?_
    refine g_iload_n dX10_shared_1 rfl ?_
    exact g_callVX kX10_102 (m10_checkPlaceX p h1 hTh hC) h0 rfl rfl rfl (Nat.le_of_ble_eq_true rfl) (by decide) (by decide) (by decide) (by decide) dX10_shared_2 hE (fun _ _ _ q => q) (fun _ _ _ q => q)
set_option maxRecDepth 100000 in
set_option maxHeartbeats 4000000 in
theorem m10_isAheadX {X : gX} {K : gKo} {h : gH} {z o n : Nat} {f : Nat → Int32} {P : PlM} {L : List Int32} {day car err : Int32} (p q : Int32) (hp : ¬ ((p.toNatClampNeg < L.length ∧ p = nI p.toNatClampNeg) ∧ q.toNatClampNeg < L.length ∧ q = nI q.toNatClampNeg)) (hTh : gTh X) (hC : ClsS X K h o n f P L day car err) : gM X yX10_isAhead cX10_isAhead 3 (some .boolean) (8, 1, 6) [.ref o, .int p, .int q] h z noP (thX IOE h z) := by
  obtain ⟨fs0, h0⟩ := hC.at
  refine gM.of px10 (Nat.le_of_ble_eq_true rfl) ?_
  intro F hE
  by_cases h1 : p.toNatClampNeg < L.length ∧ p = nI p.toNatClampNeg
  · have hx := h1.2
    have hqn : ¬ (q.toNatClampNeg < L.length ∧ q = nI q.toNatClampNeg) := fun w => hp ⟨h1, w⟩
    generalize p.toNatClampNeg = k at h1 hx
    subst hx
    refine g_aload_n dX10_isAhead_0 rfl ?_
    refine g_iload_n dX10_isAhead_1 rfl ?_
    refine g_callV0 kX10_102 (m10_checkPlace k h1.1 hC) h0 rfl rfl rfl (Nat.le_of_ble_eq_true rfl) (by decide) (by decide) (by decide) (by decide) dX10_isAhead_2 ?_
    rintro v1 h2 z1 ⟨rfl, rfl, rfl⟩
    refine g_aload_n dX10_isAhead_5 rfl ?_
    refine g_iload_n dX10_isAhead_6 rfl ?_
    exact g_callVX kX10_102 (m10_checkPlaceX q hqn hTh hC) h0 rfl rfl rfl (Nat.le_of_ble_eq_true rfl) (by decide) (by decide) (by decide) (by decide) dX10_isAhead_7 hE (fun _ _ _ q => q) (fun _ _ _ q => q)
  · refine g_aload_n dX10_isAhead_0 rfl ?_
    refine g_iload_n dX10_isAhead_1 rfl ?_
    exact g_callVX kX10_102 (m10_checkPlaceX p h1 hTh hC) h0 rfl rfl rfl (Nat.le_of_ble_eq_true rfl) (by decide) (by decide) (by decide) (by decide) dX10_isAhead_2 hE (fun _ _ _ q => q) (fun _ _ _ q => q)
