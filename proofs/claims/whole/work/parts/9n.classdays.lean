/-! the class: by hand, days, what would be -/
set_option maxRecDepth 100000 in
set_option maxHeartbeats 4000000 in
theorem m10_hear {X : gX} {K : gKo} {h : gH} {z o n : Nat} {f : Nat → Int32} {P : PlM} {L : List Int32} {day car err : Int32} (p : Int32) (hp : nI 1 ≤ p ∧ p ≤ nI 26) (hC : ClsS X K h o n f P L day car err) : gM X yX10_hear cX10_hear 2 (some .int) (50, 0, 0) [.ref o, .int p] h z (fun r h' z' => r = some (.int (nI (hearL L p).length)) ∧ z' = z ∧ ClsS X K h' o n f P (hearL L p) (day) (car) err ∧ OffB h h' o 162) gNoX := by
  obtain ⟨pp, sp, ep, dp, er, ir, h0, hpp, hg, ⟨kf, S, T, la, kt, kd, st, en, hT⟩, hP, hSp, hPa, hTr, hok, hn⟩ := id hC
  obtain ⟨sk, fk, hB, hkk, hl2, hL⟩ := id hPa
  obtain ⟨nq, I, A, hS, rfl, hl, hA, -⟩ := id hL
  obtain ⟨S1, g1, wn1, wf1, oA1, oJ1, hPB, hPR⟩ := id hP
  obtain ⟨g1, g2, hx⟩ := i32_nat (by decide) hp.1 hp.2 (by decide)
  generalize p.toNatClampNeg = k at g1 g2 hx
  subst hx
  refine gM.of px10 (Nat.le_of_ble_eq_true rfl) ?_
  intro F hE
  refine g_iload_n dX10_hear_0 rfl ?_
  refine g_iconst (nI 1) dX10_hear_1 (by decide) ?_
  refine g_icmp_ltN 11 dX10_hear_2 (by decide) (by omega) (by omega) (fun c_2 => ?_) (fun c_2 => ?_)
  · exact absurd c_2 (by omega)
  · refine g_iload_n dX10_hear_5 rfl ?_
    refine g_bipush (nI 26) dX10_hear_6 (by decide) ?_
    refine g_icmp_leN 21 dX10_hear_8 (by decide) (by omega) (by omega) (fun c_8 => ?_) (fun c_8 => ?_)
    · refine g_aload_n dX10_hear_21 rfl ?_
      refine g_getf fl10_30 h0 rfl dX10_hear_22 ?_
      refine g_getf fl10_81 hB.1 rfl dX10_hear_25 ?_
      refine g_iload_n dX10_hear_28 rfl ?_
      refine g_callV0 kX10_169 (m5_hearLetter (nI k) hL) hS.1 rfl rfl rfl (Nat.le_of_ble_eq_true rfl) (by decide) (by decide) (by decide) (by decide) dX10_hear_29 ?_
      rintro v1 h2 z1 ⟨rfl, rfl, hL2, hO2⟩
      have hC2 := hC.sq hL2 (hO2.wide (by omega) (by omega))
      have h02 := (hO2 o (by omega)).trans h0
      have hB2 := hB.off hO2 (Or.inr (Or.inr ⟨rfl, by omega⟩))
      obtain ⟨nq2, I2, A2, hS2, rfl, -⟩ := id hL2
      refine g_aload_n dX10_hear_32 rfl ?_
      refine g_getf fl10_30 h02 rfl dX10_hear_33 ?_
      refine g_getf fl10_81 hB2.1 rfl dX10_hear_36 ?_
      refine g_getf fl10_85 hS2.1 rfl dX10_hear_39 ?_
      exact g_iret hE rfl (⟨rfl, rfl, hC2, hO2.wide (by omega) (by omega)⟩) dX10_hear_42
    · exact absurd c_8 (by omega)
set_option maxRecDepth 100000 in
set_option maxHeartbeats 4000000 in
theorem m10_mock {X : gX} {K : gKo} {h : gH} {z o n : Nat} {f : Nat → Int32} {P : PlM} {L : List Int32} {day car err : Int32} (k : Nat) (hk : k < P.1.1) (hC : ClsS X K h o n f P L day car err) : gM X yX10_mock cX10_mock 2 (some .int) (50, 0, 0) [.ref o, .int (nI k)] h z (fun r h' z' => r = some (.int (nI ((wl (P.1.2 k)).foldl hearL L).length)) ∧ z' = z ∧ ClsS X K h' o n f P ((wl (P.1.2 k)).foldl hearL L) (day) (car) err ∧ OffB h h' o 162) gNoX := by
  obtain ⟨pp, sp, ep, dp, er, ir, h0, hpp, hg, ⟨kf, S, T, la, kt, kd, st, en, hT⟩, hP, hSp, hPa, hTr, hok, hn⟩ := id hC
  obtain ⟨sk, fk, hB, hkk, hl2, hL⟩ := id hPa
  obtain ⟨nq, I, A, hS, rfl, hl, hA, -⟩ := id hL
  obtain ⟨S1, g1, wn1, wf1, oA1, oJ1, hPB, hPR⟩ := id hP
  refine gM.of px10 (Nat.le_of_ble_eq_true rfl) ?_
  intro F hE
  have hW := hP.word hok hk
  obtain ⟨fw, hWB, hWl, hWe⟩ := id hW
  refine g_aload_n dX10_mock_0 rfl ?_
  refine g_iload_n dX10_mock_1 rfl ?_
  refine g_callV0 kX10_144 (m10_checkInsult k hk hC) h0 rfl rfl rfl (Nat.le_of_ble_eq_true rfl) (by decide) (by decide) (by decide) (by decide) dX10_mock_2 ?_
  rintro v1 h2 z1 ⟨rfl, rfl, rfl⟩
  refine g_aload_n dX10_mock_5 rfl ?_
  refine g_getf fl10_30 h0 rfl dX10_mock_6 ?_
  refine g_getf fl10_81 hB.1 rfl dX10_mock_9 ?_
  refine g_aload_n dX10_mock_12 rfl ?_
  refine g_getf fl10_40 h0 rfl dX10_mock_13 ?_
  refine g_iload_n dX10_mock_16 rfl ?_
  refine g_callV0 kX10_147 (m4_insultAt k (by have := hok.1.1; omega) hPB) hPB.1 rfl rfl rfl (Nat.le_of_ble_eq_true rfl) (by decide) (by decide) (by decide) (by decide) dX10_mock_17 ?_
  rintro v1 h2 z1 ⟨rfl, rfl, rfl⟩
  refine g_callV0 kX10_172 (m5_hearWord hL hW (by have := hok.1.1; omega)) hS.1 rfl rfl rfl (Nat.le_of_ble_eq_true rfl) (by decide) (by decide) (by decide) (by decide) dX10_mock_20 ?_
  rintro v1 h2 z1 ⟨rfl, rfl, hL2, hO2⟩
  have hC2 := hC.sq hL2 (hO2.wide (by omega) (by omega))
  have h02 := (hO2 o (by omega)).trans h0
  have hB2 := hB.off hO2 (Or.inr (Or.inr ⟨rfl, by omega⟩))
  obtain ⟨nq2, I2, A2, hS2, rfl, -⟩ := id hL2
  refine g_aload_n dX10_mock_23 rfl ?_
  refine g_getf fl10_30 h02 rfl dX10_mock_24 ?_
  refine g_getf fl10_81 hB2.1 rfl dX10_mock_27 ?_
  refine g_getf fl10_85 hS2.1 rfl dX10_mock_30 ?_
  exact g_iret hE rfl (⟨rfl, rfl, hC2, hO2.wide (by omega) (by omega)⟩) dX10_mock_33
set_option maxRecDepth 100000 in
set_option maxHeartbeats 4000000 in
theorem m10_echo {X : gX} {K : gKo} {h : gH} {z o n : Nat} {f : Nat → Int32} {P : PlM} {L : List Int32} {day car err : Int32} (k : Nat) (hk1 : 1 ≤ k) (hk : k ≤ L.length) (hC : ClsS X K h o n f P L day car err) : gM X yX10_echo cX10_echo 2 (some .int) (50, 0, 0) [.ref o, .int (nI k)] h z (fun r h' z' => r = some (.int (nI ((L.drop (L.length - k)).foldl hearL L).length)) ∧ z' = z ∧ ClsS X K h' o n f P ((L.drop (L.length - k)).foldl hearL L) (day) (car) err ∧ OffB h h' o 162) gNoX := by
  obtain ⟨pp, sp, ep, dp, er, ir, h0, hpp, hg, ⟨kf, S, T, la, kt, kd, st, en, hT⟩, hP, hSp, hPa, hTr, hok, hn⟩ := id hC
  obtain ⟨sk, fk, hB, hkk, hl2, hL⟩ := id hPa
  obtain ⟨nq, I, A, hS, rfl, hl, hA, -⟩ := id hL
  obtain ⟨S1, g1, wn1, wf1, oA1, oJ1, hPB, hPR⟩ := id hP
  refine gM.of px10 (Nat.le_of_ble_eq_true rfl) ?_
  intro F hE
  have hcl : clampN (nI k) L.length = k := by rw [clampN_nI (by omega) (by omega)]; omega
  refine g_aload_n dX10_echo_0 rfl ?_
  refine g_iload_n dX10_echo_1 rfl ?_
  refine g_callV0 kX10_176 (m10_checkRemembered k hk1 hk hC) h0 rfl rfl rfl (Nat.le_of_ble_eq_true rfl) (by decide) (by decide) (by decide) (by decide) dX10_echo_2 ?_
  rintro v1 h2 z1 ⟨rfl, rfl, rfl⟩
  refine g_aload_n dX10_echo_5 rfl ?_
  refine g_getf fl10_30 h0 rfl dX10_echo_6 ?_
  refine g_getf fl10_81 hB.1 rfl dX10_echo_9 ?_
  refine g_iload_n dX10_echo_12 rfl ?_
  have hcon := fun z0 => m5_hearLastAgain (z := z0) (nI k) sqCa_k hL
  rw [hcl] at hcon
  refine g_callV0 kX10_179 ((hcon _)) hS.1 rfl rfl rfl (Nat.le_of_ble_eq_true rfl) (by decide) (by decide) (by decide) (by decide) dX10_echo_13 ?_
  rintro v1 h2 z1 ⟨rfl, rfl, hL2, hO2⟩
  have hC2 := hC.sq hL2 (hO2.wide (by omega) (by omega))
  have h02 := (hO2 o (by omega)).trans h0
  have hB2 := hB.off hO2 (Or.inr (Or.inr ⟨rfl, by omega⟩))
  obtain ⟨nq2, I2, A2, hS2, rfl, -⟩ := id hL2
  refine g_aload_n dX10_echo_16 rfl ?_
  refine g_getf fl10_30 h02 rfl dX10_echo_17 ?_
  refine g_getf fl10_81 hB2.1 rfl dX10_echo_20 ?_
  refine g_getf fl10_85 hS2.1 rfl dX10_echo_23 ?_
  exact g_iret hE rfl (⟨rfl, rfl, hC2, hO2.wide (by omega) (by omega)⟩) dX10_echo_26
set_option maxRecDepth 100000 in
set_option maxHeartbeats 4000000 in
theorem m10_forget {X : gX} {K : gKo} {h : gH} {z o n : Nat} {f : Nat → Int32} {P : PlM} {L : List Int32} {day car err : Int32} (k : Nat) (hk1 : 1 ≤ k) (hk : k ≤ L.length) (hC : ClsS X K h o n f P L day car err) : gM X yX10_forget cX10_forget 2 (some .int) (50, 0, 0) [.ref o, .int (nI k)] h z (fun r h' z' => r = some (.int (nI (L.drop k).length)) ∧ z' = z ∧ ClsS X K h' o n f P (L.drop k) (day) (car) err ∧ OffB h h' o 162) gNoX := by
  obtain ⟨pp, sp, ep, dp, er, ir, h0, hpp, hg, ⟨kf, S, T, la, kt, kd, st, en, hT⟩, hP, hSp, hPa, hTr, hok, hn⟩ := id hC
  obtain ⟨sk, fk, hB, hkk, hl2, hL⟩ := id hPa
  obtain ⟨nq, I, A, hS, rfl, hl, hA, -⟩ := id hL
  obtain ⟨S1, g1, wn1, wf1, oA1, oJ1, hPB, hPR⟩ := id hP
  refine gM.of px10 (Nat.le_of_ble_eq_true rfl) ?_
  intro F hE
  have hcl : clampN (nI k) L.length = k := by rw [clampN_nI (by omega) (by omega)]; omega
  refine g_aload_n dX10_forget_0 rfl ?_
  refine g_iload_n dX10_forget_1 rfl ?_
  refine g_callV0 kX10_176 (m10_checkRemembered k hk1 hk hC) h0 rfl rfl rfl (Nat.le_of_ble_eq_true rfl) (by decide) (by decide) (by decide) (by decide) dX10_forget_2 ?_
  rintro v1 h2 z1 ⟨rfl, rfl, rfl⟩
  refine g_aload_n dX10_forget_5 rfl ?_
  refine g_getf fl10_30 h0 rfl dX10_forget_6 ?_
  refine g_getf fl10_81 hB.1 rfl dX10_forget_9 ?_
  refine g_iload_n dX10_forget_12 rfl ?_
  have hcon := fun z0 => m5_forgetFirst (z := z0) (nI k) hL
  rw [hcl] at hcon
  refine g_callV0 kX10_182 ((hcon _)) hS.1 rfl rfl rfl (Nat.le_of_ble_eq_true rfl) (by decide) (by decide) (by decide) (by decide) dX10_forget_13 ?_
  rintro v1 h2 z1 ⟨rfl, rfl, hL2, hO2⟩
  have hC2 := hC.sq hL2 (hO2.wide (by omega) (by omega))
  have h02 := (hO2 o (by omega)).trans h0
  have hB2 := hB.off hO2 (Or.inr (Or.inr ⟨rfl, by omega⟩))
  obtain ⟨nq2, I2, A2, hS2, rfl, -⟩ := id hL2
  refine g_aload_n dX10_forget_16 rfl ?_
  refine g_getf fl10_30 h02 rfl dX10_forget_17 ?_
  refine g_getf fl10_81 hB2.1 rfl dX10_forget_20 ?_
  refine g_getf fl10_85 hS2.1 rfl dX10_forget_23 ?_
  exact g_iret hE rfl (⟨rfl, rfl, hC2, hO2.wide (by omega) (by omega)⟩) dX10_forget_26
set_option maxRecDepth 100000 in
set_option maxHeartbeats 4000000 in
theorem m10_mostSaid {X : gX} {K : gKo} {h : gH} {z o n : Nat} {f : Nat → Int32} {P : PlM} {L : List Int32} {day car err : Int32}  (hC : ClsS X K h o n f P L day car err) : gM X yX10_mostSaid cX10_mostSaid 5 (some .int) (50, 0, 0) [.ref o] h z (cA X K h z o n f P L day car err (oI (msU (fun i => cnt (stands L (wl (P.1.2 i))) L.length) P.1.1))) gNoX := by
  obtain ⟨pp, sp, ep, dp, er, ir, h0, hpp, hg, ⟨kf, S, T, la, kt, kd, st, en, hT⟩, hP, hSp, hPa, hTr, hok, hn⟩ := id hC
  obtain ⟨sk, fk, hB, hkk, hl2, hL⟩ := id hPa
  obtain ⟨nq, I, A, hS, rfl, hl, hA, -⟩ := id hL
  obtain ⟨S1, g1, wn1, wf1, oA1, oJ1, hPB, hPR⟩ := id hP
  refine gM.of px10 (Nat.le_of_ble_eq_true rfl) ?_
  intro F hE
  have h8 := hok.1.1
  obtain ⟨c, hcd⟩ : ∃ c : Nat → Nat, c = fun i => cnt (stands L (wl (P.1.2 i))) L.length := ⟨_, rfl⟩
  have hcl : ∀ i, c i ≤ 40 := fun i => by rw [hcd]; exact Nat.le_trans (cnt_le _ _) hl
  rw [← hcd] at hE
  have loop : ∀ (N k : Nat) (x : Option Value), k + N = P.1.1 → G X F cX10_mostSaid 5 yX10_mostSaid.cls (50, 0, 0) 0 0 6 [some (.ref o), some (.int (oI (msU c k))), some (.int (moV c (msU c k))), some (.int (nI k)), x] [] h z := by
    intro N
    induction N with
    | zero =>
      intro k x hk
      have hk2 : k = P.1.1 := by omega
      subst hk2
      refine g_iload_n dX10_mostSaid_6 rfl ?_
      refine g_aload_n dX10_mostSaid_7 rfl ?_
      refine g_getf fl10_40 h0 rfl dX10_mostSaid_8 ?_
      refine g_getf fl10_90 hPB.1 rfl dX10_mostSaid_11 ?_
      refine g_icmp_geN 54 dX10_mostSaid_14 (by decide) (by omega) (by omega) (fun c_14 => ?_) (fun c_14 => ?_)
      · refine g_iload_n dX10_mostSaid_54 rfl ?_
        exact g_iret hE rfl (⟨rfl, rfl, hC, OffB.rf⟩) dX10_mostSaid_55
      · exact absurd c_14 (by omega)
    | succ N ih =>
      intro k x hk
      have hW := hP.word hok (show k < P.1.1 by omega)
      have hu : msU c (k + 1) = match msU c k with
        | none => some k
        | some b => if c b < c k then some k else some b := rfl
      have nxt : ∀ (q : Option Nat) (y : Option Value), msU c (k + 1) = q → G X F cX10_mostSaid 5 yX10_mostSaid.cls (50, 0, 0) 0 0 48 [some (.ref o), some (.int (oI (q))), some (.int (moV c (q))), some (.int (nI k)), y] [] h z := by
        intro q y e
        subst e
        refine g_iincN dX10_mostSaid_48 rfl (by decide) rfl ?_
        refine g_goto 6 dX10_mostSaid_51 (by decide) ?_
        exact ih (k + 1) _ (by omega)
      cases hm : msU c k with
      | none =>
        rw [hm] at hu
        refine g_iload_n dX10_mostSaid_6 rfl ?_
        refine g_aload_n dX10_mostSaid_7 rfl ?_
        refine g_getf fl10_40 h0 rfl dX10_mostSaid_8 ?_
        refine g_getf fl10_90 hPB.1 rfl dX10_mostSaid_11 ?_
        refine g_icmp_geN 54 dX10_mostSaid_14 (by decide) (by omega) (by omega) (fun c_14 => ?_) (fun c_14 => ?_)
        · exact absurd c_14 (by omega)
        · refine g_aload_n dX10_mostSaid_17 rfl ?_
          refine g_getf fl10_30 h0 rfl dX10_mostSaid_18 ?_
          refine g_getf fl10_81 hB.1 rfl dX10_mostSaid_21 ?_
          refine g_aload_n dX10_mostSaid_24 rfl ?_
          refine g_getf fl10_40 h0 rfl dX10_mostSaid_25 ?_
          refine g_iload_n dX10_mostSaid_28 rfl ?_
          refine g_callV0 kX10_147 (m4_insultAt k (by have := hok.1.1; omega) hPB) hPB.1 rfl rfl rfl (Nat.le_of_ble_eq_true rfl) (by decide) (by decide) (by decide) (by decide) dX10_mostSaid_29 ?_
          rintro v1 h2 z1 ⟨rfl, rfl, rfl⟩
          refine g_callV0 kX10_154 (m5_placesWith hL hW) hS.1 rfl rfl rfl (Nat.le_of_ble_eq_true rfl) (by decide) (by decide) (by decide) (by decide) dX10_mostSaid_32 ?_
          rintro v1 h2 z1 ⟨rfl, rfl, rfl⟩
          rw [show cnt (stands L (wl (P.1.2 k))) L.length = c k from by rw [hcd]]
          refine g_istore dX10_mostSaid_35 (by decide) rfl ?_
          refine g_iload dX10_mostSaid_37 rfl ?_
          refine g_iload_n dX10_mostSaid_39 rfl ?_
          refine g_icmp_le 48 dX10_mostSaid_40 (by decide) (fun c_40 => ?_) (fun c_40 => ?_)
          · exact absurd c_40 (Int32.not_le.mpr (m1_lt (by have := hcl k; omega)))
          · refine g_iload dX10_mostSaid_43 rfl ?_
            refine g_istore_n dX10_mostSaid_45 (by decide) rfl ?_
            refine g_iload_n dX10_mostSaid_46 rfl ?_
            refine g_istore_n dX10_mostSaid_47 (by decide) rfl ?_
            exact nxt (some k) _ hu
      | some b =>
        rw [hm] at hu
        have hu2 : msU c (k + 1) = if c b < c k then some k else some b := hu
        have hbb := hcl b
        have hbk := hcl k
        refine g_iload_n dX10_mostSaid_6 rfl ?_
        refine g_aload_n dX10_mostSaid_7 rfl ?_
        refine g_getf fl10_40 h0 rfl dX10_mostSaid_8 ?_
        refine g_getf fl10_90 hPB.1 rfl dX10_mostSaid_11 ?_
        refine g_icmp_geN 54 dX10_mostSaid_14 (by decide) (by omega) (by omega) (fun c_14 => ?_) (fun c_14 => ?_)
        · exact absurd c_14 (by omega)
        · refine g_aload_n dX10_mostSaid_17 rfl ?_
          refine g_getf fl10_30 h0 rfl dX10_mostSaid_18 ?_
          refine g_getf fl10_81 hB.1 rfl dX10_mostSaid_21 ?_
          refine g_aload_n dX10_mostSaid_24 rfl ?_
          refine g_getf fl10_40 h0 rfl dX10_mostSaid_25 ?_
          refine g_iload_n dX10_mostSaid_28 rfl ?_
          refine g_callV0 kX10_147 (m4_insultAt k (by have := hok.1.1; omega) hPB) hPB.1 rfl rfl rfl (Nat.le_of_ble_eq_true rfl) (by decide) (by decide) (by decide) (by decide) dX10_mostSaid_29 ?_
          rintro v1 h2 z1 ⟨rfl, rfl, rfl⟩
          refine g_callV0 kX10_154 (m5_placesWith hL hW) hS.1 rfl rfl rfl (Nat.le_of_ble_eq_true rfl) (by decide) (by decide) (by decide) (by decide) dX10_mostSaid_32 ?_
          rintro v1 h2 z1 ⟨rfl, rfl, rfl⟩
          rw [show cnt (stands L (wl (P.1.2 k))) L.length = c k from by rw [hcd]]
          refine g_istore dX10_mostSaid_35 (by decide) rfl ?_
          refine g_iload dX10_mostSaid_37 rfl ?_
          refine g_iload_n dX10_mostSaid_39 rfl ?_
          refine g_icmp_le 48 dX10_mostSaid_40 (by decide) (fun c_40 => ?_) (fun c_40 => ?_)
          · exact nxt (some b) _ (by rw [hu2, if_neg (fun w => absurd ((nI_leI (by omega) (by omega)).mp c_40) (by omega))])
          · refine g_iload dX10_mostSaid_43 rfl ?_
            refine g_istore_n dX10_mostSaid_45 (by decide) rfl ?_
            refine g_iload_n dX10_mostSaid_46 rfl ?_
            refine g_istore_n dX10_mostSaid_47 (by decide) rfl ?_
            exact nxt (some k) _ (by rw [hu2, if_pos (Nat.not_le.mp (fun w => c_40 ((nI_leI (by omega) (by omega)).mpr w)))])
  refine g_iconst (-1) dX10_mostSaid_0 (by decide) ?_
  refine g_istore_n dX10_mostSaid_1 (by decide) rfl ?_
  refine g_iconst (-1) dX10_mostSaid_2 (by decide) ?_
  refine g_istore_n dX10_mostSaid_3 (by decide) rfl ?_
  refine g_iconst (nI 0) dX10_mostSaid_4 (by decide) ?_
  refine g_istore_n dX10_mostSaid_5 (by decide) rfl ?_
  exact loop P.1.1 0 _ (by omega)
set_option maxRecDepth 100000 in
set_option maxHeartbeats 4000000 in
theorem m10_passDays {X : gX} {K : gKo} {h : gH} {z o n : Nat} {f : Nat → Int32} {P : PlM} {L : List Int32} {day car err : Int32} (hK : gCo X K) (k : Nat) (hk1 : 1 ≤ k) (hk : k ≤ 30) (hC : ClsS X K h o n f P L day car err) : gM X yX10_passDays cX10_passDays 3 (some .int) (50, 0, 0) [.ref o, .int (nI k)] h z (fun r h' z' => r = some (.int ((dyU P ((L, car), day) k).1.2 - car)) ∧ z' = z ∧ ClsS X K h' o n f P ((dyU P ((L, car), day) k).1.1) ((dyU P ((L, car), day) k).2) ((dyU P ((L, car), day) k).1.2) err ∧ OffB h h' o 162) gNoX := by
  obtain ⟨pp, sp, ep, dp, er, ir, h0, hpp, hg, ⟨kf, S, T, la, kt, kd, st, en, hT⟩, hP, hSp, hPa, hTr, hok, hn⟩ := id hC
  obtain ⟨sk, fk, hB, hkk, hl2, hL⟩ := id hPa
  obtain ⟨nq, I, A, hS, rfl, hl, hA, -⟩ := id hL
  obtain ⟨S1, g1, wn1, wf1, oA1, oJ1, hPB, hPR⟩ := id hP
  refine gM.of px10 (Nat.le_of_ble_eq_true rfl) ?_
  intro F hE
  refine g_aload_n dX10_passDays_0 rfl ?_
  refine g_iload_n dX10_passDays_1 rfl ?_
  refine g_callV0 kX10_185 (m10_checkDays k hk1 hk hC) h0 rfl rfl rfl (Nat.le_of_ble_eq_true rfl) (by decide) (by decide) (by decide) (by decide) dX10_passDays_2 ?_
  rintro v1 h2 z1 ⟨rfl, rfl, rfl⟩
  refine g_aload_n dX10_passDays_5 rfl ?_
  refine g_getf fl10_30 h0 rfl dX10_passDays_6 ?_
  refine g_getf fl10_96 hB.1 rfl dX10_passDays_9 ?_
  refine g_istore_n dX10_passDays_12 (by decide) rfl ?_
  refine g_aload_n dX10_passDays_13 rfl ?_
  refine g_getf fl10_30 h0 rfl dX10_passDays_14 ?_
  refine g_iload_n dX10_passDays_17 rfl ?_
  refine g_aload_n dX10_passDays_18 rfl ?_
  refine g_getf fl10_40 h0 rfl dX10_passDays_19 ?_
  refine g_callV0 kX10_188 (m3_liveDays k hk hok hK hP (show ApP pp (o + 77) by unfold ApP; omega) hPa) hB.1 rfl rfl rfl (Nat.le_of_ble_eq_true rfl) (by decide) (by decide) (by decide) (by decide) dX10_passDays_22 ?_
  rintro v1 h2 z1 ⟨rfl, rfl, hPa2, hO2⟩
  have hC2 := hC.pa hPa2 hO2
  have h02 := (hO2 o (by omega)).trans h0
  obtain ⟨sk2, fk2, hB2, -⟩ := id hPa2
  refine g_aload_n dX10_passDays_25 rfl ?_
  refine g_getf fl10_30 h02 rfl dX10_passDays_26 ?_
  refine g_getf fl10_96 hB2.1 rfl dX10_passDays_29 ?_
  refine g_iload_n dX10_passDays_32 rfl ?_
  refine g_isub dX10_passDays_33 ?_
  exact g_iret hE rfl (⟨rfl, rfl, hC2, hO2.wide (by omega) (by omega)⟩) dX10_passDays_34
set_option maxRecDepth 100000 in
set_option maxHeartbeats 4000000 in
theorem m10_repeatAfter {X : gX} {K : gKo} {h : gH} {z o n : Nat} {f : Nat → Int32} {P : PlM} {L : List Int32} {day car err : Int32} (hK : gCo X K) (k : Nat) (hk1 : 1 ≤ k) (hk : k ≤ 30) (hC : ClsS X K h o n f P L day car err) : gM X yX10_repeatAfter cX10_repeatAfter 2 (some .int) (50, 0, 0) [.ref o, .int (nI k)] h z (cA X K h z o n f P L day car err (nI (lon (dyU P ((L, car), day) k).1.1))) gNoX := by
  obtain ⟨pp, sp, ep, dp, er, ir, h0, hpp, hg, ⟨kf, S, T, la, kt, kd, st, en, hT⟩, hP, hSp, hPa, hTr, hok, hn⟩ := id hC
  obtain ⟨sk, fk, hB, hkk, hl2, hL⟩ := id hPa
  obtain ⟨nq, I, A, hS, rfl, hl, hA, -⟩ := id hL
  obtain ⟨S1, g1, wn1, wf1, oA1, oJ1, hPB, hPR⟩ := id hP
  obtain ⟨L1, d1, c1, hTr0⟩ := id hTr
  obtain ⟨sk1, fk1, hB1, -⟩ := id hTr0
  refine gM.of px10 (Nat.le_of_ble_eq_true rfl) ?_
  intro F hE
  refine g_aload_n dX10_repeatAfter_0 rfl ?_
  refine g_iload_n dX10_repeatAfter_1 rfl ?_
  refine g_callV0 kX10_185 (m10_checkDays k hk1 hk hC) h0 rfl rfl rfl (Nat.le_of_ble_eq_true rfl) (by decide) (by decide) (by decide) (by decide) dX10_repeatAfter_2 ?_
  rintro v1 h2 z1 ⟨rfl, rfl, rfl⟩
  refine g_aload_n dX10_repeatAfter_5 rfl ?_
  refine g_getf fl10_34 h0 rfl dX10_repeatAfter_6 ?_
  refine g_aload_n dX10_repeatAfter_9 rfl ?_
  refine g_getf fl10_30 h0 rfl dX10_repeatAfter_10 ?_
  refine g_callV0 kX10_192 (m3_becomeLike hTr0 hPa (by omega)) hB1.1 rfl rfl rfl (Nat.le_of_ble_eq_true rfl) (by decide) (by decide) (by decide) (by decide) dX10_repeatAfter_13 ?_
  rintro v1 h2 z1 ⟨rfl, rfl, hT2, hO2⟩
  have h02 := (hO2 o (by omega)).trans h0
  have hP2 := hP.off hO2 (by omega)
  have hC2 := hC.tr hT2 hO2
  obtain ⟨sk2, fk2, hB2, -⟩ := id hT2
  obtain ⟨S2, g2, wn2, wf2, oA2, oJ2, hPB2, -⟩ := id hP2
  refine g_aload_n dX10_repeatAfter_16 rfl ?_
  refine g_getf fl10_34 h02 rfl dX10_repeatAfter_17 ?_
  refine g_iload_n dX10_repeatAfter_20 rfl ?_
  refine g_aload_n dX10_repeatAfter_21 rfl ?_
  refine g_getf fl10_40 h02 rfl dX10_repeatAfter_22 ?_
  refine g_callV0 kX10_188 (m3_liveDays k hk hok hK hP2 (show ApP pp (o + 85) by unfold ApP; omega) hT2) hB2.1 rfl rfl rfl (Nat.le_of_ble_eq_true rfl) (by decide) (by decide) (by decide) (by decide) dX10_repeatAfter_25 ?_
  rintro v1 h3 z1 ⟨rfl, rfl, hT3, hO3⟩
  have h03 := (hO3 o (by omega)).trans h02
  have hC3 := hC2.tr hT3 hO3
  obtain ⟨sk3, fk3, hB3, hkk3, hl3, hL3⟩ := id hT3
  obtain ⟨nq3, I3, A3, hS3, -⟩ := id hL3
  refine g_aload_n dX10_repeatAfter_28 rfl ?_
  refine g_getf fl10_34 h03 rfl dX10_repeatAfter_29 ?_
  refine g_getf fl10_81 hB3.1 rfl dX10_repeatAfter_32 ?_
  refine g_callV0 kX10_123 (m5_longestRepeated hL3) hS3.1 rfl rfl rfl (Nat.le_of_ble_eq_true rfl) (by decide) (by decide) (by decide) (by decide) dX10_repeatAfter_35 ?_
  rintro v1 h4 z1 ⟨rfl, rfl, hL4, hO4⟩
  have hO4w := hO4.wide (b := o + 85 + 1) (m := 6) (by omega) (by omega)
  have hT4 := hT3.sq hL4 hO4w
  have hO48 := hO4w.wide (b := o + 85) (m := 8) (by omega) (by omega)
  exact g_iret hE rfl (⟨rfl, rfl, hC3.tr hT4 hO48, ((hO2.trans hO3).trans hO48).wide (by omega) (by omega)⟩) dX10_repeatAfter_38
set_option maxRecDepth 100000 in
set_option maxHeartbeats 4000000 in
theorem m10_daysUntilKnown {X : gX} {K : gKo} {h : gH} {z o n : Nat} {f : Nat → Int32} {P : PlM} {L : List Int32} {day car err : Int32} (hK : gCo X K) (k : Nat) (hk : k < P.1.1) (hC : ClsS X K h o n f P L day car err) : gM X yX10_daysUntilKnown cX10_daysUntilKnown 4 (some .int) (50, 0, 0) [.ref o, .int (nI k)] h z (cA X K h z o n f P L day car err (oI (unA P (wl (P.1.2 k)) ((L, car), day) 31 0))) gNoX := by
  obtain ⟨pp, sp, ep, dp, er, ir, h0, hpp, hg, ⟨kf, S, T, la, kt, kd, st, en, hT⟩, hP, hSp, hPa, hTr, hok, hn⟩ := id hC
  obtain ⟨sk, fk, hB, hkk, hl2, hL⟩ := id hPa
  obtain ⟨nq, I, A, hS, rfl, hl, hA, -⟩ := id hL
  obtain ⟨S1, g1, wn1, wf1, oA1, oJ1, hPB, hPR⟩ := id hP
  obtain ⟨L1, d1, c1, hTr0⟩ := id hTr
  obtain ⟨sk1, fk1, hB1, -⟩ := id hTr0
  refine gM.of px10 (Nat.le_of_ble_eq_true rfl) ?_
  intro F hE
  have loop : ∀ (N d : Nat) (h1 : gH), d + N = 31 → ClsS X K h1 o n f P L day car err → h1 o = h o → PlC X K h1 pp P → PaT X h1 (o + 85) (dyU P ((L, car), day) d).1.1 (dyU P ((L, car), day) d).2 (dyU P ((L, car), day) d).1.2 → OffB h h1 o 162 → unA P (wl (P.1.2 k)) ((L, car), day) 31 0 = unA P (wl (P.1.2 k)) ((L, car), day) N d → G X F cX10_daysUntilKnown 4 yX10_daysUntilKnown.cls (50, 0, 0) 0 0 27 [some (.ref o), some (.int (nI k)), some (.ref (pp + 5 + 2 * k)), some (.int (nI d))] [] h1 z := by
    intro N
    induction N with
    | zero =>
      intro d h1 hd hC1 he1 hP1 hT1 hO1 hu
      rw [hu] at hE
      refine g_iload_n dX10_daysUntilKnown_27 rfl ?_
      refine g_bipush (nI 30) dX10_daysUntilKnown_28 (by decide) ?_
      refine g_icmp_gtN 67 dX10_daysUntilKnown_30 (by decide) (by omega) (by omega) (fun c_30 => ?_) (fun c_30 => ?_)
      · refine g_iconst (-1) dX10_daysUntilKnown_67 (by decide) ?_
        exact g_iret hE rfl (⟨rfl, rfl, hC1, hO1⟩) dX10_daysUntilKnown_68
      · exact absurd c_30 (by omega)
    | succ N ih =>
      intro d h1 hd hC1 he1 hP1 hT1 hO1 hu
      have h01 := he1.trans h0
      obtain ⟨sk2, fk2, hB2, hkk2, hl2b, hL2⟩ := id hT1
      obtain ⟨nq2, I2, A2, hS2, -⟩ := id hL2
      have hW := hP1.word hok hk
      have hu2 : unA P (wl (P.1.2 k)) ((L, car), day) (N + 1) d = if (fstA (stands (dyU P ((L, car), day) d).1.1 (wl (P.1.2 k))) (dyU P ((L, car), day) d).1.1.length 0).isSome = true then some d else unA P (wl (P.1.2 k)) ((L, car), day) N (d + 1) := rfl
      refine g_iload_n dX10_daysUntilKnown_27 rfl ?_
      refine g_bipush (nI 30) dX10_daysUntilKnown_28 (by decide) ?_
      refine g_icmp_gtN 67 dX10_daysUntilKnown_30 (by decide) (by omega) (by omega) (fun c_30 => ?_) (fun c_30 => ?_)
      · exact absurd c_30 (by omega)
      · refine g_aload_n dX10_daysUntilKnown_33 rfl ?_
        refine g_getf fl10_34 h01 rfl dX10_daysUntilKnown_34 ?_
        refine g_getf fl10_81 hB2.1 rfl dX10_daysUntilKnown_37 ?_
        refine g_aload_n dX10_daysUntilKnown_40 rfl ?_
        refine g_callV0 kX10_196 (m5_isKnown hL2 hW) hS2.1 rfl rfl rfl (Nat.le_of_ble_eq_true rfl) (by decide) (by decide) (by decide) (by decide) dX10_daysUntilKnown_41 ?_
        rintro v1 h2 z1 ⟨rfl, rfl, rfl⟩
        refine g_if_eqB 49 dX10_daysUntilKnown_44 (by decide) (fun c_44 => ?_) (fun c_44 => ?_)
        · have hu3 := hu.trans (hu2.trans (if_neg (by rw [c_44]; decide)))
          refine g_aload_n dX10_daysUntilKnown_49 rfl ?_
          refine g_getf fl10_34 h01 rfl dX10_daysUntilKnown_50 ?_
          refine g_iconst (nI 1) dX10_daysUntilKnown_53 (by decide) ?_
          refine g_aload_n dX10_daysUntilKnown_54 rfl ?_
          refine g_getf fl10_40 h01 rfl dX10_daysUntilKnown_55 ?_
          have hlv := fun z0 => m3_liveDays (z := z0) 1 (by decide) hok hK hP1 (show ApP pp (o + 85) by unfold ApP; omega) hT1
          refine g_callV0 kX10_188 ((hlv _)) hB2.1 rfl rfl rfl (Nat.le_of_ble_eq_true rfl) (by decide) (by decide) (by decide) (by decide) dX10_daysUntilKnown_58 ?_
          rintro v1 h3 z1 ⟨rfl, rfl, hT3, hO3⟩
          refine g_iincN dX10_daysUntilKnown_61 rfl (by decide) rfl ?_
          refine g_goto 27 dX10_daysUntilKnown_64 (by decide) ?_
          exact ih (d + 1) h3 (by omega) (hC1.tr hT3 hO3) ((hO3 o (by omega)).trans he1) (hP1.off hO3 (by omega)) hT3 (hO1.trans (hO3.wide (by omega) (by omega))) hu3
        · rw [hu, hu2, if_pos c_44] at hE
          refine g_iload_n dX10_daysUntilKnown_47 rfl ?_
          exact g_iret hE rfl (⟨rfl, rfl, hC1, hO1⟩) dX10_daysUntilKnown_48
  refine g_aload_n dX10_daysUntilKnown_0 rfl ?_
  refine g_iload_n dX10_daysUntilKnown_1 rfl ?_
  refine g_callV0 kX10_144 (m10_checkInsult k hk hC) h0 rfl rfl rfl (Nat.le_of_ble_eq_true rfl) (by decide) (by decide) (by decide) (by decide) dX10_daysUntilKnown_2 ?_
  rintro v1 h2 z1 ⟨rfl, rfl, rfl⟩
  refine g_aload_n dX10_daysUntilKnown_5 rfl ?_
  refine g_getf fl10_40 h0 rfl dX10_daysUntilKnown_6 ?_
  refine g_iload_n dX10_daysUntilKnown_9 rfl ?_
  refine g_callV0 kX10_147 (m4_insultAt k (by have := hok.1.1; omega) hPB) hPB.1 rfl rfl rfl (Nat.le_of_ble_eq_true rfl) (by decide) (by decide) (by decide) (by decide) dX10_daysUntilKnown_10 ?_
  rintro v1 h2 z1 ⟨rfl, rfl, rfl⟩
  refine g_astore_n dX10_daysUntilKnown_13 (by decide) rfl ?_
  refine g_aload_n dX10_daysUntilKnown_14 rfl ?_
  refine g_getf fl10_34 h0 rfl dX10_daysUntilKnown_15 ?_
  refine g_aload_n dX10_daysUntilKnown_18 rfl ?_
  refine g_getf fl10_30 h0 rfl dX10_daysUntilKnown_19 ?_
  refine g_callV0 kX10_192 (m3_becomeLike hTr0 hPa (by omega)) hB1.1 rfl rfl rfl (Nat.le_of_ble_eq_true rfl) (by decide) (by decide) (by decide) (by decide) dX10_daysUntilKnown_22 ?_
  rintro v1 h2 z1 ⟨rfl, rfl, hT2, hO2⟩
  refine g_iconst (nI 0) dX10_daysUntilKnown_25 (by decide) ?_
  refine g_istore_n dX10_daysUntilKnown_26 (by decide) rfl ?_
  exact loop 31 0 h2 rfl (hC.tr hT2 hO2) (hO2 o (by omega)) (hP.off hO2 (by omega)) hT2 (hO2.wide (by omega) (by omega)) rfl
set_option maxRecDepth 100000 in
set_option maxHeartbeats 4000000 in
theorem m10_bestLetter {X : gX} {K : gKo} {h : gH} {z o n : Nat} {f : Nat → Int32} {P : PlM} {L : List Int32} {day car err : Int32}  (hC : ClsS X K h o n f P L day car err) : gM X yX10_bestLetter cX10_bestLetter 5 (some .int) (50, 0, 0) [.ref o] h z (cA X K h z o n f P L day car err (brV 1 (msU (beC L) 26))) gNoX := by
  obtain ⟨pp, sp, ep, dp, er, ir, h0, hpp, hg, ⟨kf, S, T, la, kt, kd, st, en, hT⟩, hP, hSp, hPa, hTr, hok, hn⟩ := id hC
  obtain ⟨sk, fk, hB, hkk, hl2, hL⟩ := id hPa
  obtain ⟨nq, I, A, hS, rfl, hl, hA, -⟩ := id hL
  obtain ⟨S1, g1, wn1, wf1, oA1, oJ1, hPB, hPR⟩ := id hP
  refine gM.of px10 (Nat.le_of_ble_eq_true rfl) ?_
  intro F hE
  obtain ⟨L1, d1, c1, hTr0⟩ := id hTr
  have loop : ∀ (N k : Nat) (x : Option Value) (h1 : gH) (L1 : List Int32) (d1 c1 : Int32), k + N = 26 → ClsS X K h1 o n f P L day car err → h1 o = h o → PaT X h1 (o + 77) L day car → PaT X h1 (o + 85) L1 d1 c1 → OffB h h1 o 162 → G X F cX10_bestLetter 5 yX10_bestLetter.cls (50, 0, 0) 0 0 6 [some (.ref o), some (.int (brV 1 (msU (beC L) k))), some (.int (moV (beC L) (msU (beC L) k))), some (.int (nI (k + 1))), x] [] h1 z := by
    intro N
    induction N with
    | zero =>
      intro k x h1 L1 d1 c1 hk hC1 he1 hq1 hT1 hO1
      have hk26 : k = 26 := by omega
      subst hk26
      refine g_iload_n dX10_bestLetter_6 rfl ?_
      refine g_bipush (nI 26) dX10_bestLetter_7 (by decide) ?_
      refine g_icmp_gtN 69 dX10_bestLetter_9 (by decide) (by omega) (by omega) (fun c_9 => ?_) (fun c_9 => ?_)
      · refine g_iload_n dX10_bestLetter_69 rfl ?_
        exact g_iret hE rfl (⟨rfl, rfl, hC1, hO1⟩) dX10_bestLetter_70
      · exact absurd c_9 (by omega)
    | succ N ih =>
      intro k x h1 L1 d1 c1 hk hC1 he1 hq1 hT1 hO1
      have h01 := he1.trans h0
      have hb := beC_le hl
      obtain ⟨sk1, fk1, hB1, hkk1, hl1b, hL1⟩ := id hT1
      obtain ⟨nq1, I1, A1, hS1, -⟩ := id hL1
      obtain ⟨sk0, fk0, hB0, hkk0, hl0b, hL0⟩ := id hq1
      have hu : msU (beC L) (k + 1) = match msU (beC L) k with
        | none => some k
        | some b => if beC L b < beC L k then some k else some b := rfl
      have nxt : ∀ (q : Option Nat) (h2 : gH) (L2 : List Int32) (d2 c2 : Int32) (y : Option Value), msU (beC L) (k + 1) = q → ClsS X K h2 o n f P L day car err → h2 o = h o → PaT X h2 (o + 77) L day car → PaT X h2 (o + 85) L2 d2 c2 → OffB h h2 o 162 → G X F cX10_bestLetter 5 yX10_bestLetter.cls (50, 0, 0) 0 0 63 [some (.ref o), some (.int (brV 1 (q))), some (.int (moV (beC L) (q))), some (.int (nI (k + 1))), y] [] h2 z := by
        intro q h2 L2 d2 c2 y e hC2 he2 hq2 hT2 hO2
        subst e
        refine g_iincN dX10_bestLetter_63 rfl (by decide) rfl ?_
        refine g_goto 6 dX10_bestLetter_66 (by decide) ?_
        exact ih (k + 1) _ h2 L2 d2 c2 (by omega) hC2 he2 hq2 hT2 hO2
      cases hm : msU (beC L) k with
      | none =>
        rw [hm] at hu
        refine g_iload_n dX10_bestLetter_6 rfl ?_
        refine g_bipush (nI 26) dX10_bestLetter_7 (by decide) ?_
        refine g_icmp_gtN 69 dX10_bestLetter_9 (by decide) (by omega) (by omega) (fun c_9 => ?_) (fun c_9 => ?_)
        · exact absurd c_9 (by omega)
        · refine g_aload_n dX10_bestLetter_12 rfl ?_
          refine g_getf fl10_34 h01 rfl dX10_bestLetter_13 ?_
          refine g_getf fl10_81 hB1.1 rfl dX10_bestLetter_16 ?_
          refine g_aload_n dX10_bestLetter_19 rfl ?_
          refine g_getf fl10_30 h01 rfl dX10_bestLetter_20 ?_
          refine g_getf fl10_81 hB0.1 rfl dX10_bestLetter_23 ?_
          refine g_callV0 kX10_200 (m5_becomeLike hL1 hL0 (by omega)) hS1.1 rfl rfl rfl (Nat.le_of_ble_eq_true rfl) (by decide) (by decide) (by decide) (by decide) dX10_bestLetter_26 ?_
          rintro v1 h2 z1 ⟨rfl, rfl, hL2, hO2⟩
          have hW2 := hO2.wide (b := o + 85 + 1) (m := 6) (by omega) (by omega)
          have hV2 := hO2.wide (b := o + 85) (m := 8) (by omega) (by omega)
          have hT2 := hT1.sq hL2 hW2
          have hC2 := hC1.tr hT2 hV2
          have he2 : h2 o = h o := (hO2 o (by omega)).trans he1
          have h02 := he2.trans h0
          have hq2 := hq1.off hV2 (by omega)
          obtain ⟨sk2, fk2, hB2, -⟩ := id hT2
          obtain ⟨nq2, I2, A2, hS2, -⟩ := id hL2
          refine g_aload_n dX10_bestLetter_29 rfl ?_
          refine g_getf fl10_34 h02 rfl dX10_bestLetter_30 ?_
          refine g_getf fl10_81 hB2.1 rfl dX10_bestLetter_33 ?_
          refine g_iload_n dX10_bestLetter_36 rfl ?_
          refine g_callV0 kX10_169 (m5_hearLetter (nI (k + 1)) hL2) hS2.1 rfl rfl rfl (Nat.le_of_ble_eq_true rfl) (by decide) (by decide) (by decide) (by decide) dX10_bestLetter_37 ?_
          rintro v1 h3 z1 ⟨rfl, rfl, hL3, hO3⟩
          have hW3 := hO3.wide (b := o + 85 + 1) (m := 6) (by omega) (by omega)
          have hV3 := hO3.wide (b := o + 85) (m := 8) (by omega) (by omega)
          have hT3 := hT2.sq hL3 hW3
          have hC3 := hC2.tr hT3 hV3
          have he3 : h3 o = h o := (hO3 o (by omega)).trans he2
          have h03 := he3.trans h0
          have hq3 := hq2.off hV3 (by omega)
          obtain ⟨sk3, fk3, hB3, -⟩ := id hT3
          obtain ⟨nq3, I3, A3, hS3, -⟩ := id hL3
          refine g_aload_n dX10_bestLetter_40 rfl ?_
          refine g_getf fl10_34 h03 rfl dX10_bestLetter_41 ?_
          refine g_getf fl10_81 hB3.1 rfl dX10_bestLetter_44 ?_
          refine g_callV0 kX10_123 (m5_longestRepeated hL3) hS3.1 rfl rfl rfl (Nat.le_of_ble_eq_true rfl) (by decide) (by decide) (by decide) (by decide) dX10_bestLetter_47 ?_
          rintro v1 h4 z1 ⟨rfl, rfl, hL4, hO4⟩
          have hW4 := hO4.wide (b := o + 85 + 1) (m := 6) (by omega) (by omega)
          have hV4 := hO4.wide (b := o + 85) (m := 8) (by omega) (by omega)
          have hT4 := hT3.sq hL4 hW4
          have hC4 := hC3.tr hT4 hV4
          have he4 : h4 o = h o := (hO4 o (by omega)).trans he3
          have h04 := he4.trans h0
          have hq4 := hq3.off hV4 (by omega)
          obtain ⟨sk4, fk4, hB4, -⟩ := id hT4
          obtain ⟨nq4, I4, A4, hS4, -⟩ := id hL4
          rw [show lon (hearL L (nI (k + 1))) = beC L k from rfl]
          refine g_istore dX10_bestLetter_50 (by decide) rfl ?_
          refine g_iload dX10_bestLetter_52 rfl ?_
          refine g_iload_n dX10_bestLetter_54 rfl ?_
          refine g_icmp_le 63 dX10_bestLetter_55 (by decide) (fun c_55 => ?_) (fun c_55 => ?_)
          · exact absurd c_55 (Int32.not_le.mpr (m1_lt (b := beC L k) (by have := hb k; omega)))
          · refine g_iload dX10_bestLetter_58 rfl ?_
            refine g_istore_n dX10_bestLetter_60 (by decide) rfl ?_
            refine g_iload_n dX10_bestLetter_61 rfl ?_
            refine g_istore_n dX10_bestLetter_62 (by decide) rfl ?_
            exact nxt (some k) h4 _ _ _ _ hu hC4 he4 hq4 hT4 (hO1.trans ((hV2.trans (hV3.trans hV4)).wide (by omega) (by omega)))
      | some b =>
        rw [hm] at hu
        have hu2 : msU (beC L) (k + 1) = if beC L b < beC L k then some k else some b := hu
        have hbb := hb b
        have hbk := hb k
        refine g_iload_n dX10_bestLetter_6 rfl ?_
        refine g_bipush (nI 26) dX10_bestLetter_7 (by decide) ?_
        refine g_icmp_gtN 69 dX10_bestLetter_9 (by decide) (by omega) (by omega) (fun c_9 => ?_) (fun c_9 => ?_)
        · exact absurd c_9 (by omega)
        · refine g_aload_n dX10_bestLetter_12 rfl ?_
          refine g_getf fl10_34 h01 rfl dX10_bestLetter_13 ?_
          refine g_getf fl10_81 hB1.1 rfl dX10_bestLetter_16 ?_
          refine g_aload_n dX10_bestLetter_19 rfl ?_
          refine g_getf fl10_30 h01 rfl dX10_bestLetter_20 ?_
          refine g_getf fl10_81 hB0.1 rfl dX10_bestLetter_23 ?_
          refine g_callV0 kX10_200 (m5_becomeLike hL1 hL0 (by omega)) hS1.1 rfl rfl rfl (Nat.le_of_ble_eq_true rfl) (by decide) (by decide) (by decide) (by decide) dX10_bestLetter_26 ?_
          rintro v1 h2 z1 ⟨rfl, rfl, hL2, hO2⟩
          have hW2 := hO2.wide (b := o + 85 + 1) (m := 6) (by omega) (by omega)
          have hV2 := hO2.wide (b := o + 85) (m := 8) (by omega) (by omega)
          have hT2 := hT1.sq hL2 hW2
          have hC2 := hC1.tr hT2 hV2
          have he2 : h2 o = h o := (hO2 o (by omega)).trans he1
          have h02 := he2.trans h0
          have hq2 := hq1.off hV2 (by omega)
          obtain ⟨sk2, fk2, hB2, -⟩ := id hT2
          obtain ⟨nq2, I2, A2, hS2, -⟩ := id hL2
          refine g_aload_n dX10_bestLetter_29 rfl ?_
          refine g_getf fl10_34 h02 rfl dX10_bestLetter_30 ?_
          refine g_getf fl10_81 hB2.1 rfl dX10_bestLetter_33 ?_
          refine g_iload_n dX10_bestLetter_36 rfl ?_
          refine g_callV0 kX10_169 (m5_hearLetter (nI (k + 1)) hL2) hS2.1 rfl rfl rfl (Nat.le_of_ble_eq_true rfl) (by decide) (by decide) (by decide) (by decide) dX10_bestLetter_37 ?_
          rintro v1 h3 z1 ⟨rfl, rfl, hL3, hO3⟩
          have hW3 := hO3.wide (b := o + 85 + 1) (m := 6) (by omega) (by omega)
          have hV3 := hO3.wide (b := o + 85) (m := 8) (by omega) (by omega)
          have hT3 := hT2.sq hL3 hW3
          have hC3 := hC2.tr hT3 hV3
          have he3 : h3 o = h o := (hO3 o (by omega)).trans he2
          have h03 := he3.trans h0
          have hq3 := hq2.off hV3 (by omega)
          obtain ⟨sk3, fk3, hB3, -⟩ := id hT3
          obtain ⟨nq3, I3, A3, hS3, -⟩ := id hL3
          refine g_aload_n dX10_bestLetter_40 rfl ?_
          refine g_getf fl10_34 h03 rfl dX10_bestLetter_41 ?_
          refine g_getf fl10_81 hB3.1 rfl dX10_bestLetter_44 ?_
          refine g_callV0 kX10_123 (m5_longestRepeated hL3) hS3.1 rfl rfl rfl (Nat.le_of_ble_eq_true rfl) (by decide) (by decide) (by decide) (by decide) dX10_bestLetter_47 ?_
          rintro v1 h4 z1 ⟨rfl, rfl, hL4, hO4⟩
          have hW4 := hO4.wide (b := o + 85 + 1) (m := 6) (by omega) (by omega)
          have hV4 := hO4.wide (b := o + 85) (m := 8) (by omega) (by omega)
          have hT4 := hT3.sq hL4 hW4
          have hC4 := hC3.tr hT4 hV4
          have he4 : h4 o = h o := (hO4 o (by omega)).trans he3
          have h04 := he4.trans h0
          have hq4 := hq3.off hV4 (by omega)
          obtain ⟨sk4, fk4, hB4, -⟩ := id hT4
          obtain ⟨nq4, I4, A4, hS4, -⟩ := id hL4
          rw [show lon (hearL L (nI (k + 1))) = beC L k from rfl]
          refine g_istore dX10_bestLetter_50 (by decide) rfl ?_
          refine g_iload dX10_bestLetter_52 rfl ?_
          refine g_iload_n dX10_bestLetter_54 rfl ?_
          refine g_icmp_le 63 dX10_bestLetter_55 (by decide) (fun c_55 => ?_) (fun c_55 => ?_)
          · exact nxt (some b) h4 _ _ _ _ (by rw [hu2, if_neg (fun w => absurd ((nI_leI (by omega) (by omega)).mp c_55) (by omega))]) hC4 he4 hq4 hT4 (hO1.trans ((hV2.trans (hV3.trans hV4)).wide (by omega) (by omega)))
          · refine g_iload dX10_bestLetter_58 rfl ?_
            refine g_istore_n dX10_bestLetter_60 (by decide) rfl ?_
            refine g_iload_n dX10_bestLetter_61 rfl ?_
            refine g_istore_n dX10_bestLetter_62 (by decide) rfl ?_
            exact nxt (some k) h4 _ _ _ _ (by rw [hu2, if_pos (Nat.not_le.mp (fun w => c_55 ((nI_leI (by omega) (by omega)).mpr w)))]) hC4 he4 hq4 hT4 (hO1.trans ((hV2.trans (hV3.trans hV4)).wide (by omega) (by omega)))
  refine g_iconst (nI 1) dX10_bestLetter_0 (by decide) ?_
  refine g_istore_n dX10_bestLetter_1 (by decide) rfl ?_
  refine g_iconst (-1) dX10_bestLetter_2 (by decide) ?_
  refine g_istore_n dX10_bestLetter_3 (by decide) rfl ?_
  refine g_iconst (nI 1) dX10_bestLetter_4 (by decide) ?_
  refine g_istore_n dX10_bestLetter_5 (by decide) rfl ?_
  exact loop 26 0 _ h L1 d1 c1 rfl hC rfl hPa hTr0 OffB.rf
set_option maxRecDepth 100000 in
set_option maxHeartbeats 4000000 in
theorem m10_meanShared {X : gX} {K : gKo} {h : gH} {z o n : Nat} {f : Nat → Int32} {P : PlM} {L : List Int32} {day car err : Int32}  (hC : ClsS X K h o n f P L day car err) : gM X yX10_meanShared cX10_meanShared 2 (some .double) (50, 0, 0) [.ref o] h z (fun r h' z' => r = some (.double (meD L)) ∧ z' = z ∧ ClsS X K h' o n f P L day car err ∧ OffB h h' o 162) gNoX := by
  obtain ⟨pp, sp, ep, dp, er, ir, h0, hpp, hg, ⟨kf, S, T, la, kt, kd, st, en, hT⟩, hP, hSp, hPa, hTr, hok, hn⟩ := id hC
  obtain ⟨sk, fk, hB, hkk, hl2, hL⟩ := id hPa
  obtain ⟨nq, I, A, hS, rfl, hl, hA, -⟩ := id hL
  obtain ⟨S1, g1, wn1, wf1, oA1, oJ1, hPB, hPR⟩ := id hP
  refine gM.of px10 (Nat.le_of_ble_eq_true rfl) ?_
  intro F hE
  have hs2 := smsU_le (L := L) (m := L.length) (Nat.le_refl _)
  refine g_aload_n dX10_meanShared_0 rfl ?_
  refine g_getf fl10_30 h0 rfl dX10_meanShared_1 ?_
  refine g_getf fl10_81 hB.1 rfl dX10_meanShared_4 ?_
  refine g_getf fl10_85 hS.1 rfl dX10_meanShared_7 ?_
  refine g_istore_n dX10_meanShared_10 (by decide) rfl ?_
  refine g_iload_n dX10_meanShared_11 rfl ?_
  refine g_if_neN 17 dX10_meanShared_12 (by decide) (by omega) (fun c_12 => ?_) (fun c_12 => ?_)
  · refine g_aload_n dX10_meanShared_17 rfl ?_
    refine g_getf fl10_30 h0 rfl dX10_meanShared_18 ?_
    refine g_getf fl10_81 hB.1 rfl dX10_meanShared_21 ?_
    refine g_callV0 kX10_203 (m5_sumOfAllShared hL) hS.1 rfl rfl rfl (Nat.le_of_ble_eq_true rfl) (by decide) (by decide) (by decide) (by decide) dX10_meanShared_24 ?_
    rintro v1 h2 z1 ⟨rfl, rfl, hL2, hO2⟩
    refine g_i2d dX10_meanShared_27 ?_
    refine g_iload_n dX10_meanShared_28 rfl ?_
    refine g_i2d dX10_meanShared_29 ?_
    refine g_ddiv dX10_meanShared_30 (fp_ok c_12 hl hs2) ?_
    exact g_dret hE (⟨by unfold meD; rw [if_neg c_12], rfl, hC.sq hL2 (hO2.wide (by omega) (by omega)), hO2.wide (by omega) (by omega)⟩) dX10_meanShared_31
  · refine g_dconst0 dX10_meanShared_15 ?_
    exact g_dret hE (⟨by unfold meD; rw [if_pos c_12], rfl, hC, OffB.rf⟩) dX10_meanShared_16
