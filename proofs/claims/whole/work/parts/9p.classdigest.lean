/-! the class: the checksum -/
set_option maxRecDepth 100000 in
set_option maxHeartbeats 4000000 in
theorem m10_joined {X : gX} {h : gH} {z : Nat} (d : Int64) (x : Int32) : gM X yX10_joined cX10_joined 3 (some .long) (1, 0, 0) [.long d, .int x] h z (fun r h' z' => r = some (.long (jn d x)) ∧ h' = h ∧ z' = z) gNoX := by
  refine gM.of px10 (Nat.le_of_ble_eq_true rfl) ?_
  intro F hE
  refine g_lload_n dX10_joined_0 rfl ?_
  refine g_ldc2 31 dX10_joined_1 w31 ?_
  refine g_lmul dX10_joined_4 ?_
  refine g_iload_n dX10_joined_5 rfl ?_
  refine g_i2l dX10_joined_6 ?_
  refine g_ladd dX10_joined_7 ?_
  exact g_lret hE (⟨rfl, rfl, rfl⟩) dX10_joined_8
set_option maxRecDepth 100000 in
set_option maxHeartbeats 4000000 in
theorem m10_squawksJoined {X : gX} {K : gKo} {h : gH} {z o n : Nat} {f : Nat → Int32} {P : PlM} {L : List Int32} {day car err : Int32} (d0 : Int64) (hC : ClsS X K h o n f P L day car err) : gM X yX10_squawksJoined cX10_squawksJoined 6 (some .long) (51, 0, 0) [.ref o, .long d0] h z (fun r h' z' => r = some (.long (dgB L (dgA L d0 L.length) L.length)) ∧ z' = z ∧ ClsS X K h' o n f P L day car err ∧ OffB h h' o 162) gNoX := by
  obtain ⟨hl, -⟩ := hC.len
  refine gM.of px10 (Nat.le_of_ble_eq_true rfl) ?_
  intro F hE
  have lp2 : ∀ (N k : Nat) (h1 : gH), k + N = L.length → ClsS X K h1 o n f P L day car err → OffB h h1 o 162 → G X F cX10_squawksJoined 6 yX10_squawksJoined.cls (51, 0, 0) 0 0 51 [some (.ref o), some (.long d0), none, some (.long (dgB L (dgA L d0 L.length) k)), none, some (.int (nI k))] [] h1 z := by
    intro N
    induction N with
    | zero =>
      intro k h1 hk hC1 hO1
      obtain ⟨pp, sp, ep, dp, er, ir, h01, -, -, -, -, -, hPa1, -⟩ := id hC1
      obtain ⟨sk, fk, hB1, -, -, hL1⟩ := id hPa1
      obtain ⟨nq, I1, A1, hS1, hnq, -⟩ := id hL1
      subst hnq
      have hkL : k = L.length := by omega
      subst hkL
      refine g_iload dX10_squawksJoined_51 rfl ?_
      refine g_aload_n dX10_squawksJoined_53 rfl ?_
      refine g_getf fl10_30 h01 rfl dX10_squawksJoined_54 ?_
      refine g_getf fl10_81 hB1.1 rfl dX10_squawksJoined_57 ?_
      refine g_getf fl10_85 hS1.1 rfl dX10_squawksJoined_60 ?_
      refine g_icmp_geN 83 dX10_squawksJoined_63 (by decide) (by omega) (by omega) (fun c_63 => ?_) (fun c_63 => ?_)
      · refine g_lload_n dX10_squawksJoined_83 rfl ?_
        exact g_lret hE (⟨rfl, rfl, hC1, hO1⟩) dX10_squawksJoined_84
      · exact absurd c_63 (by omega)
    | succ N ih =>
      intro k h1 hk hC1 hO1
      obtain ⟨pp, sp, ep, dp, er, ir, h01, -, -, -, -, -, hPa1, -⟩ := id hC1
      obtain ⟨sk, fk, hB1, -, -, hL1⟩ := id hPa1
      obtain ⟨nq, I1, A1, hS1, hnq, -⟩ := id hL1
      subst hnq
      have hkL : k < L.length := by omega
      refine g_iload dX10_squawksJoined_51 rfl ?_
      refine g_aload_n dX10_squawksJoined_53 rfl ?_
      refine g_getf fl10_30 h01 rfl dX10_squawksJoined_54 ?_
      refine g_getf fl10_81 hB1.1 rfl dX10_squawksJoined_57 ?_
      refine g_getf fl10_85 hS1.1 rfl dX10_squawksJoined_60 ?_
      refine g_icmp_geN 83 dX10_squawksJoined_63 (by decide) (by omega) (by omega) (fun c_63 => ?_) (fun c_63 => ?_)
      · exact absurd c_63 (by omega)
      · refine g_lload_n dX10_squawksJoined_66 rfl ?_
        refine g_aload_n dX10_squawksJoined_67 rfl ?_
        refine g_iload dX10_squawksJoined_68 rfl ?_
        refine g_callV0 kX10_255 (m10_sharedAt k hkL hC1) h01 rfl rfl rfl (Nat.le_of_ble_eq_true rfl) (by decide) (by decide) (by decide) (by decide) dX10_squawksJoined_70 ?_
        rintro v1 h2 z1 ⟨rfl, rfl, hC2, hO2⟩
        obtain ⟨fs2, h02⟩ := hC2.at
        refine g_callS0 kX10_211 (m10_joined (dgB L (dgA L d0 L.length) k) (nI (shr L k))) rfl rfl (Nat.le_of_ble_eq_true rfl) (by decide) (by decide) (by decide) (by decide) dX10_squawksJoined_73 ?_
        rintro v1 h2 z1 ⟨rfl, rfl, rfl⟩
        refine g_lstore_n dX10_squawksJoined_76 (by decide) rfl ?_
        refine g_iincN dX10_squawksJoined_77 rfl (by decide) rfl ?_
        refine g_goto 51 dX10_squawksJoined_80 (by decide) ?_
        exact ih (k + 1) h2 (by omega) hC2 (hO1.trans hO2)
  have lp1 : ∀ (N k : Nat) (h1 : gH), k + N = L.length → ClsS X K h1 o n f P L day car err → OffB h h1 o 162 → G X F cX10_squawksJoined 6 yX10_squawksJoined.cls (51, 0, 0) 0 0 5 [some (.ref o), some (.long d0), none, some (.long (dgA L d0 k)), none, some (.int (nI k))] [] h1 z := by
    intro N
    induction N with
    | zero =>
      intro k h1 hk hC1 hO1
      obtain ⟨pp, sp, ep, dp, er, ir, h01, -, -, -, -, -, hPa1, -⟩ := id hC1
      obtain ⟨sk, fk, hB1, -, -, hL1⟩ := id hPa1
      obtain ⟨nq, I1, A1, hS1, hnq, -⟩ := id hL1
      subst hnq
      have hkL : k = L.length := by omega
      subst hkL
      refine g_iload dX10_squawksJoined_5 rfl ?_
      refine g_aload_n dX10_squawksJoined_7 rfl ?_
      refine g_getf fl10_30 h01 rfl dX10_squawksJoined_8 ?_
      refine g_getf fl10_81 hB1.1 rfl dX10_squawksJoined_11 ?_
      refine g_getf fl10_85 hS1.1 rfl dX10_squawksJoined_14 ?_
      refine g_icmp_geN 48 dX10_squawksJoined_17 (by decide) (by omega) (by omega) (fun c_17 => ?_) (fun c_17 => ?_)
      · refine g_iconst (nI 0) dX10_squawksJoined_48 (by decide) ?_
        refine g_istore dX10_squawksJoined_49 (by decide) rfl ?_
        exact lp2 L.length 0 h1 (by omega) hC1 hO1
      · exact absurd c_17 (by omega)
    | succ N ih =>
      intro k h1 hk hC1 hO1
      obtain ⟨pp, sp, ep, dp, er, ir, h01, -, -, -, -, -, hPa1, -⟩ := id hC1
      obtain ⟨sk, fk, hB1, -, -, hL1⟩ := id hPa1
      obtain ⟨nq, I1, A1, hS1, hnq, -⟩ := id hL1
      subst hnq
      have hkL : k < L.length := by omega
      refine g_iload dX10_squawksJoined_5 rfl ?_
      refine g_aload_n dX10_squawksJoined_7 rfl ?_
      refine g_getf fl10_30 h01 rfl dX10_squawksJoined_8 ?_
      refine g_getf fl10_81 hB1.1 rfl dX10_squawksJoined_11 ?_
      refine g_getf fl10_85 hS1.1 rfl dX10_squawksJoined_14 ?_
      refine g_icmp_geN 48 dX10_squawksJoined_17 (by decide) (by omega) (by omega) (fun c_17 => ?_) (fun c_17 => ?_)
      · exact absurd c_17 (by omega)
      · refine g_lload_n dX10_squawksJoined_20 rfl ?_
        refine g_aload_n dX10_squawksJoined_21 rfl ?_
        refine g_iload dX10_squawksJoined_22 rfl ?_
        refine g_callV0 kX10_249 (m10_letterAt k hkL hC1) h01 rfl rfl rfl (Nat.le_of_ble_eq_true rfl) (by decide) (by decide) (by decide) (by decide) dX10_squawksJoined_24 ?_
        rintro v1 h2 z1 ⟨rfl, rfl, hC2, hO2⟩
        obtain ⟨fs2, h02⟩ := hC2.at
        refine g_callS0 kX10_211 (m10_joined (dgA L d0 k) (lt L k)) rfl rfl (Nat.le_of_ble_eq_true rfl) (by decide) (by decide) (by decide) (by decide) dX10_squawksJoined_27 ?_
        rintro v1 h2 z1 ⟨rfl, rfl, rfl⟩
        refine g_lstore_n dX10_squawksJoined_30 (by decide) rfl ?_
        refine g_lload_n dX10_squawksJoined_31 rfl ?_
        refine g_aload_n dX10_squawksJoined_32 rfl ?_
        refine g_iload dX10_squawksJoined_33 rfl ?_
        refine g_callV0 kX10_252 (m10_rankOf k hkL hC2) h02 rfl rfl rfl (Nat.le_of_ble_eq_true rfl) (by decide) (by decide) (by decide) (by decide) dX10_squawksJoined_35 ?_
        rintro v1 h3 z1 ⟨rfl, rfl, hC3, hO3⟩
        obtain ⟨fs3, h03⟩ := hC3.at
        refine g_callS0 kX10_211 (m10_joined (jn (dgA L d0 k) (lt L k)) (nI (rk L k))) rfl rfl (Nat.le_of_ble_eq_true rfl) (by decide) (by decide) (by decide) (by decide) dX10_squawksJoined_38 ?_
        rintro v1 h3 z1 ⟨rfl, rfl, rfl⟩
        refine g_lstore_n dX10_squawksJoined_41 (by decide) rfl ?_
        refine g_iincN dX10_squawksJoined_42 rfl (by decide) rfl ?_
        refine g_goto 5 dX10_squawksJoined_45 (by decide) ?_
        exact ih (k + 1) h3 (by omega) hC3 ((hO1.trans hO2).trans hO3)
  refine g_lload_n dX10_squawksJoined_0 rfl ?_
  refine g_lstore_n dX10_squawksJoined_1 (by decide) rfl ?_
  refine g_iconst (nI 0) dX10_squawksJoined_2 (by decide) ?_
  refine g_istore dX10_squawksJoined_3 (by decide) rfl ?_
  exact lp1 L.length 0 h (by omega) hC OffB.rf
set_option maxRecDepth 100000 in
set_option maxHeartbeats 4000000 in
theorem m10_insultsJoined {X : gX} {K : gKo} {h : gH} {z o n : Nat} {f : Nat → Int32} {P : PlM} {L : List Int32} {day car err : Int32} (d0 : Int64) (hC : ClsS X K h o n f P L day car err) : gM X yX10_insultsJoined cX10_insultsJoined 6 (some .long) (51, 0, 0) [.ref o, .long d0] h z (fun r h' z' => r = some (.long (dgC L (fun i => wl (P.1.2 i)) d0 P.1.1)) ∧ z' = z ∧ ClsS X K h' o n f P L day car err ∧ OffB h h' o 162) gNoX := by
  obtain ⟨hl, hok, -⟩ := hC.len
  have h8 := hok.1.1
  refine gM.of px10 (Nat.le_of_ble_eq_true rfl) ?_
  intro F hE
  have lp : ∀ (N k : Nat) (h1 : gH), k + N = P.1.1 → ClsS X K h1 o n f P L day car err → OffB h h1 o 162 → G X F cX10_insultsJoined 6 yX10_insultsJoined.cls (51, 0, 0) 0 0 5 [some (.ref o), some (.long d0), none, some (.long (dgC L (fun i => wl (P.1.2 i)) d0 k)), none, some (.int (nI k))] [] h1 z := by
    intro N
    induction N with
    | zero =>
      intro k h1 hk hC1 hO1
      obtain ⟨pp, sp, ep, dp, er, ir, h01, -, -, -, hP1, -⟩ := id hC1
      obtain ⟨S1, g1, wn1, wf1, oA1, oJ1, hPB1, -⟩ := id hP1
      have hkL : k = P.1.1 := by omega
      subst hkL
      refine g_iload dX10_insultsJoined_5 rfl ?_
      refine g_aload_n dX10_insultsJoined_7 rfl ?_
      refine g_getf fl10_40 h01 rfl dX10_insultsJoined_8 ?_
      refine g_getf fl10_90 hPB1.1 rfl dX10_insultsJoined_11 ?_
      refine g_icmp_geN 67 dX10_insultsJoined_14 (by decide) (by omega) (by omega) (fun c_14 => ?_) (fun c_14 => ?_)
      · refine g_lload_n dX10_insultsJoined_67 rfl ?_
        exact g_lret hE (⟨rfl, rfl, hC1, hO1⟩) dX10_insultsJoined_68
      · exact absurd c_14 (by omega)
    | succ N ih =>
      intro k h1 hk hC1 hO1
      obtain ⟨pp, sp, ep, dp, er, ir, h01, -, -, -, hP1, -⟩ := id hC1
      obtain ⟨S1, g1, wn1, wf1, oA1, oJ1, hPB1, -⟩ := id hP1
      have hkL : k < P.1.1 := by omega
      refine g_iload dX10_insultsJoined_5 rfl ?_
      refine g_aload_n dX10_insultsJoined_7 rfl ?_
      refine g_getf fl10_40 h01 rfl dX10_insultsJoined_8 ?_
      refine g_getf fl10_90 hPB1.1 rfl dX10_insultsJoined_11 ?_
      refine g_icmp_geN 67 dX10_insultsJoined_14 (by decide) (by omega) (by omega) (fun c_14 => ?_) (fun c_14 => ?_)
      · exact absurd c_14 (by omega)
      · refine g_lload_n dX10_insultsJoined_17 rfl ?_
        refine g_aload_n dX10_insultsJoined_18 rfl ?_
        refine g_iload dX10_insultsJoined_19 rfl ?_
        refine g_callV0 kX10_258 (m10_countOf k hkL hC1) h01 rfl rfl rfl (Nat.le_of_ble_eq_true rfl) (by decide) (by decide) (by decide) (by decide) dX10_insultsJoined_21 ?_
        rintro v1 h2 z1 ⟨rfl, rfl, hC2, hO2⟩
        obtain ⟨fs2, h02⟩ := hC2.at
        refine g_callS0 kX10_211 (m10_joined (dgC L (fun i => wl (P.1.2 i)) d0 k) (nI (cnt (stands L (wl (P.1.2 k))) L.length))) rfl rfl (Nat.le_of_ble_eq_true rfl) (by decide) (by decide) (by decide) (by decide) dX10_insultsJoined_24 ?_
        rintro v1 h2 z1 ⟨rfl, rfl, rfl⟩
        refine g_lstore_n dX10_insultsJoined_27 (by decide) rfl ?_
        refine g_lload_n dX10_insultsJoined_28 rfl ?_
        refine g_aload_n dX10_insultsJoined_29 rfl ?_
        refine g_iload dX10_insultsJoined_30 rfl ?_
        refine g_callV0 kX10_261 (m10_firstOf k hkL hC2) h02 rfl rfl rfl (Nat.le_of_ble_eq_true rfl) (by decide) (by decide) (by decide) (by decide) dX10_insultsJoined_32 ?_
        rintro v1 h3 z1 ⟨rfl, rfl, hC3, hO3⟩
        obtain ⟨fs3, h03⟩ := hC3.at
        refine g_callS0 kX10_211 (m10_joined (jn (dgC L (fun i => wl (P.1.2 i)) d0 k) (nI (cnt (stands L (wl (P.1.2 k))) L.length))) (oI (fstA (stands L (wl (P.1.2 k))) L.length 0))) rfl rfl (Nat.le_of_ble_eq_true rfl) (by decide) (by decide) (by decide) (by decide) dX10_insultsJoined_35 ?_
        rintro v1 h3 z1 ⟨rfl, rfl, rfl⟩
        refine g_lstore_n dX10_insultsJoined_38 (by decide) rfl ?_
        refine g_lload_n dX10_insultsJoined_39 rfl ?_
        refine g_aload_n dX10_insultsJoined_40 rfl ?_
        refine g_iload dX10_insultsJoined_41 rfl ?_
        refine g_callV0 kX10_264 (m10_lastOf k hkL hC3) h03 rfl rfl rfl (Nat.le_of_ble_eq_true rfl) (by decide) (by decide) (by decide) (by decide) dX10_insultsJoined_43 ?_
        rintro v1 h4 z1 ⟨rfl, rfl, hC4, hO4⟩
        obtain ⟨fs4, h04⟩ := hC4.at
        refine g_callS0 kX10_211 (m10_joined (jn (jn (dgC L (fun i => wl (P.1.2 i)) d0 k) (nI (cnt (stands L (wl (P.1.2 k))) L.length))) (oI (fstA (stands L (wl (P.1.2 k))) L.length 0))) (oI (lstA (stands L (wl (P.1.2 k))) L.length))) rfl rfl (Nat.le_of_ble_eq_true rfl) (by decide) (by decide) (by decide) (by decide) dX10_insultsJoined_46 ?_
        rintro v1 h4 z1 ⟨rfl, rfl, rfl⟩
        refine g_lstore_n dX10_insultsJoined_49 (by decide) rfl ?_
        refine g_lload_n dX10_insultsJoined_50 rfl ?_
        refine g_aload_n dX10_insultsJoined_51 rfl ?_
        refine g_iload dX10_insultsJoined_52 rfl ?_
        refine g_callV0 kX10_267 (m10_stepsTo k hkL hC4) h04 rfl rfl rfl (Nat.le_of_ble_eq_true rfl) (by decide) (by decide) (by decide) (by decide) dX10_insultsJoined_54 ?_
        rintro v1 h5 z1 ⟨rfl, rfl, hC5, hO5⟩
        obtain ⟨fs5, h05⟩ := hC5.at
        refine g_callS0 kX10_211 (m10_joined (jn (jn (jn (dgC L (fun i => wl (P.1.2 i)) d0 k) (nI (cnt (stands L (wl (P.1.2 k))) L.length))) (oI (fstA (stands L (wl (P.1.2 k))) L.length 0))) (oI (lstA (stands L (wl (P.1.2 k))) L.length))) (nI (hv L (wl (P.1.2 k))))) rfl rfl (Nat.le_of_ble_eq_true rfl) (by decide) (by decide) (by decide) (by decide) dX10_insultsJoined_57 ?_
        rintro v1 h5 z1 ⟨rfl, rfl, rfl⟩
        refine g_lstore_n dX10_insultsJoined_60 (by decide) rfl ?_
        refine g_iincN dX10_insultsJoined_61 rfl (by decide) rfl ?_
        refine g_goto 5 dX10_insultsJoined_64 (by decide) ?_
        exact ih (k + 1) h5 (by omega) hC5 ((((hO1.trans hO2).trans hO3).trans hO4).trans hO5)
  refine g_lload_n dX10_insultsJoined_0 rfl ?_
  refine g_lstore_n dX10_insultsJoined_1 (by decide) rfl ?_
  refine g_iconst (nI 0) dX10_insultsJoined_2 (by decide) ?_
  refine g_istore dX10_insultsJoined_3 (by decide) rfl ?_
  exact lp P.1.1 0 h (by omega) hC OffB.rf
