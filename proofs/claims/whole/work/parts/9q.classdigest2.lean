/-! the class: the checksum, the last of it -/
theorem gd10 (a0 a1 a2 a3 a4 a5 a6 a7 a8 a9 : Int32) : [a0, a1, a2, a3, a4, a5, a6, a7, a8, a9].getD 0 0 = a0 ∧ [a0, a1, a2, a3, a4, a5, a6, a7, a8, a9].getD 1 0 = a1 ∧ [a0, a1, a2, a3, a4, a5, a6, a7, a8, a9].getD 2 0 = a2 ∧ [a0, a1, a2, a3, a4, a5, a6, a7, a8, a9].getD 3 0 = a3 ∧ [a0, a1, a2, a3, a4, a5, a6, a7, a8, a9].getD 4 0 = a4 ∧ [a0, a1, a2, a3, a4, a5, a6, a7, a8, a9].getD 5 0 = a5 ∧ [a0, a1, a2, a3, a4, a5, a6, a7, a8, a9].getD 6 0 = a6 ∧ [a0, a1, a2, a3, a4, a5, a6, a7, a8, a9].getD 7 0 = a7 ∧ [a0, a1, a2, a3, a4, a5, a6, a7, a8, a9].getD 8 0 = a8 ∧ [a0, a1, a2, a3, a4, a5, a6, a7, a8, a9].getD 9 0 = a9 := ⟨rfl, rfl, rfl, rfl, rfl, rfl, rfl, rfl, rfl, rfl⟩
set_option maxRecDepth 100000 in
set_option maxHeartbeats 4000000 in
theorem m10_digest {X : gX} {K : gKo} {h : gH} {z o n : Nat} {f : Nat → Int32} {P : PlM} {L : List Int32} {day car err : Int32} (hC : ClsS X K h o n f P L day car err) : gM X yX10_digest cX10_digest 3 (some .long) (52, 0, 0) [.ref o] h z (fun r h' z' => r = some (.long (dgV P L day car)) ∧ z' = z ∧ ClsS X K h' o n f P L day car err ∧ OffB h h' o 162) gNoX := by
  obtain ⟨fs0, h00⟩ := hC.at
  have hC0 := hC
  obtain ⟨g, hg⟩ : ∃ g, g = dgG P L day car := ⟨_, rfl⟩
  have e0 : nI L.length = g 0 := by rw [hg]; exact (gd10 _ _ _ _ _ _ _ _ _ _).1.symm
  have e1 : nI P.1.1 = g 1 := by rw [hg]; exact (gd10 _ _ _ _ _ _ _ _ _ _).2.1.symm
  have e2 : day = g 2 := by rw [hg]; exact (gd10 _ _ _ _ _ _ _ _ _ _).2.2.1.symm
  have e3 : car = g 3 := by rw [hg]; exact (gd10 _ _ _ _ _ _ _ _ _ _).2.2.2.1.symm
  have e4 : nI (akU L L.length) = g 4 := by rw [hg]; exact (gd10 _ _ _ _ _ _ _ _ _ _).2.2.2.2.1.symm
  have e5 : nI (lon L) = g 5 := by rw [hg]; exact (gd10 _ _ _ _ _ _ _ _ _ _).2.2.2.2.2.1.symm
  have e6 : rpI L = g 6 := by rw [hg]; exact (gd10 _ _ _ _ _ _ _ _ _ _).2.2.2.2.2.2.1.symm
  have e7 : nI (rcI L) = g 7 := by rw [hg]; exact (gd10 _ _ _ _ _ _ _ _ _ _).2.2.2.2.2.2.2.1.symm
  have e8 : nI (ese L) = g 8 := by rw [hg]; exact (gd10 _ _ _ _ _ _ _ _ _ _).2.2.2.2.2.2.2.2.1.symm
  have e9 : oI (msU (fun i => cnt (stands L (wl (P.1.2 i))) L.length) P.1.1) = g 9 := by rw [hg]; exact (gd10 _ _ _ _ _ _ _ _ _ _).2.2.2.2.2.2.2.2.2.symm
  refine gM.of px10 (Nat.le_of_ble_eq_true rfl) ?_
  intro F hE
  refine g_ldc2 1069 dX10_digest_0 w1069 ?_
  refine G.eqv (st' := [.long (dgF g 0)]) rfl ?_
  refine g_lstore_n dX10_digest_3 (by decide) rfl ?_
  refine G.eql (lv' := [some (.ref o), some (.long (dgF g 0)), none]) rfl ?_
  refine g_lload_n dX10_digest_4 rfl ?_
  refine g_aload_n dX10_digest_5 rfl ?_
  refine g_callV0 kX10_208 (m10_length hC0) h00 rfl rfl rfl (Nat.le_of_ble_eq_true rfl) (by decide) (by decide) (by decide) (by decide) dX10_digest_6 ?_
  rintro v1 h1 z1 ⟨rfl, rfl, hC1, hO1⟩
  obtain ⟨fs1, h01⟩ := hC1.at
  refine g_callS0 kX10_211 (m10_joined (dgF g 0) (nI L.length)) rfl rfl (Nat.le_of_ble_eq_true rfl) (by decide) (by decide) (by decide) (by decide) dX10_digest_9 ?_
  rintro v1 h1 z1 ⟨rfl, rfl, rfl⟩
  rw [show jn (dgF g 0) (nI L.length) = dgF g 1 from by rw [e0]; rfl]
  refine g_lstore_n dX10_digest_12 (by decide) rfl ?_
  refine G.eql (lv' := [some (.ref o), some (.long (dgF g 1)), none]) rfl ?_
  refine g_lload_n dX10_digest_13 rfl ?_
  refine g_aload_n dX10_digest_14 rfl ?_
  refine g_callV0 kX10_215 (m10_insults hC1) h01 rfl rfl rfl (Nat.le_of_ble_eq_true rfl) (by decide) (by decide) (by decide) (by decide) dX10_digest_15 ?_
  rintro v1 h2 z1 ⟨rfl, rfl, hC2, hO2⟩
  obtain ⟨fs2, h02⟩ := hC2.at
  refine g_callS0 kX10_211 (m10_joined (dgF g 1) (nI P.1.1)) rfl rfl (Nat.le_of_ble_eq_true rfl) (by decide) (by decide) (by decide) (by decide) dX10_digest_18 ?_
  rintro v1 h2 z1 ⟨rfl, rfl, rfl⟩
  rw [show jn (dgF g 1) (nI P.1.1) = dgF g 2 from by rw [e1]; rfl]
  refine g_lstore_n dX10_digest_21 (by decide) rfl ?_
  refine G.eql (lv' := [some (.ref o), some (.long (dgF g 2)), none]) rfl ?_
  refine g_lload_n dX10_digest_22 rfl ?_
  refine g_aload_n dX10_digest_23 rfl ?_
  refine g_callV0 kX10_218 (m10_day hC2) h02 rfl rfl rfl (Nat.le_of_ble_eq_true rfl) (by decide) (by decide) (by decide) (by decide) dX10_digest_24 ?_
  rintro v1 h3 z1 ⟨rfl, rfl, hC3, hO3⟩
  obtain ⟨fs3, h03⟩ := hC3.at
  refine g_callS0 kX10_211 (m10_joined (dgF g 2) (day)) rfl rfl (Nat.le_of_ble_eq_true rfl) (by decide) (by decide) (by decide) (by decide) dX10_digest_27 ?_
  rintro v1 h3 z1 ⟨rfl, rfl, rfl⟩
  rw [show jn (dgF g 2) (day) = dgF g 3 from by rw [e2]; rfl]
  refine g_lstore_n dX10_digest_30 (by decide) rfl ?_
  refine G.eql (lv' := [some (.ref o), some (.long (dgF g 3)), none]) rfl ?_
  refine g_lload_n dX10_digest_31 rfl ?_
  refine g_aload_n dX10_digest_32 rfl ?_
  refine g_callV0 kX10_221 (m10_ordersCarriedOut hC3) h03 rfl rfl rfl (Nat.le_of_ble_eq_true rfl) (by decide) (by decide) (by decide) (by decide) dX10_digest_33 ?_
  rintro v1 h4 z1 ⟨rfl, rfl, hC4, hO4⟩
  obtain ⟨fs4, h04⟩ := hC4.at
  refine g_callS0 kX10_211 (m10_joined (dgF g 3) (car)) rfl rfl (Nat.le_of_ble_eq_true rfl) (by decide) (by decide) (by decide) (by decide) dX10_digest_36 ?_
  rintro v1 h4 z1 ⟨rfl, rfl, rfl⟩
  rw [show jn (dgF g 3) (car) = dgF g 4 from by rw [e3]; rfl]
  refine g_lstore_n dX10_digest_39 (by decide) rfl ?_
  refine G.eql (lv' := [some (.ref o), some (.long (dgF g 4)), none]) rfl ?_
  refine g_lload_n dX10_digest_40 rfl ?_
  refine g_aload_n dX10_digest_41 rfl ?_
  refine g_callV0 kX10_224 (m10_kinds hC4) h04 rfl rfl rfl (Nat.le_of_ble_eq_true rfl) (by decide) (by decide) (by decide) (by decide) dX10_digest_42 ?_
  rintro v1 h5 z1 ⟨rfl, rfl, hC5, hO5⟩
  obtain ⟨fs5, h05⟩ := hC5.at
  refine g_callS0 kX10_211 (m10_joined (dgF g 4) (nI (akU L L.length))) rfl rfl (Nat.le_of_ble_eq_true rfl) (by decide) (by decide) (by decide) (by decide) dX10_digest_45 ?_
  rintro v1 h5 z1 ⟨rfl, rfl, rfl⟩
  rw [show jn (dgF g 4) (nI (akU L L.length)) = dgF g 5 from by rw [e4]; rfl]
  refine g_lstore_n dX10_digest_48 (by decide) rfl ?_
  refine G.eql (lv' := [some (.ref o), some (.long (dgF g 5)), none]) rfl ?_
  refine g_lload_n dX10_digest_49 rfl ?_
  refine g_aload_n dX10_digest_50 rfl ?_
  refine g_callV0 kX10_227 (m10_longestRepeat hC5) h05 rfl rfl rfl (Nat.le_of_ble_eq_true rfl) (by decide) (by decide) (by decide) (by decide) dX10_digest_51 ?_
  rintro v1 h6 z1 ⟨rfl, rfl, hC6, hO6⟩
  obtain ⟨fs6, h06⟩ := hC6.at
  refine g_callS0 kX10_211 (m10_joined (dgF g 5) (nI (lon L))) rfl rfl (Nat.le_of_ble_eq_true rfl) (by decide) (by decide) (by decide) (by decide) dX10_digest_54 ?_
  rintro v1 h6 z1 ⟨rfl, rfl, rfl⟩
  rw [show jn (dgF g 5) (nI (lon L)) = dgF g 6 from by rw [e5]; rfl]
  refine g_lstore_n dX10_digest_57 (by decide) rfl ?_
  refine G.eql (lv' := [some (.ref o), some (.long (dgF g 6)), none]) rfl ?_
  refine g_lload_n dX10_digest_58 rfl ?_
  refine g_aload_n dX10_digest_59 rfl ?_
  refine g_callV0 kX10_230 (m10_repeatPlace hC6) h06 rfl rfl rfl (Nat.le_of_ble_eq_true rfl) (by decide) (by decide) (by decide) (by decide) dX10_digest_60 ?_
  rintro v1 h7 z1 ⟨rfl, rfl, hC7, hO7⟩
  obtain ⟨fs7, h07⟩ := hC7.at
  refine g_callS0 kX10_211 (m10_joined (dgF g 6) (rpI L)) rfl rfl (Nat.le_of_ble_eq_true rfl) (by decide) (by decide) (by decide) (by decide) dX10_digest_63 ?_
  rintro v1 h7 z1 ⟨rfl, rfl, rfl⟩
  rw [show jn (dgF g 6) (rpI L) = dgF g 7 from by rw [e6]; rfl]
  refine g_lstore_n dX10_digest_66 (by decide) rfl ?_
  refine G.eql (lv' := [some (.ref o), some (.long (dgF g 7)), none]) rfl ?_
  refine g_lload_n dX10_digest_67 rfl ?_
  refine g_aload_n dX10_digest_68 rfl ?_
  refine g_callV0 kX10_233 (m10_repeatCount hC7) h07 rfl rfl rfl (Nat.le_of_ble_eq_true rfl) (by decide) (by decide) (by decide) (by decide) dX10_digest_69 ?_
  rintro v1 h8 z1 ⟨rfl, rfl, hC8, hO8⟩
  obtain ⟨fs8, h08⟩ := hC8.at
  refine g_callS0 kX10_211 (m10_joined (dgF g 7) (nI (rcI L))) rfl rfl (Nat.le_of_ble_eq_true rfl) (by decide) (by decide) (by decide) (by decide) dX10_digest_72 ?_
  rintro v1 h8 z1 ⟨rfl, rfl, rfl⟩
  rw [show jn (dgF g 7) (nI (rcI L)) = dgF g 8 from by rw [e7]; rfl]
  refine g_lstore_n dX10_digest_75 (by decide) rfl ?_
  refine G.eql (lv' := [some (.ref o), some (.long (dgF g 8)), none]) rfl ?_
  refine g_lload_n dX10_digest_76 rfl ?_
  refine g_aload_n dX10_digest_77 rfl ?_
  refine g_callV0 kX10_236 (m10_mockedAtEnd hC8) h08 rfl rfl rfl (Nat.le_of_ble_eq_true rfl) (by decide) (by decide) (by decide) (by decide) dX10_digest_78 ?_
  rintro v1 h9 z1 ⟨rfl, rfl, hC9, hO9⟩
  obtain ⟨fs9, h09⟩ := hC9.at
  refine g_callS0 kX10_211 (m10_joined (dgF g 8) (nI (ese L))) rfl rfl (Nat.le_of_ble_eq_true rfl) (by decide) (by decide) (by decide) (by decide) dX10_digest_81 ?_
  rintro v1 h9 z1 ⟨rfl, rfl, rfl⟩
  rw [show jn (dgF g 8) (nI (ese L)) = dgF g 9 from by rw [e8]; rfl]
  refine g_lstore_n dX10_digest_84 (by decide) rfl ?_
  refine G.eql (lv' := [some (.ref o), some (.long (dgF g 9)), none]) rfl ?_
  refine g_lload_n dX10_digest_85 rfl ?_
  refine g_aload_n dX10_digest_86 rfl ?_
  refine g_callV0 kX10_239 (m10_mostSaid hC9) h09 rfl rfl rfl (Nat.le_of_ble_eq_true rfl) (by decide) (by decide) (by decide) (by decide) dX10_digest_87 ?_
  rintro v1 h10 z1 ⟨rfl, rfl, hC10, hO10⟩
  obtain ⟨fs10, h010⟩ := hC10.at
  refine g_callS0 kX10_211 (m10_joined (dgF g 9) (oI (msU (fun i => cnt (stands L (wl (P.1.2 i))) L.length) P.1.1))) rfl rfl (Nat.le_of_ble_eq_true rfl) (by decide) (by decide) (by decide) (by decide) dX10_digest_90 ?_
  rintro v1 h10 z1 ⟨rfl, rfl, rfl⟩
  rw [show jn (dgF g 9) (oI (msU (fun i => cnt (stands L (wl (P.1.2 i))) L.length) P.1.1)) = dgF g 10 from by rw [e9]; rfl]
  refine g_lstore_n dX10_digest_93 (by decide) rfl ?_
  refine G.eql (lv' := [some (.ref o), some (.long (dgF g 10)), none]) rfl ?_
  refine g_aload_n dX10_digest_94 rfl ?_
  refine g_aload_n dX10_digest_95 rfl ?_
  refine g_lload_n dX10_digest_96 rfl ?_
  refine g_callV0 kX10_242 (m10_squawksJoined (dgF g 10) hC10) h010 rfl rfl rfl (Nat.le_of_ble_eq_true rfl) (by decide) (by decide) (by decide) (by decide) dX10_digest_97 ?_
  rintro v1 h11 z1 ⟨rfl, rfl, hC11, hO11⟩
  obtain ⟨fs11, h011⟩ := hC11.at
  refine g_callV0 kX10_246 (m10_insultsJoined (dgB L (dgA L (dgF g 10) L.length) L.length) hC11) h011 rfl rfl rfl (Nat.le_of_ble_eq_true rfl) (by decide) (by decide) (by decide) (by decide) dX10_digest_100 ?_
  rintro v1 h12 z1 ⟨rfl, rfl, hC12, hO12⟩
  obtain ⟨fs12, h012⟩ := hC12.at
  exact g_lret hE (⟨by rw [hg]; unfold dgV; rfl, rfl, hC12, (((((((((((hO1).trans hO2).trans hO3).trans hO4).trans hO5).trans hO6).trans hO7).trans hO8).trans hO9).trans hO10).trans hO11).trans hO12⟩) dX10_digest_103
