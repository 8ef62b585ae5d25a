/-! the law: its loop, its beginning -/
set_option maxRecDepth 100000 in
set_option maxHeartbeats 4000000 in
theorem lw_loop {X : gX} {F : gF} {K : gKo} {b Ls o : Nat} {xs : Nat → Int32} (hK : gCo X K) (hTh : gTh X) (hT : gTb X .int b Ls (fun j => .int (xs j))) (hLs : Ls ≤ 3072) (KE : ∀ (h' : gH) (z' k' n' : Nat) (lv : List (Option Value)), k' ≤ 601024 → n' ≤ 7293034 → G X F cL_law 9 RL lwR k' n' 1745 lv [] h' z') : ∀ (N i k n z : Nat) (h : gH) (x5 x6 x7 x8 : Option Value), Ls ≤ i + N → i ≤ Ls → k ≤ 188 + 2 * i → n ≤ 13050 + 301 * i → LwI X K o h z → G X F cL_law 9 RL lwR k n 23 [some (.ref b), some (.ref o), some (.ref (o + 162)), some (.ref (o + 187)), some (.int (nI i)), x5, x6, x7, x8] [] h z := by
  intro N
  induction N with
  | zero =>
    intro i k n z h x5 x6 x7 x8 hi hi2 hk hn hI
    refine g_iload dL_law_23 rfl ?_
    refine g_aload_n dL_law_25 rfl ?_
    refine g_tlen hT dL_law_26 ?_
    refine g_bipush (nI 6) dL_law_27 (by decide) ?_
    refine g_isub dL_law_29 ?_
    refine g_icmp_gt 1745 dL_law_30 (by decide) (fun c_30 => ?_) (fun c_30 => ?_)
    · exact KE _ _ _ _ _ (by omega) (by omega)
    · have h6 : i + 6 ≤ Ls := by
        have e6 := sub6_int hLs
        rw [Int32.lt_iff_toInt_lt, e6, nI_toInt (by omega)] at c_30
        omega
      exact absurd h6 (by omega)
  | succ N ih =>
    intro i k n z h x5 x6 x7 x8 hi hi2 hk hn hI
    refine g_iload dL_law_23 rfl ?_
    refine g_aload_n dL_law_25 rfl ?_
    refine g_tlen hT dL_law_26 ?_
    refine g_bipush (nI 6) dL_law_27 (by decide) ?_
    refine g_isub dL_law_29 ?_
    refine g_icmp_gt 1745 dL_law_30 (by decide) (fun c_30 => ?_) (fun c_30 => ?_)
    · exact KE _ _ _ _ _ (by omega) (by omega)
    · have h6 : i + 6 ≤ Ls := by
        have e6 := sub6_int hLs
        rw [Int32.lt_iff_toInt_lt, e6, nI_toInt (by omega)] at c_30
        omega
      have KK : ∀ (h' : gH) (z' k' n' : Nat) (a5 a6 a7 a8 : Option Value), LwI X K o h' z' → k' ≤ k + 12 → n' ≤ n + 1806 → G X F cL_law 9 RL lwR k' n' 1739 [some (.ref b), some (.ref o), some (.ref (o + 162)), some (.ref (o + 187)), some (.int (nI i)), a5, a6, a7, a8] [] h' z' := by
        intro h' z' k' n' a5 a6 a7 a8 hI' hk' hn'
        refine g_iinc (nI (i + 6)) dL_law_1739 rfl (by rw [show Int32.ofInt 6 = nI 6 from rfl, nI_add]) (by decide) rfl ?_
        refine g_goto 23 dL_law_1742 (by decide) ?_
        exact ih (i + 6) k' n' z' h' a5 a6 a7 a8 (by omega) (by omega) (by omega) (by omega) hI'
      refine g_aload_n dL_law_33 rfl ?_
      refine g_iload dL_law_34 rfl ?_
      refine g_tald (j := i) hT (by omega) (by omega) dL_law_36 ?_
      refine g_bipush (nI 63) dL_law_37 (by decide) ?_
      refine g_iand dL_law_39 ?_
      obtain ⟨c, hc, e⟩ := and63 (xs i)
      rw [e]
      rcases (show c = 0 ∨ c = 1 ∨ c = 2 ∨ c = 3 ∨ c = 4 ∨ c = 5 ∨ c = 6 ∨ c = 7 ∨ c = 8 ∨ c = 9 ∨ c = 10 ∨ c = 11 ∨ c = 12 ∨ c = 13 ∨ c = 14 ∨ c = 15 ∨ c = 16 ∨ c = 17 ∨ c = 18 ∨ c = 19 ∨ c = 20 ∨ c = 21 ∨ c = 22 ∨ c = 23 ∨ c = 24 ∨ c = 25 ∨ c = 26 ∨ c = 27 ∨ c = 28 ∨ c = 29 ∨ c = 30 ∨ c = 31 ∨ c = 32 ∨ c = 33 ∨ c = 34 ∨ c = 35 ∨ c = 36 ∨ 37 ≤ c by omega) with rfl | rfl | rfl | rfl | rfl | rfl | rfl | rfl | rfl | rfl | rfl | rfl | rfl | rfl | rfl | rfl | rfl | rfl | rfl | rfl | rfl | rfl | rfl | rfl | rfl | rfl | rfl | rfl | rfl | rfl | rfl | rfl | rfl | rfl | rfl | rfl | rfl | h37
      · refine g_switch (164) 204 dL_law_40 (by decide) (by decide) (by decide) (by decide) ?_
        exact lc_feed hK hTh hT hLs h6 (by omega) (by omega) hI KK
      · refine g_switch (268) 308 dL_law_40 (by decide) (by decide) (by decide) (by decide) ?_
        exact lc_trim hK hTh hT hLs h6 (by omega) (by omega) hI KK
      · refine g_switch (324) 364 dL_law_40 (by decide) (by decide) (by decide) (by decide) ?_
        exact lc_teach hK hTh hT hLs h6 (by omega) (by omega) hI KK
      · refine g_switch (337) 377 dL_law_40 (by decide) (by decide) (by decide) (by decide) ?_
        exact lc_errorAt hK hTh hT hLs h6 (by omega) (by omega) hI KK
      · refine g_switch (350) 390 dL_law_40 (by decide) (by decide) (by decide) (by decide) ?_
        exact lc_length hK hTh hT hLs h6 (by omega) (by omega) hI KK
      · refine g_switch (363) 403 dL_law_40 (by decide) (by decide) (by decide) (by decide) ?_
        exact lc_insults hK hTh hT hLs h6 (by omega) (by omega) hI KK
      · refine g_switch (376) 416 dL_law_40 (by decide) (by decide) (by decide) (by decide) ?_
        exact lc_day hK hTh hT hLs h6 (by omega) (by omega) hI KK
      · refine g_switch (389) 429 dL_law_40 (by decide) (by decide) (by decide) (by decide) ?_
        exact lc_ordersCarriedOut hK hTh hT hLs h6 (by omega) (by omega) hI KK
      · refine g_switch (402) 442 dL_law_40 (by decide) (by decide) (by decide) (by decide) ?_
        exact lc_kinds hK hTh hT hLs h6 (by omega) (by omega) hI KK
      · refine g_switch (415) 455 dL_law_40 (by decide) (by decide) (by decide) (by decide) ?_
        exact lc_letterAt hK hTh hT hLs h6 (by omega) (by omega) hI KK
      · refine g_switch (471) 511 dL_law_40 (by decide) (by decide) (by decide) (by decide) ?_
        exact lc_rankOf hK hTh hT hLs h6 (by omega) (by omega) hI KK
      · refine g_switch (527) 567 dL_law_40 (by decide) (by decide) (by decide) (by decide) ?_
        exact lc_placeAt hK hTh hT hLs h6 (by omega) (by omega) hI KK
      · refine g_switch (583) 623 dL_law_40 (by decide) (by decide) (by decide) (by decide) ?_
        exact lc_sharedAt hK hTh hT hLs h6 (by omega) (by omega) hI KK
      · refine g_switch (639) 679 dL_law_40 (by decide) (by decide) (by decide) (by decide) ?_
        exact lc_shared hK hTh hT hLs h6 (by omega) (by omega) hI KK
      · refine g_switch (707) 747 dL_law_40 (by decide) (by decide) (by decide) (by decide) ?_
        exact lc_isAhead hK hTh hT hLs h6 (by omega) (by omega) hI KK
      · refine g_switch (782) 822 dL_law_40 (by decide) (by decide) (by decide) (by decide) ?_
        exact lc_longestRepeat hK hTh hT hLs h6 (by omega) (by omega) hI KK
      · refine g_switch (795) 835 dL_law_40 (by decide) (by decide) (by decide) (by decide) ?_
        exact lc_repeatPlace hK hTh hT hLs h6 (by omega) (by omega) hI KK
      · refine g_switch (808) 848 dL_law_40 (by decide) (by decide) (by decide) (by decide) ?_
        exact lc_repeatCount hK hTh hT hLs h6 (by omega) (by omega) hI KK
      · refine g_switch (821) 861 dL_law_40 (by decide) (by decide) (by decide) (by decide) ?_
        exact lc_kindsOf hK hTh hT hLs h6 (by omega) (by omega) hI KK
      · refine g_switch (877) 917 dL_law_40 (by decide) (by decide) (by decide) (by decide) ?_
        exact lc_repeatedOf hK hTh hT hLs h6 (by omega) (by omega) hI KK
      · refine g_switch (933) 973 dL_law_40 (by decide) (by decide) (by decide) (by decide) ?_
        exact lc_mockedAtEnd hK hTh hT hLs h6 (by omega) (by omega) hI KK
      · refine g_switch (946) 986 dL_law_40 (by decide) (by decide) (by decide) (by decide) ?_
        exact lc_lettersOf hK hTh hT hLs h6 (by omega) (by omega) hI KK
      · refine g_switch (1002) 1042 dL_law_40 (by decide) (by decide) (by decide) (by decide) ?_
        exact lc_countOf hK hTh hT hLs h6 (by omega) (by omega) hI KK
      · refine g_switch (1058) 1098 dL_law_40 (by decide) (by decide) (by decide) (by decide) ?_
        exact lc_firstOf hK hTh hT hLs h6 (by omega) (by omega) hI KK
      · refine g_switch (1114) 1154 dL_law_40 (by decide) (by decide) (by decide) (by decide) ?_
        exact lc_lastOf hK hTh hT hLs h6 (by omega) (by omega) hI KK
      · refine g_switch (1170) 1210 dL_law_40 (by decide) (by decide) (by decide) (by decide) ?_
        exact lc_stepsTo hK hTh hT hLs h6 (by omega) (by omega) hI KK
      · refine g_switch (1226) 1266 dL_law_40 (by decide) (by decide) (by decide) (by decide) ?_
        exact lc_mostSaid hK hTh hT hLs h6 (by omega) (by omega) hI KK
      · refine g_switch (1239) 1279 dL_law_40 (by decide) (by decide) (by decide) (by decide) ?_
        exact lc_hear hK hTh hT hLs h6 (by omega) (by omega) hI KK
      · refine g_switch (1295) 1335 dL_law_40 (by decide) (by decide) (by decide) (by decide) ?_
        exact lc_mock hK hTh hT hLs h6 (by omega) (by omega) hI KK
      · refine g_switch (1351) 1391 dL_law_40 (by decide) (by decide) (by decide) (by decide) ?_
        exact lc_echo hK hTh hT hLs h6 (by omega) (by omega) hI KK
      · refine g_switch (1407) 1447 dL_law_40 (by decide) (by decide) (by decide) (by decide) ?_
        exact lc_forget hK hTh hT hLs h6 (by omega) (by omega) hI KK
      · refine g_switch (1463) 1503 dL_law_40 (by decide) (by decide) (by decide) (by decide) ?_
        exact lc_passDays hK hTh hT hLs h6 (by omega) (by omega) hI KK
      · refine g_switch (1519) 1559 dL_law_40 (by decide) (by decide) (by decide) (by decide) ?_
        exact lc_repeatAfter hK hTh hT hLs h6 (by omega) (by omega) hI KK
      · refine g_switch (1575) 1615 dL_law_40 (by decide) (by decide) (by decide) (by decide) ?_
        exact lc_daysUntilKnown hK hTh hT hLs h6 (by omega) (by omega) hI KK
      · refine g_switch (1631) 1671 dL_law_40 (by decide) (by decide) (by decide) (by decide) ?_
        exact lc_bestLetter hK hTh hT hLs h6 (by omega) (by omega) hI KK
      · refine g_switch (1644) 1684 dL_law_40 (by decide) (by decide) (by decide) (by decide) ?_
        exact lc_meanShared hK hTh hT hLs h6 (by omega) (by omega) hI KK
      · refine g_switch (1685) 1725 dL_law_40 (by decide) (by decide) (by decide) (by decide) ?_
        exact lc_digest hK hTh hT hLs h6 (by omega) (by omega) hI KK
      · refine g_switchD 1739 dL_law_40 (Or.inr (by rw [nI_toInt (by omega)]; omega)) (by decide) ?_
        exact KK h z k n x5 x6 x7 x8 hI (by omega) (by omega)
set_option maxRecDepth 100000 in
set_option maxHeartbeats 4000000 in
theorem lw_begin {X : gX} {F : gF} {K : gKo} {b Ls o : Nat} {xs : Nat → Int32} (hK : gCo X K) (hTh : gTh X) (hT : gTb X .int b Ls (fun j => .int (xs j))) (hLs : Ls ≤ 3072) (KE : ∀ (h' : gH) (z' k' n' : Nat) (lv : List (Option Value)), k' ≤ 601024 → n' ≤ 7293034 → G X F cL_law 9 RL lwR k' n' 1745 lv [] h' z') : G X F cL_law 9 RL lwR 0 0 0 [some (.ref b), none, none, none, none, none, none, none, none] [] (fun _ => none) o := by
  refine g_new [.null, .null, .null, .null, .null, .int 0] cl8 (gm1 27 (by decide +kernel)) (gm1 28 (by decide +kernel)) (gm1 1 (by decide +kernel)) (by decide) (by decide) (by decide) dL_law_0 ?_
  refine g_dup dL_law_3 rfl ?_
  refine g_callI kL_85 (m10_init hK gset_same rfl) rfl rfl (Nat.le_of_ble_eq_true rfl) (by decide) (by decide) (by decide) (by decide) dL_law_4 ?_
  rintro v1 h4 z1 ⟨rfl, rfl, hC4, hN4⟩
  refine G.eqz (show o + 1 + 161 = o + 162 by omega) rfl rfl ?_
  refine g_astore_n dL_law_7 (by decide) rfl ?_
  refine g_new [.int 0, .null, .int 0, .int 0, .null, .null, .null, .null, .null, .null, .int 0, .int 0, .int 0, .null, .int 0, .int 0, .int 0, .null, .int 0, .int 0, .int 0, .int 0, .null, .null, .null, .null] cl10 (gm5 198 (by decide +kernel)) (gm5 199 (by decide +kernel)) (gm1 12 (by decide +kernel)) (by decide) (by decide) (by decide) dL_law_8 ?_
  refine g_dup dL_law_11 rfl ?_
  refine g_callI kL_88 (m12_init gset_same rfl) rfl rfl (Nat.le_of_ble_eq_true rfl) (by decide) (by decide) (by decide) (by decide) dL_law_12 ?_
  rintro v1 h5 z1 ⟨rfl, rfl, hM5, hP5, hN5⟩
  refine g_astore_n dL_law_15 (by decide) rfl ?_
  refine g_iconst (nI 1) dL_law_16 (by decide) ?_
  refine g_newJ waj (by decide) (by decide) (by decide) dL_law_17 ?_
  refine g_astore_n dL_law_19 (by decide) rfl ?_
  refine g_iconst (nI 0) dL_law_20 (by decide) ?_
  refine g_istore dL_law_21 (by decide) rfl ?_
  refine G.eqz (show o + 162 + 1 + 24 + 1 = o + 188 by omega) rfl rfl ?_
  refine lw_loop hK hTh hT hLs KE Ls 0 _ _ _ _ _ _ _ _ (by omega) (by omega) (by decide) (by decide) ⟨o + 164, 0, fun _ => 0, P00, [], 0, 0, -1, 0, fun _ => 0, ?_, ?_, gset_same, by omega, by omega, Or.inl rfl⟩
  · exact hC4.eqo (fun x _ _ => (gset_ne (by omega)).trans ((hN5 x (by omega) (by omega)).trans (gset_ne (by omega))))
  · refine ⟨_, _, _, ⟨(hM5.putz (by omega)), Nat.zero_le _, fun i hi => absurd hi (Nat.not_lt_zero _), Or.inl rfl⟩, ⟨rfl, rfl, rfl, rfl, rfl⟩, ⟨rfl, Nat.zero_le _, fun j => (by decide : (0 : Int32) ≠ -1)⟩, (MpP.p00 hP5).putz (by omega), P00_ok, Or.inl rfl⟩
