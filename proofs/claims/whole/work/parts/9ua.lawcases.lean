/-! the law: its switch, case by case: a -/
theorem vpL_same {f : Nat → Int64} {k : Nat} {v : Int64} : vp_updL f k v k = v := if_pos rfl
set_option maxRecDepth 100000 in
set_option maxHeartbeats 4000000 in
theorem lc_errorAt {X : gX} {F : gF} {K : gKo} {b Ls i o k n z : Nat} {xs : Nat → Int32} {h : gH} {x5 x6 x7 x8 : Option Value} (hK : gCo X K) (hTh : gTh X) (hT : gTb X .int b Ls (fun j => .int (xs j))) (hLs : Ls ≤ 3072) (hi : i + 6 ≤ Ls) (hk : k + 12 ≤ 601024) (hn : n + 1806 ≤ 7293034) (hI : LwI X K o h z) (KK : ∀ (h' : gH) (z' k' n' : Nat) (a5 a6 a7 a8 : Option Value), LwI X K o h' z' → k' ≤ k + 12 → n' ≤ n + 1806 → G X F cL_law 9 RL lwR k' n' 1739 [some (.ref b), some (.ref o), some (.ref (o + 162)), some (.ref (o + 187)), some (.int (nI i)), a5, a6, a7, a8] [] h' z') : G X F cL_law 9 RL lwR k n 377 [some (.ref b), some (.ref o), some (.ref (o + 162)), some (.ref (o + 187)), some (.int (nI i)), x5, x6, x7, x8] [] h z := by
  obtain ⟨pl, n0, f, P, L, day, car, err, t, g, hC, hR, hw, hz1, hz2, hpl⟩ := hI
  obtain ⟨fs, h0⟩ := hC.at
  obtain ⟨fr, hm⟩ := hR.at
  obtain ⟨hl40, hok, hn0⟩ := hC.len
  have h8 := hok.1.1
  refine g_aload_n dL_law_377 rfl ?_
  refine g_callV0 kL_107 (m10_errorAt hC) h0 rfl rfl rfl (Nat.le_of_ble_eq_true rfl) (by decide) (by decide) (by (try dsimp only); omega) (by (try dsimp only); omega) dL_law_378 ?_
  rintro v1 h1 z1 ⟨rfl, rfl, hC1, hO1⟩
  have hR1 := hR.eqm (fun x _ _ => hO1 x (by omega)) (fun x _ _ => hO1 x (by omega))
  obtain ⟨fr1, hm1⟩ := hR1.at
  refine g_aload_n dL_law_381 rfl ?_
  refine g_callV0 kL_110 (mR_errorAt hR1) hm1 rfl rfl rfl (Nat.le_of_ble_eq_true rfl) (by decide) (by decide) (by (try dsimp only); omega) (by (try dsimp only); omega) dL_law_382 ?_
  rintro v1 h2 z1 ⟨rfl, rfl, hR2, hO2⟩
  have hC2 := hC1.eqo (fun x _ _ => hO2 x (by omega) (by omega) (by omega))
  have hw2 := (hO2 (o + 187) (by omega) (by omega) (by omega)).trans ((hO1 (o + 187) (by omega)).trans hw)
  refine g_icmp_eq 1739 dL_law_385 (by decide) (fun c_9 => ?_) (fun c_9 => ?_)
  · exact KK h2 _ _ _ _ _ _ _ ⟨pl, n0, f, P, L, day, car, err, 0, g, hC2, hR2, hw2, by omega, by omega, hpl⟩ (by (try dsimp only); omega) (by (try dsimp only); omega)
  · exact absurd rfl c_9
set_option maxRecDepth 100000 in
set_option maxHeartbeats 4000000 in
theorem lc_length {X : gX} {F : gF} {K : gKo} {b Ls i o k n z : Nat} {xs : Nat → Int32} {h : gH} {x5 x6 x7 x8 : Option Value} (hK : gCo X K) (hTh : gTh X) (hT : gTb X .int b Ls (fun j => .int (xs j))) (hLs : Ls ≤ 3072) (hi : i + 6 ≤ Ls) (hk : k + 12 ≤ 601024) (hn : n + 1806 ≤ 7293034) (hI : LwI X K o h z) (KK : ∀ (h' : gH) (z' k' n' : Nat) (a5 a6 a7 a8 : Option Value), LwI X K o h' z' → k' ≤ k + 12 → n' ≤ n + 1806 → G X F cL_law 9 RL lwR k' n' 1739 [some (.ref b), some (.ref o), some (.ref (o + 162)), some (.ref (o + 187)), some (.int (nI i)), a5, a6, a7, a8] [] h' z') : G X F cL_law 9 RL lwR k n 390 [some (.ref b), some (.ref o), some (.ref (o + 162)), some (.ref (o + 187)), some (.int (nI i)), x5, x6, x7, x8] [] h z := by
  obtain ⟨pl, n0, f, P, L, day, car, err, t, g, hC, hR, hw, hz1, hz2, hpl⟩ := hI
  obtain ⟨fs, h0⟩ := hC.at
  obtain ⟨fr, hm⟩ := hR.at
  obtain ⟨hl40, hok, hn0⟩ := hC.len
  have h8 := hok.1.1
  refine g_aload_n dL_law_390 rfl ?_
  refine g_callV0 kL_111 (m10_length hC) h0 rfl rfl rfl (Nat.le_of_ble_eq_true rfl) (by decide) (by decide) (by (try dsimp only); omega) (by (try dsimp only); omega) dL_law_391 ?_
  rintro v1 h1 z1 ⟨rfl, rfl, hC1, hO1⟩
  have hR1 := hR.eqm (fun x _ _ => hO1 x (by omega)) (fun x _ _ => hO1 x (by omega))
  obtain ⟨fr1, hm1⟩ := hR1.at
  refine g_aload_n dL_law_394 rfl ?_
  refine g_callV0 kL_114 (mR_length hR1) hm1 rfl rfl rfl (Nat.le_of_ble_eq_true rfl) (by decide) (by decide) (by (try dsimp only); omega) (by (try dsimp only); omega) dL_law_395 ?_
  rintro v1 h2 z1 ⟨rfl, rfl, hR2, hO2⟩
  have hC2 := hC1.eqo (fun x _ _ => hO2 x (by omega) (by omega) (by omega))
  have hw2 := (hO2 (o + 187) (by omega) (by omega) (by omega)).trans ((hO1 (o + 187) (by omega)).trans hw)
  refine g_icmp_eq 1739 dL_law_398 (by decide) (fun c_9 => ?_) (fun c_9 => ?_)
  · exact KK h2 _ _ _ _ _ _ _ ⟨pl, n0, f, P, L, day, car, err, 0, g, hC2, hR2, hw2, by omega, by omega, hpl⟩ (by (try dsimp only); omega) (by (try dsimp only); omega)
  · exact absurd rfl c_9
set_option maxRecDepth 100000 in
set_option maxHeartbeats 4000000 in
theorem lc_insults {X : gX} {F : gF} {K : gKo} {b Ls i o k n z : Nat} {xs : Nat → Int32} {h : gH} {x5 x6 x7 x8 : Option Value} (hK : gCo X K) (hTh : gTh X) (hT : gTb X .int b Ls (fun j => .int (xs j))) (hLs : Ls ≤ 3072) (hi : i + 6 ≤ Ls) (hk : k + 12 ≤ 601024) (hn : n + 1806 ≤ 7293034) (hI : LwI X K o h z) (KK : ∀ (h' : gH) (z' k' n' : Nat) (a5 a6 a7 a8 : Option Value), LwI X K o h' z' → k' ≤ k + 12 → n' ≤ n + 1806 → G X F cL_law 9 RL lwR k' n' 1739 [some (.ref b), some (.ref o), some (.ref (o + 162)), some (.ref (o + 187)), some (.int (nI i)), a5, a6, a7, a8] [] h' z') : G X F cL_law 9 RL lwR k n 403 [some (.ref b), some (.ref o), some (.ref (o + 162)), some (.ref (o + 187)), some (.int (nI i)), x5, x6, x7, x8] [] h z := by
  obtain ⟨pl, n0, f, P, L, day, car, err, t, g, hC, hR, hw, hz1, hz2, hpl⟩ := hI
  obtain ⟨fs, h0⟩ := hC.at
  obtain ⟨fr, hm⟩ := hR.at
  obtain ⟨hl40, hok, hn0⟩ := hC.len
  have h8 := hok.1.1
  refine g_aload_n dL_law_403 rfl ?_
  refine g_callV0 kL_115 (m10_insults hC) h0 rfl rfl rfl (Nat.le_of_ble_eq_true rfl) (by decide) (by decide) (by (try dsimp only); omega) (by (try dsimp only); omega) dL_law_404 ?_
  rintro v1 h1 z1 ⟨rfl, rfl, hC1, hO1⟩
  have hR1 := hR.eqm (fun x _ _ => hO1 x (by omega)) (fun x _ _ => hO1 x (by omega))
  obtain ⟨fr1, hm1⟩ := hR1.at
  refine g_aload_n dL_law_407 rfl ?_
  refine g_callV0 kL_118 (mR_insults hR1) hm1 rfl rfl rfl (Nat.le_of_ble_eq_true rfl) (by decide) (by decide) (by (try dsimp only); omega) (by (try dsimp only); omega) dL_law_408 ?_
  rintro v1 h2 z1 ⟨rfl, rfl, hR2, hO2⟩
  have hC2 := hC1.eqo (fun x _ _ => hO2 x (by omega) (by omega) (by omega))
  have hw2 := (hO2 (o + 187) (by omega) (by omega) (by omega)).trans ((hO1 (o + 187) (by omega)).trans hw)
  refine g_icmp_eq 1739 dL_law_411 (by decide) (fun c_9 => ?_) (fun c_9 => ?_)
  · exact KK h2 _ _ _ _ _ _ _ ⟨pl, n0, f, P, L, day, car, err, 0, g, hC2, hR2, hw2, by omega, by omega, hpl⟩ (by (try dsimp only); omega) (by (try dsimp only); omega)
  · exact absurd rfl c_9
set_option maxRecDepth 100000 in
set_option maxHeartbeats 4000000 in
theorem lc_day {X : gX} {F : gF} {K : gKo} {b Ls i o k n z : Nat} {xs : Nat → Int32} {h : gH} {x5 x6 x7 x8 : Option Value} (hK : gCo X K) (hTh : gTh X) (hT : gTb X .int b Ls (fun j => .int (xs j))) (hLs : Ls ≤ 3072) (hi : i + 6 ≤ Ls) (hk : k + 12 ≤ 601024) (hn : n + 1806 ≤ 7293034) (hI : LwI X K o h z) (KK : ∀ (h' : gH) (z' k' n' : Nat) (a5 a6 a7 a8 : Option Value), LwI X K o h' z' → k' ≤ k + 12 → n' ≤ n + 1806 → G X F cL_law 9 RL lwR k' n' 1739 [some (.ref b), some (.ref o), some (.ref (o + 162)), some (.ref (o + 187)), some (.int (nI i)), a5, a6, a7, a8] [] h' z') : G X F cL_law 9 RL lwR k n 416 [some (.ref b), some (.ref o), some (.ref (o + 162)), some (.ref (o + 187)), some (.int (nI i)), x5, x6, x7, x8] [] h z := by
  obtain ⟨pl, n0, f, P, L, day, car, err, t, g, hC, hR, hw, hz1, hz2, hpl⟩ := hI
  obtain ⟨fs, h0⟩ := hC.at
  obtain ⟨fr, hm⟩ := hR.at
  obtain ⟨hl40, hok, hn0⟩ := hC.len
  have h8 := hok.1.1
  refine g_aload_n dL_law_416 rfl ?_
  refine g_callV0 kL_119 (m10_day hC) h0 rfl rfl rfl (Nat.le_of_ble_eq_true rfl) (by decide) (by decide) (by (try dsimp only); omega) (by (try dsimp only); omega) dL_law_417 ?_
  rintro v1 h1 z1 ⟨rfl, rfl, hC1, hO1⟩
  have hR1 := hR.eqm (fun x _ _ => hO1 x (by omega)) (fun x _ _ => hO1 x (by omega))
  obtain ⟨fr1, hm1⟩ := hR1.at
  refine g_aload_n dL_law_420 rfl ?_
  refine g_callV0 kL_122 (mR_day hR1) hm1 rfl rfl rfl (Nat.le_of_ble_eq_true rfl) (by decide) (by decide) (by (try dsimp only); omega) (by (try dsimp only); omega) dL_law_421 ?_
  rintro v1 h2 z1 ⟨rfl, rfl, hR2, hO2⟩
  have hC2 := hC1.eqo (fun x _ _ => hO2 x (by omega) (by omega) (by omega))
  have hw2 := (hO2 (o + 187) (by omega) (by omega) (by omega)).trans ((hO1 (o + 187) (by omega)).trans hw)
  refine g_icmp_eq 1739 dL_law_424 (by decide) (fun c_9 => ?_) (fun c_9 => ?_)
  · exact KK h2 _ _ _ _ _ _ _ ⟨pl, n0, f, P, L, day, car, err, 0, g, hC2, hR2, hw2, by omega, by omega, hpl⟩ (by (try dsimp only); omega) (by (try dsimp only); omega)
  · exact absurd rfl c_9
set_option maxRecDepth 100000 in
set_option maxHeartbeats 4000000 in
theorem lc_ordersCarriedOut {X : gX} {F : gF} {K : gKo} {b Ls i o k n z : Nat} {xs : Nat → Int32} {h : gH} {x5 x6 x7 x8 : Option Value} (hK : gCo X K) (hTh : gTh X) (hT : gTb X .int b Ls (fun j => .int (xs j))) (hLs : Ls ≤ 3072) (hi : i + 6 ≤ Ls) (hk : k + 12 ≤ 601024) (hn : n + 1806 ≤ 7293034) (hI : LwI X K o h z) (KK : ∀ (h' : gH) (z' k' n' : Nat) (a5 a6 a7 a8 : Option Value), LwI X K o h' z' → k' ≤ k + 12 → n' ≤ n + 1806 → G X F cL_law 9 RL lwR k' n' 1739 [some (.ref b), some (.ref o), some (.ref (o + 162)), some (.ref (o + 187)), some (.int (nI i)), a5, a6, a7, a8] [] h' z') : G X F cL_law 9 RL lwR k n 429 [some (.ref b), some (.ref o), some (.ref (o + 162)), some (.ref (o + 187)), some (.int (nI i)), x5, x6, x7, x8] [] h z := by
  obtain ⟨pl, n0, f, P, L, day, car, err, t, g, hC, hR, hw, hz1, hz2, hpl⟩ := hI
  obtain ⟨fs, h0⟩ := hC.at
  obtain ⟨fr, hm⟩ := hR.at
  obtain ⟨hl40, hok, hn0⟩ := hC.len
  have h8 := hok.1.1
  refine g_aload_n dL_law_429 rfl ?_
  refine g_callV0 kL_123 (m10_ordersCarriedOut hC) h0 rfl rfl rfl (Nat.le_of_ble_eq_true rfl) (by decide) (by decide) (by (try dsimp only); omega) (by (try dsimp only); omega) dL_law_430 ?_
  rintro v1 h1 z1 ⟨rfl, rfl, hC1, hO1⟩
  have hR1 := hR.eqm (fun x _ _ => hO1 x (by omega)) (fun x _ _ => hO1 x (by omega))
  obtain ⟨fr1, hm1⟩ := hR1.at
  refine g_aload_n dL_law_433 rfl ?_
  refine g_callV0 kL_126 (mR_ordersCarriedOut hR1) hm1 rfl rfl rfl (Nat.le_of_ble_eq_true rfl) (by decide) (by decide) (by (try dsimp only); omega) (by (try dsimp only); omega) dL_law_434 ?_
  rintro v1 h2 z1 ⟨rfl, rfl, hR2, hO2⟩
  have hC2 := hC1.eqo (fun x _ _ => hO2 x (by omega) (by omega) (by omega))
  have hw2 := (hO2 (o + 187) (by omega) (by omega) (by omega)).trans ((hO1 (o + 187) (by omega)).trans hw)
  refine g_icmp_eq 1739 dL_law_437 (by decide) (fun c_9 => ?_) (fun c_9 => ?_)
  · exact KK h2 _ _ _ _ _ _ _ ⟨pl, n0, f, P, L, day, car, err, 0, g, hC2, hR2, hw2, by omega, by omega, hpl⟩ (by (try dsimp only); omega) (by (try dsimp only); omega)
  · exact absurd rfl c_9
set_option maxRecDepth 100000 in
set_option maxHeartbeats 4000000 in
theorem lc_kinds {X : gX} {F : gF} {K : gKo} {b Ls i o k n z : Nat} {xs : Nat → Int32} {h : gH} {x5 x6 x7 x8 : Option Value} (hK : gCo X K) (hTh : gTh X) (hT : gTb X .int b Ls (fun j => .int (xs j))) (hLs : Ls ≤ 3072) (hi : i + 6 ≤ Ls) (hk : k + 12 ≤ 601024) (hn : n + 1806 ≤ 7293034) (hI : LwI X K o h z) (KK : ∀ (h' : gH) (z' k' n' : Nat) (a5 a6 a7 a8 : Option Value), LwI X K o h' z' → k' ≤ k + 12 → n' ≤ n + 1806 → G X F cL_law 9 RL lwR k' n' 1739 [some (.ref b), some (.ref o), some (.ref (o + 162)), some (.ref (o + 187)), some (.int (nI i)), a5, a6, a7, a8] [] h' z') : G X F cL_law 9 RL lwR k n 442 [some (.ref b), some (.ref o), some (.ref (o + 162)), some (.ref (o + 187)), some (.int (nI i)), x5, x6, x7, x8] [] h z := by
  obtain ⟨pl, n0, f, P, L, day, car, err, t, g, hC, hR, hw, hz1, hz2, hpl⟩ := hI
  obtain ⟨fs, h0⟩ := hC.at
  obtain ⟨fr, hm⟩ := hR.at
  obtain ⟨hl40, hok, hn0⟩ := hC.len
  have h8 := hok.1.1
  refine g_aload_n dL_law_442 rfl ?_
  refine g_callV0 kL_127 (m10_kinds hC) h0 rfl rfl rfl (Nat.le_of_ble_eq_true rfl) (by decide) (by decide) (by (try dsimp only); omega) (by (try dsimp only); omega) dL_law_443 ?_
  rintro v1 h1 z1 ⟨rfl, rfl, hC1, hO1⟩
  have hR1 := hR.eqm (fun x _ _ => hO1 x (by omega)) (fun x _ _ => hO1 x (by omega))
  obtain ⟨fr1, hm1⟩ := hR1.at
  refine g_aload_n dL_law_446 rfl ?_
  refine g_callV0 kL_130 (mR_kinds hR1) hm1 rfl rfl rfl (Nat.le_of_ble_eq_true rfl) (by decide) (by decide) (by (try dsimp only); omega) (by (try dsimp only); omega) dL_law_447 ?_
  rintro v1 h2 z1 ⟨rfl, rfl, hR2, hO2⟩
  have hC2 := hC1.eqo (fun x _ _ => hO2 x (by omega) (by omega) (by omega))
  have hw2 := (hO2 (o + 187) (by omega) (by omega) (by omega)).trans ((hO1 (o + 187) (by omega)).trans hw)
  refine g_icmp_eq 1739 dL_law_450 (by decide) (fun c_9 => ?_) (fun c_9 => ?_)
  · exact KK h2 _ _ _ _ _ _ _ ⟨pl, n0, f, P, L, day, car, err, 0, g, hC2, hR2, hw2, by omega, by omega, hpl⟩ (by (try dsimp only); omega) (by (try dsimp only); omega)
  · exact absurd rfl c_9
set_option maxRecDepth 100000 in
set_option maxHeartbeats 4000000 in
theorem lc_longestRepeat {X : gX} {F : gF} {K : gKo} {b Ls i o k n z : Nat} {xs : Nat → Int32} {h : gH} {x5 x6 x7 x8 : Option Value} (hK : gCo X K) (hTh : gTh X) (hT : gTb X .int b Ls (fun j => .int (xs j))) (hLs : Ls ≤ 3072) (hi : i + 6 ≤ Ls) (hk : k + 12 ≤ 601024) (hn : n + 1806 ≤ 7293034) (hI : LwI X K o h z) (KK : ∀ (h' : gH) (z' k' n' : Nat) (a5 a6 a7 a8 : Option Value), LwI X K o h' z' → k' ≤ k + 12 → n' ≤ n + 1806 → G X F cL_law 9 RL lwR k' n' 1739 [some (.ref b), some (.ref o), some (.ref (o + 162)), some (.ref (o + 187)), some (.int (nI i)), a5, a6, a7, a8] [] h' z') : G X F cL_law 9 RL lwR k n 822 [some (.ref b), some (.ref o), some (.ref (o + 162)), some (.ref (o + 187)), some (.int (nI i)), x5, x6, x7, x8] [] h z := by
  obtain ⟨pl, n0, f, P, L, day, car, err, t, g, hC, hR, hw, hz1, hz2, hpl⟩ := hI
  obtain ⟨fs, h0⟩ := hC.at
  obtain ⟨fr, hm⟩ := hR.at
  obtain ⟨hl40, hok, hn0⟩ := hC.len
  have h8 := hok.1.1
  refine g_aload_n dL_law_822 rfl ?_
  refine g_callV0 kL_150 (m10_longestRepeat hC) h0 rfl rfl rfl (Nat.le_of_ble_eq_true rfl) (by decide) (by decide) (by (try dsimp only); omega) (by (try dsimp only); omega) dL_law_823 ?_
  rintro v1 h1 z1 ⟨rfl, rfl, hC1, hO1⟩
  have hR1 := hR.eqm (fun x _ _ => hO1 x (by omega)) (fun x _ _ => hO1 x (by omega))
  obtain ⟨fr1, hm1⟩ := hR1.at
  refine g_aload_n dL_law_826 rfl ?_
  refine g_callV0 kL_153 (mR_longestRepeat hR1) hm1 rfl rfl rfl (Nat.le_of_ble_eq_true rfl) (by decide) (by decide) (by (try dsimp only); omega) (by (try dsimp only); omega) dL_law_827 ?_
  rintro v1 h2 z1 ⟨rfl, rfl, hR2, hO2⟩
  have hC2 := hC1.eqo (fun x _ _ => hO2 x (by omega) (by omega) (by omega))
  have hw2 := (hO2 (o + 187) (by omega) (by omega) (by omega)).trans ((hO1 (o + 187) (by omega)).trans hw)
  refine g_icmp_eq 1739 dL_law_830 (by decide) (fun c_9 => ?_) (fun c_9 => ?_)
  · exact KK h2 _ _ _ _ _ _ _ ⟨pl, n0, f, P, L, day, car, err, 0, g, hC2, hR2, hw2, by omega, by omega, hpl⟩ (by (try dsimp only); omega) (by (try dsimp only); omega)
  · exact absurd rfl c_9
set_option maxRecDepth 100000 in
set_option maxHeartbeats 4000000 in
theorem lc_repeatPlace {X : gX} {F : gF} {K : gKo} {b Ls i o k n z : Nat} {xs : Nat → Int32} {h : gH} {x5 x6 x7 x8 : Option Value} (hK : gCo X K) (hTh : gTh X) (hT : gTb X .int b Ls (fun j => .int (xs j))) (hLs : Ls ≤ 3072) (hi : i + 6 ≤ Ls) (hk : k + 12 ≤ 601024) (hn : n + 1806 ≤ 7293034) (hI : LwI X K o h z) (KK : ∀ (h' : gH) (z' k' n' : Nat) (a5 a6 a7 a8 : Option Value), LwI X K o h' z' → k' ≤ k + 12 → n' ≤ n + 1806 → G X F cL_law 9 RL lwR k' n' 1739 [some (.ref b), some (.ref o), some (.ref (o + 162)), some (.ref (o + 187)), some (.int (nI i)), a5, a6, a7, a8] [] h' z') : G X F cL_law 9 RL lwR k n 835 [some (.ref b), some (.ref o), some (.ref (o + 162)), some (.ref (o + 187)), some (.int (nI i)), x5, x6, x7, x8] [] h z := by
  obtain ⟨pl, n0, f, P, L, day, car, err, t, g, hC, hR, hw, hz1, hz2, hpl⟩ := hI
  obtain ⟨fs, h0⟩ := hC.at
  obtain ⟨fr, hm⟩ := hR.at
  obtain ⟨hl40, hok, hn0⟩ := hC.len
  have h8 := hok.1.1
  refine g_aload_n dL_law_835 rfl ?_
  refine g_callV0 kL_154 (m10_repeatPlace hC) h0 rfl rfl rfl (Nat.le_of_ble_eq_true rfl) (by decide) (by decide) (by (try dsimp only); omega) (by (try dsimp only); omega) dL_law_836 ?_
  rintro v1 h1 z1 ⟨rfl, rfl, hC1, hO1⟩
  have hR1 := hR.eqm (fun x _ _ => hO1 x (by omega)) (fun x _ _ => hO1 x (by omega))
  obtain ⟨fr1, hm1⟩ := hR1.at
  refine g_aload_n dL_law_839 rfl ?_
  refine g_callV0 kL_157 (mR_repeatPlace hR1) hm1 rfl rfl rfl (Nat.le_of_ble_eq_true rfl) (by decide) (by decide) (by (try dsimp only); omega) (by (try dsimp only); omega) dL_law_840 ?_
  rintro v1 h2 z1 ⟨rfl, rfl, hR2, hO2⟩
  have hC2 := hC1.eqo (fun x _ _ => hO2 x (by omega) (by omega) (by omega))
  have hw2 := (hO2 (o + 187) (by omega) (by omega) (by omega)).trans ((hO1 (o + 187) (by omega)).trans hw)
  refine g_icmp_eq 1739 dL_law_843 (by decide) (fun c_9 => ?_) (fun c_9 => ?_)
  · exact KK h2 _ _ _ _ _ _ _ ⟨pl, n0, f, P, L, day, car, err, 0, g, hC2, hR2, hw2, by omega, by omega, hpl⟩ (by (try dsimp only); omega) (by (try dsimp only); omega)
  · exact absurd rfl c_9
set_option maxRecDepth 100000 in
set_option maxHeartbeats 4000000 in
theorem lc_repeatCount {X : gX} {F : gF} {K : gKo} {b Ls i o k n z : Nat} {xs : Nat → Int32} {h : gH} {x5 x6 x7 x8 : Option Value} (hK : gCo X K) (hTh : gTh X) (hT : gTb X .int b Ls (fun j => .int (xs j))) (hLs : Ls ≤ 3072) (hi : i + 6 ≤ Ls) (hk : k + 12 ≤ 601024) (hn : n + 1806 ≤ 7293034) (hI : LwI X K o h z) (KK : ∀ (h' : gH) (z' k' n' : Nat) (a5 a6 a7 a8 : Option Value), LwI X K o h' z' → k' ≤ k + 12 → n' ≤ n + 1806 → G X F cL_law 9 RL lwR k' n' 1739 [some (.ref b), some (.ref o), some (.ref (o + 162)), some (.ref (o + 187)), some (.int (nI i)), a5, a6, a7, a8] [] h' z') : G X F cL_law 9 RL lwR k n 848 [some (.ref b), some (.ref o), some (.ref (o + 162)), some (.ref (o + 187)), some (.int (nI i)), x5, x6, x7, x8] [] h z := by
  obtain ⟨pl, n0, f, P, L, day, car, err, t, g, hC, hR, hw, hz1, hz2, hpl⟩ := hI
  obtain ⟨fs, h0⟩ := hC.at
  obtain ⟨fr, hm⟩ := hR.at
  obtain ⟨hl40, hok, hn0⟩ := hC.len
  have h8 := hok.1.1
  refine g_aload_n dL_law_848 rfl ?_
  refine g_callV0 kL_158 (m10_repeatCount hC) h0 rfl rfl rfl (Nat.le_of_ble_eq_true rfl) (by decide) (by decide) (by (try dsimp only); omega) (by (try dsimp only); omega) dL_law_849 ?_
  rintro v1 h1 z1 ⟨rfl, rfl, hC1, hO1⟩
  have hR1 := hR.eqm (fun x _ _ => hO1 x (by omega)) (fun x _ _ => hO1 x (by omega))
  obtain ⟨fr1, hm1⟩ := hR1.at
  refine g_aload_n dL_law_852 rfl ?_
  refine g_callV0 kL_161 (mR_repeatCount hR1) hm1 rfl rfl rfl (Nat.le_of_ble_eq_true rfl) (by decide) (by decide) (by (try dsimp only); omega) (by (try dsimp only); omega) dL_law_853 ?_
  rintro v1 h2 z1 ⟨rfl, rfl, hR2, hO2⟩
  have hC2 := hC1.eqo (fun x _ _ => hO2 x (by omega) (by omega) (by omega))
  have hw2 := (hO2 (o + 187) (by omega) (by omega) (by omega)).trans ((hO1 (o + 187) (by omega)).trans hw)
  refine g_icmp_eq 1739 dL_law_856 (by decide) (fun c_9 => ?_) (fun c_9 => ?_)
  · exact KK h2 _ _ _ _ _ _ _ ⟨pl, n0, f, P, L, day, car, err, 0, g, hC2, hR2, hw2, by omega, by omega, hpl⟩ (by (try dsimp only); omega) (by (try dsimp only); omega)
  · exact absurd rfl c_9
set_option maxRecDepth 100000 in
set_option maxHeartbeats 4000000 in
theorem lc_mockedAtEnd {X : gX} {F : gF} {K : gKo} {b Ls i o k n z : Nat} {xs : Nat → Int32} {h : gH} {x5 x6 x7 x8 : Option Value} (hK : gCo X K) (hTh : gTh X) (hT : gTb X .int b Ls (fun j => .int (xs j))) (hLs : Ls ≤ 3072) (hi : i + 6 ≤ Ls) (hk : k + 12 ≤ 601024) (hn : n + 1806 ≤ 7293034) (hI : LwI X K o h z) (KK : ∀ (h' : gH) (z' k' n' : Nat) (a5 a6 a7 a8 : Option Value), LwI X K o h' z' → k' ≤ k + 12 → n' ≤ n + 1806 → G X F cL_law 9 RL lwR k' n' 1739 [some (.ref b), some (.ref o), some (.ref (o + 162)), some (.ref (o + 187)), some (.int (nI i)), a5, a6, a7, a8] [] h' z') : G X F cL_law 9 RL lwR k n 973 [some (.ref b), some (.ref o), some (.ref (o + 162)), some (.ref (o + 187)), some (.int (nI i)), x5, x6, x7, x8] [] h z := by
  obtain ⟨pl, n0, f, P, L, day, car, err, t, g, hC, hR, hw, hz1, hz2, hpl⟩ := hI
  obtain ⟨fs, h0⟩ := hC.at
  obtain ⟨fr, hm⟩ := hR.at
  obtain ⟨hl40, hok, hn0⟩ := hC.len
  have h8 := hok.1.1
  refine g_aload_n dL_law_973 rfl ?_
  refine g_callV0 kL_168 (m10_mockedAtEnd hC) h0 rfl rfl rfl (Nat.le_of_ble_eq_true rfl) (by decide) (by decide) (by (try dsimp only); omega) (by (try dsimp only); omega) dL_law_974 ?_
  rintro v1 h1 z1 ⟨rfl, rfl, hC1, hO1⟩
  have hR1 := hR.eqm (fun x _ _ => hO1 x (by omega)) (fun x _ _ => hO1 x (by omega))
  obtain ⟨fr1, hm1⟩ := hR1.at
  refine g_aload_n dL_law_977 rfl ?_
  refine g_callV0 kL_171 (mR_mockedAtEnd hR1) hm1 rfl rfl rfl (Nat.le_of_ble_eq_true rfl) (by decide) (by decide) (by (try dsimp only); omega) (by (try dsimp only); omega) dL_law_978 ?_
  rintro v1 h2 z1 ⟨rfl, rfl, hR2, hO2⟩
  have hC2 := hC1.eqo (fun x _ _ => hO2 x (by omega) (by omega) (by omega))
  have hw2 := (hO2 (o + 187) (by omega) (by omega) (by omega)).trans ((hO1 (o + 187) (by omega)).trans hw)
  refine g_icmp_eq 1739 dL_law_981 (by decide) (fun c_9 => ?_) (fun c_9 => ?_)
  · exact KK h2 _ _ _ _ _ _ _ ⟨pl, n0, f, P, L, day, car, err, 0, g, hC2, hR2, hw2, by omega, by omega, hpl⟩ (by (try dsimp only); omega) (by (try dsimp only); omega)
  · exact absurd rfl c_9
set_option maxRecDepth 100000 in
set_option maxHeartbeats 4000000 in
theorem lc_mostSaid {X : gX} {F : gF} {K : gKo} {b Ls i o k n z : Nat} {xs : Nat → Int32} {h : gH} {x5 x6 x7 x8 : Option Value} (hK : gCo X K) (hTh : gTh X) (hT : gTb X .int b Ls (fun j => .int (xs j))) (hLs : Ls ≤ 3072) (hi : i + 6 ≤ Ls) (hk : k + 12 ≤ 601024) (hn : n + 1806 ≤ 7293034) (hI : LwI X K o h z) (KK : ∀ (h' : gH) (z' k' n' : Nat) (a5 a6 a7 a8 : Option Value), LwI X K o h' z' → k' ≤ k + 12 → n' ≤ n + 1806 → G X F cL_law 9 RL lwR k' n' 1739 [some (.ref b), some (.ref o), some (.ref (o + 162)), some (.ref (o + 187)), some (.int (nI i)), a5, a6, a7, a8] [] h' z') : G X F cL_law 9 RL lwR k n 1266 [some (.ref b), some (.ref o), some (.ref (o + 162)), some (.ref (o + 187)), some (.int (nI i)), x5, x6, x7, x8] [] h z := by
  obtain ⟨pl, n0, f, P, L, day, car, err, t, g, hC, hR, hw, hz1, hz2, hpl⟩ := hI
  obtain ⟨fs, h0⟩ := hC.at
  obtain ⟨fr, hm⟩ := hR.at
  obtain ⟨hl40, hok, hn0⟩ := hC.len
  have h8 := hok.1.1
  refine g_aload_n dL_law_1266 rfl ?_
  refine g_callV0 kL_187 (m10_mostSaid hC) h0 rfl rfl rfl (Nat.le_of_ble_eq_true rfl) (by decide) (by decide) (by (try dsimp only); omega) (by (try dsimp only); omega) dL_law_1267 ?_
  rintro v1 h1 z1 ⟨rfl, rfl, hC1, hO1⟩
  have hR1 := hR.eqm (fun x _ _ => hO1 x (by omega)) (fun x _ _ => hO1 x (by omega))
  obtain ⟨fr1, hm1⟩ := hR1.at
  refine g_aload_n dL_law_1270 rfl ?_
  refine g_callV0 kL_190 (mR_mostSaid hR1) hm1 rfl rfl rfl (Nat.le_of_ble_eq_true rfl) (by decide) (by decide) (by (try dsimp only); omega) (by (try dsimp only); omega) dL_law_1271 ?_
  rintro v1 h2 z1 ⟨rfl, rfl, hR2, hO2⟩
  have hC2 := hC1.eqo (fun x _ _ => hO2 x (by omega) (by omega) (by omega))
  have hw2 := (hO2 (o + 187) (by omega) (by omega) (by omega)).trans ((hO1 (o + 187) (by omega)).trans hw)
  refine g_icmp_eq 1739 dL_law_1274 (by decide) (fun c_9 => ?_) (fun c_9 => ?_)
  · exact KK h2 _ _ _ _ _ _ _ ⟨pl, n0, f, P, L, day, car, err, 0, g, hC2, hR2, hw2, by omega, by omega, hpl⟩ (by (try dsimp only); omega) (by (try dsimp only); omega)
  · exact absurd rfl c_9
set_option maxRecDepth 100000 in
set_option maxHeartbeats 4000000 in
theorem lc_bestLetter {X : gX} {F : gF} {K : gKo} {b Ls i o k n z : Nat} {xs : Nat → Int32} {h : gH} {x5 x6 x7 x8 : Option Value} (hK : gCo X K) (hTh : gTh X) (hT : gTb X .int b Ls (fun j => .int (xs j))) (hLs : Ls ≤ 3072) (hi : i + 6 ≤ Ls) (hk : k + 12 ≤ 601024) (hn : n + 1806 ≤ 7293034) (hI : LwI X K o h z) (KK : ∀ (h' : gH) (z' k' n' : Nat) (a5 a6 a7 a8 : Option Value), LwI X K o h' z' → k' ≤ k + 12 → n' ≤ n + 1806 → G X F cL_law 9 RL lwR k' n' 1739 [some (.ref b), some (.ref o), some (.ref (o + 162)), some (.ref (o + 187)), some (.int (nI i)), a5, a6, a7, a8] [] h' z') : G X F cL_law 9 RL lwR k n 1671 [some (.ref b), some (.ref o), some (.ref (o + 162)), some (.ref (o + 187)), some (.int (nI i)), x5, x6, x7, x8] [] h z := by
  obtain ⟨pl, n0, f, P, L, day, car, err, t, g, hC, hR, hw, hz1, hz2, hpl⟩ := hI
  obtain ⟨fs, h0⟩ := hC.at
  obtain ⟨fr, hm⟩ := hR.at
  obtain ⟨hl40, hok, hn0⟩ := hC.len
  have h8 := hok.1.1
  refine g_aload_n dL_law_1671 rfl ?_
  refine g_callV0 kL_212 (m10_bestLetter hC) h0 rfl rfl rfl (Nat.le_of_ble_eq_true rfl) (by decide) (by decide) (by (try dsimp only); omega) (by (try dsimp only); omega) dL_law_1672 ?_
  rintro v1 h1 z1 ⟨rfl, rfl, hC1, hO1⟩
  have hR1 := hR.eqm (fun x _ _ => hO1 x (by omega)) (fun x _ _ => hO1 x (by omega))
  obtain ⟨fr1, hm1⟩ := hR1.at
  refine g_aload_n dL_law_1675 rfl ?_
  refine g_callV0 kL_215 (mR_bestLetter hR1) hm1 rfl rfl rfl (Nat.le_of_ble_eq_true rfl) (by decide) (by decide) (by (try dsimp only); omega) (by (try dsimp only); omega) dL_law_1676 ?_
  rintro v1 h2 z1 ⟨rfl, rfl, hR2, hO2⟩
  have hC2 := hC1.eqo (fun x _ _ => hO2 x (by omega) (by omega) (by omega))
  have hw2 := (hO2 (o + 187) (by omega) (by omega) (by omega)).trans ((hO1 (o + 187) (by omega)).trans hw)
  rw [brV_26]
  refine g_icmp_eq 1739 dL_law_1679 (by decide) (fun c_9 => ?_) (fun c_9 => ?_)
  · exact KK h2 _ _ _ _ _ _ _ ⟨pl, n0, f, P, L, day, car, err, 0, g, hC2, hR2, hw2, by omega, by omega, hpl⟩ (by (try dsimp only); omega) (by (try dsimp only); omega)
  · exact absurd rfl c_9
set_option maxRecDepth 100000 in
set_option maxHeartbeats 4000000 in
theorem lc_digest {X : gX} {F : gF} {K : gKo} {b Ls i o k n z : Nat} {xs : Nat → Int32} {h : gH} {x5 x6 x7 x8 : Option Value} (hK : gCo X K) (hTh : gTh X) (hT : gTb X .int b Ls (fun j => .int (xs j))) (hLs : Ls ≤ 3072) (hi : i + 6 ≤ Ls) (hk : k + 12 ≤ 601024) (hn : n + 1806 ≤ 7293034) (hI : LwI X K o h z) (KK : ∀ (h' : gH) (z' k' n' : Nat) (a5 a6 a7 a8 : Option Value), LwI X K o h' z' → k' ≤ k + 12 → n' ≤ n + 1806 → G X F cL_law 9 RL lwR k' n' 1739 [some (.ref b), some (.ref o), some (.ref (o + 162)), some (.ref (o + 187)), some (.int (nI i)), a5, a6, a7, a8] [] h' z') : G X F cL_law 9 RL lwR k n 1725 [some (.ref b), some (.ref o), some (.ref (o + 162)), some (.ref (o + 187)), some (.int (nI i)), x5, x6, x7, x8] [] h z := by
  obtain ⟨pl, n0, f, P, L, day, car, err, t, g, hC, hR, hw, hz1, hz2, hpl⟩ := hI
  obtain ⟨fs, h0⟩ := hC.at
  obtain ⟨fr, hm⟩ := hR.at
  obtain ⟨hl40, hok, hn0⟩ := hC.len
  have h8 := hok.1.1
  refine g_aload_n dL_law_1725 rfl ?_
  refine g_callV0 kL_221 (m10_digest hC) h0 rfl rfl rfl (Nat.le_of_ble_eq_true rfl) (by decide) (by decide) (by (try dsimp only); omega) (by (try dsimp only); omega) dL_law_1726 ?_
  rintro v1 h1 z1 ⟨rfl, rfl, hC1, hO1⟩
  have hR1 := hR.eqm (fun x _ _ => hO1 x (by omega)) (fun x _ _ => hO1 x (by omega))
  obtain ⟨fr1, hm1⟩ := hR1.at
  refine g_aload_n dL_law_1729 rfl ?_
  refine g_callV kL_225 (mR_digest (by omega) hz2 hR1) hm1 rfl rfl rfl (Nat.le_of_ble_eq_true rfl) (by decide) (by decide) (by (try dsimp only); omega) (by (try dsimp only); omega) dL_law_1730 (fun _ _ _ q => q) ?_
  rintro v1 h2 z2 ⟨rfl, rfl, hR2, hO2⟩
  have hC2 := hC1.eqo (fun x _ _ => hO2 x (by omega) (by omega) (by omega) (by omega))
  have hw2 := (hO2 (o + 187) (by omega) (by omega) (by omega) (by omega)).trans ((hO1 (o + 187) (by omega)).trans hw)
  refine g_lcmp dL_law_1733 ?_
  rw [lcmp_self]
  refine g_if_eq 1739 dL_law_1734 (by decide) (fun c_9 => ?_) (fun c_9 => ?_)
  · exact KK h2 _ _ _ _ _ _ _ ⟨pl, n0, f, P, L, day, car, err, 0, g, hC2, hR2, hw2, by omega, by omega, hpl⟩ (by (try dsimp only); omega) (by (try dsimp only); omega)
  · exact absurd rfl c_9
set_option maxRecDepth 100000 in
set_option maxHeartbeats 4000000 in
theorem lc_meanShared {X : gX} {F : gF} {K : gKo} {b Ls i o k n z : Nat} {xs : Nat → Int32} {h : gH} {x5 x6 x7 x8 : Option Value} (hK : gCo X K) (hTh : gTh X) (hT : gTb X .int b Ls (fun j => .int (xs j))) (hLs : Ls ≤ 3072) (hi : i + 6 ≤ Ls) (hk : k + 12 ≤ 601024) (hn : n + 1806 ≤ 7293034) (hI : LwI X K o h z) (KK : ∀ (h' : gH) (z' k' n' : Nat) (a5 a6 a7 a8 : Option Value), LwI X K o h' z' → k' ≤ k + 12 → n' ≤ n + 1806 → G X F cL_law 9 RL lwR k' n' 1739 [some (.ref b), some (.ref o), some (.ref (o + 162)), some (.ref (o + 187)), some (.int (nI i)), a5, a6, a7, a8] [] h' z') : G X F cL_law 9 RL lwR k n 1684 [some (.ref b), some (.ref o), some (.ref (o + 162)), some (.ref (o + 187)), some (.int (nI i)), x5, x6, x7, x8] [] h z := by
  obtain ⟨pl, n0, f, P, L, day, car, err, t, g, hC, hR, hw, hz1, hz2, hpl⟩ := hI
  obtain ⟨fs, h0⟩ := hC.at
  obtain ⟨fr, hm⟩ := hR.at
  obtain ⟨hl40, hok, hn0⟩ := hC.len
  have h8 := hok.1.1
  refine g_aload_n dL_law_1684 rfl ?_
  refine g_callV0 kL_216 (m10_meanShared hC) h0 rfl rfl rfl (Nat.le_of_ble_eq_true rfl) (by decide) (by decide) (by (try dsimp only); omega) (by (try dsimp only); omega) dL_law_1685 ?_
  rintro v1 h1 z1 ⟨rfl, rfl, hC1, hO1⟩
  have hR1 := hR.eqm (fun x _ _ => hO1 x (by omega)) (fun x _ _ => hO1 x (by omega))
  obtain ⟨fr1, hm1⟩ := hR1.at
  refine g_dstore dL_law_1688 (by decide) rfl ?_
  refine g_aload_n dL_law_1690 rfl ?_
  refine g_callV0 kL_220 (mR_meanShared hR1) hm1 rfl rfl rfl (Nat.le_of_ble_eq_true rfl) (by decide) (by decide) (by (try dsimp only); omega) (by (try dsimp only); omega) dL_law_1691 ?_
  rintro v1 h2 z1 ⟨rfl, rfl, hR2, hO2⟩
  have hC2 := hC1.eqo (fun x _ _ => hO2 x (by omega) (by omega) (by omega))
  have hw2 := (hO2 (o + 187) (by omega) (by omega) (by omega)).trans ((hO1 (o + 187) (by omega)).trans hw)
  refine g_dstore dL_law_1694 (by decide) rfl ?_
  refine g_dload dL_law_1696 rfl ?_
  refine g_dload dL_law_1698 rfl ?_
  refine g_dcmp dL_law_1700 ?_
  refine g_if_eq 1722 dL_law_1701 (by decide) (fun c_1 => ?_) (fun c_1 => ?_)
  · refine g_goto 1739 dL_law_1722 (by decide) ?_
    exact KK h2 _ _ _ _ _ _ _ ⟨pl, n0, f, P, L, day, car, err, 0, g, hC2, hR2, hw2, by omega, by omega, hpl⟩ (by (try dsimp only); omega) (by (try dsimp only); omega)
  · refine g_dload dL_law_1704 rfl ?_
    refine g_dload dL_law_1706 rfl ?_
    refine g_dcmp dL_law_1708 ?_
    refine g_if_eq 1720 dL_law_1709 (by decide) (fun c_2 => ?_) (fun c_2 => ?_)
    · exact absurd c_2 c_1
    · refine g_dload dL_law_1712 rfl ?_
      refine g_dload dL_law_1714 rfl ?_
      refine g_dcmp dL_law_1716 ?_
      refine g_if_ne 1722 dL_law_1717 (by decide) (fun c_3 => ?_) (fun c_3 => ?_)
      · refine g_goto 1739 dL_law_1722 (by decide) ?_
        exact KK h2 _ _ _ _ _ _ _ ⟨pl, n0, f, P, L, day, car, err, 0, g, hC2, hR2, hw2, by omega, by omega, hpl⟩ (by (try dsimp only); omega) (by (try dsimp only); omega)
      · exact absurd c_3 c_1
set_option maxRecDepth 100000 in
set_option maxHeartbeats 4000000 in
theorem lc_teach {X : gX} {F : gF} {K : gKo} {b Ls i o k n z : Nat} {xs : Nat → Int32} {h : gH} {x5 x6 x7 x8 : Option Value} (hK : gCo X K) (hTh : gTh X) (hT : gTb X .int b Ls (fun j => .int (xs j))) (hLs : Ls ≤ 3072) (hi : i + 6 ≤ Ls) (hk : k + 12 ≤ 601024) (hn : n + 1806 ≤ 7293034) (hI : LwI X K o h z) (KK : ∀ (h' : gH) (z' k' n' : Nat) (a5 a6 a7 a8 : Option Value), LwI X K o h' z' → k' ≤ k + 12 → n' ≤ n + 1806 → G X F cL_law 9 RL lwR k' n' 1739 [some (.ref b), some (.ref o), some (.ref (o + 162)), some (.ref (o + 187)), some (.int (nI i)), a5, a6, a7, a8] [] h' z') : G X F cL_law 9 RL lwR k n 364 [some (.ref b), some (.ref o), some (.ref (o + 162)), some (.ref (o + 187)), some (.int (nI i)), x5, x6, x7, x8] [] h z := by
  obtain ⟨pl, n0, f, P, L, day, car, err, t, g, hC, hR, hw, hz1, hz2, hpl⟩ := hI
  obtain ⟨fs, h0⟩ := hC.at
  obtain ⟨fr, hm⟩ := hR.at
  obtain ⟨hl40, hok, hn0⟩ := hC.len
  have h8 := hok.1.1
  refine g_aload_n dL_law_364 rfl ?_
  refine g_callV0 kL_103 (m10_teach hK hC) h0 rfl rfl rfl (Nat.le_of_ble_eq_true rfl) (by decide) (by decide) (by (try dsimp only); omega) (by (try dsimp only); omega) dL_law_365 ?_
  rintro v1 h1 z1 ⟨rfl, rfl, hC1, hO1⟩
  have hR1 := hR.eqm (fun x _ _ => hO1 x (by omega)) (fun x _ _ => hO1 x (by omega))
  obtain ⟨fr1, hm1⟩ := hR1.at
  refine g_aload_n dL_law_368 rfl ?_
  refine g_callV kL_106 (mR_teach hK (by omega) hz2 hR1) hm1 rfl rfl rfl (Nat.le_of_ble_eq_true rfl) (by decide) (by decide) (by (try dsimp only); omega) (by (try dsimp only); omega) dL_law_369 (fun _ _ _ q => q) ?_
  rintro v1 h2 z2 ⟨rfl, rfl, hR2, hO2⟩
  have hw2 := (hO2 (o + 187) (by omega) (by omega) (by omega) (by omega)).trans ((hO1 (o + 187) (by omega)).trans hw)
  refine g_icmp_eq 1739 dL_law_372 (by decide) (fun c_9 => ?_) (fun c_9 => ?_)
  · by_cases he : bkE n0 f = 0
    · rw [if_pos he] at hC1 hR2
      have hC2 := hC1.eqo (fun x _ _ => hO2 x (by omega) (by omega) (by omega) (by omega))
      exact KK h2 _ _ _ _ _ _ _ ⟨_, 0, f, plM n0 f (bkR n0 f).2, [], 0, 0, bkP n0 f, 0, g, hC2, hR2, hw2, by omega, by omega, Or.inr (by omega)⟩ (by (try dsimp only); omega) (by (try dsimp only); omega)
    · rw [if_neg he] at hC1 hR2
      have hC2 := hC1.eqo (fun x _ _ => hO2 x (by omega) (by omega) (by omega) (by omega))
      exact KK h2 _ _ _ _ _ _ _ ⟨pl, 0, f, P, L, day, car, bkP n0 f, 0, g, hC2, hR2, hw2, by omega, by omega, hpl⟩ (by (try dsimp only); omega) (by (try dsimp only); omega)
  · exact absurd rfl c_9
