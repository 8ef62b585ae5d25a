/-! the law: its switch, case by case: b -/
set_option maxRecDepth 100000 in
set_option maxHeartbeats 4000000 in
theorem lc_letterAt {X : gX} {F : gF} {K : gKo} {b Ls i o k n z : Nat} {xs : Nat → Int32} {h : gH} {x5 x6 x7 x8 : Option Value} (hK : gCo X K) (hTh : gTh X) (hT : gTb X .int b Ls (fun j => .int (xs j))) (hLs : Ls ≤ 3072) (hi : i + 6 ≤ Ls) (hk : k + 12 ≤ 601024) (hn : n + 1806 ≤ 7293034) (hI : LwI X K o h z) (KK : ∀ (h' : gH) (z' k' n' : Nat) (a5 a6 a7 a8 : Option Value), LwI X K o h' z' → k' ≤ k + 12 → n' ≤ n + 1806 → G X F cL_law 9 RL lwR k' n' 1739 [some (.ref b), some (.ref o), some (.ref (o + 162)), some (.ref (o + 187)), some (.int (nI i)), a5, a6, a7, a8] [] h' z') : G X F cL_law 9 RL lwR k n 455 [some (.ref b), some (.ref o), some (.ref (o + 162)), some (.ref (o + 187)), some (.int (nI i)), x5, x6, x7, x8] [] h z := by
  obtain ⟨pl, n0, f, P, L, day, car, err, t, g, hC, hR, hw, hz1, hz2, hpl⟩ := hI
  obtain ⟨fs, h0⟩ := hC.at
  obtain ⟨fr, hm⟩ := hR.at
  obtain ⟨hl40, hok, hn0⟩ := hC.len
  have h8 := hok.1.1
  obtain ⟨p, hp⟩ : ∃ p, xs (i + 1) = p := ⟨_, rfl⟩
  by_cases hc : p.toNatClampNeg < L.length ∧ p = nI p.toNatClampNeg
  · have hx := hc.2
    have hk0 := hc.1
    generalize hkk : p.toNatClampNeg = k0 at hk0 hx
    subst hx
    have hc2 : k0 < L.length ∧ nI k0 = nI k0 := ⟨hk0, rfl⟩
    refine g_aload_n dL_law_455 rfl ?_
    refine g_aload_n dL_law_456 rfl ?_
    refine g_iload dL_law_457 rfl ?_
    refine g_iconst (nI 1) dL_law_459 (by decide) ?_
    first | refine g_iaddN dL_law_460 ?_ | refine g_iadd dL_law_460 ?_
    refine g_tald (j := i + 1) hT (by omega) (by omega) dL_law_461 ?_
    rw [hp]
    refine g_aload_n dL_law_462 rfl ?_
    refine g_callSH kw_letterAt (wL_letterAt (nI k0) h0 hw (Or.inr (by omega)) (m10_letterAt k0 hk0 hC)) rfl rfl (Nat.le_of_ble_eq_true rfl) (by decide) (by decide) (by (try dsimp only); omega) (by (try dsimp only); omega) dL_law_463 ?_
    rintro v1 h1 z1 ⟨rfl, rfl, h9, hC9, hO9, e1⟩
    have hR1 : RefS X h1 (o + 162) pl n0 f P L day car err t := hR.eqm (fun x _ _ => by rw [e1, gset_ne (by omega)]; exact hO9 x (by omega)) (fun x _ _ => by rw [e1, gset_ne (by omega)]; exact hO9 x (by omega))
    have hC1 := hC9.eqo (h' := h1) (fun x _ _ => by rw [e1, gset_ne (by omega)])
    have hw1 := (congrFun e1 (o + 187)).trans gset_same
    obtain ⟨fr1, hm1⟩ := hR1.at
    have hM := fun z0 => m12_letterAt (z := z0) (nI k0) hR1
    rw [hkk] at hM
    refine g_istore dL_law_466 (by decide) rfl ?_
    refine g_aload_n dL_law_468 rfl ?_
    refine g_aload_n dL_law_469 rfl ?_
    refine g_iload dL_law_470 rfl ?_
    refine g_iconst (nI 1) dL_law_472 (by decide) ?_
    first | refine g_iaddN dL_law_473 ?_ | refine g_iadd dL_law_473 ?_
    refine g_tald (j := i + 1) hT (by omega) (by omega) dL_law_474 ?_
    rw [hp]
    refine g_callV0 kL_133 (hM _) hm1 rfl rfl rfl (Nat.le_of_ble_eq_true rfl) (by decide) (by decide) (by (try dsimp only); omega) (by (try dsimp only); omega) dL_law_475 ?_
    rintro v1 h2 z1 ⟨rfl, rfl, hR2, hO2⟩
    rw [if_pos hc2]
    rw [if_pos hc2] at hR2
    have hC2 := hC1.eqo (fun x _ _ => hO2 x (by omega) (by omega) (by omega))
    have hw2 := (hO2 (o + 187) (by omega) (by omega) (by omega)).trans hw1
    obtain ⟨fr2, hm2⟩ := hR2.at
    refine g_istore dL_law_478 (by decide) rfl ?_
    refine g_aload_n dL_law_480 rfl ?_
    refine g_callV0 kL_95 (mR_thrown hR2) hm2 rfl rfl rfl (Nat.le_of_ble_eq_true rfl) (by decide) (by decide) (by (try dsimp only); omega) (by (try dsimp only); omega) dL_law_481 ?_
    rintro v1 h3 z1 ⟨rfl, rfl, rfl⟩
    refine g_iload dL_law_484 rfl ?_
    refine g_icmp_eq 491 dL_law_486 (by decide) (fun c_1 => ?_) (fun c_1 => ?_)
    · refine g_iload dL_law_491 rfl ?_
      refine g_if_ne 508 dL_law_493 (by decide) (fun c_2 => ?_) (fun c_2 => ?_)
      · exact absurd rfl c_2
      · refine g_aload_n dL_law_496 rfl ?_
        refine g_iconst (nI 0) dL_law_497 (by decide) ?_
        refine g_laldN (j := 0) hw2 (by decide) (by decide) dL_law_498 ?_
        rw [vpL_same]
        refine g_iload dL_law_499 rfl ?_
        refine g_i2l dL_law_501 ?_
        refine g_lcmp dL_law_502 ?_
        rw [lcmp_self]
        refine g_if_eq 508 dL_law_503 (by decide) (fun c_3 => ?_) (fun c_3 => ?_)
        · refine g_goto 1739 dL_law_508 (by decide) ?_
          exact KK _ _ _ _ _ _ _ _ ⟨pl, n0, f, P, L, day, car, err, 0, _, hC2, hR2, hw2, by omega, by omega, hpl⟩ (by (try dsimp only); omega) (by (try dsimp only); omega)
        · exact absurd rfl c_3
    · exact absurd rfl c_1
  · refine g_aload_n dL_law_455 rfl ?_
    refine g_aload_n dL_law_456 rfl ?_
    refine g_iload dL_law_457 rfl ?_
    refine g_iconst (nI 1) dL_law_459 (by decide) ?_
    first | refine g_iaddN dL_law_460 ?_ | refine g_iadd dL_law_460 ?_
    refine g_tald (j := i + 1) hT (by omega) (by omega) dL_law_461 ?_
    rw [hp]
    refine g_aload_n dL_law_462 rfl ?_
    refine g_callSH kw_letterAt (wX_letterAt p h0 (m10_letterAtX p hc hTh hC)) rfl rfl (Nat.le_of_ble_eq_true rfl) (by decide) (by decide) (by (try dsimp only); omega) (by (try dsimp only); omega) dL_law_463 ?_
    rintro v1 h1 z1 ⟨rfl, rfl, hz9⟩
    have hM := fun z0 => m12_letterAt (z := z0) p hR
    refine g_istore dL_law_466 (by decide) rfl ?_
    refine g_aload_n dL_law_468 rfl ?_
    refine g_aload_n dL_law_469 rfl ?_
    refine g_iload dL_law_470 rfl ?_
    refine g_iconst (nI 1) dL_law_472 (by decide) ?_
    first | refine g_iaddN dL_law_473 ?_ | refine g_iadd dL_law_473 ?_
    refine g_tald (j := i + 1) hT (by omega) (by omega) dL_law_474 ?_
    rw [hp]
    refine g_callV0 kL_133 (hM _) hm rfl rfl rfl (Nat.le_of_ble_eq_true rfl) (by decide) (by decide) (by (try dsimp only); omega) (by (try dsimp only); omega) dL_law_475 ?_
    rintro v1 h2 z1 ⟨rfl, rfl, hR2, hO2⟩
    rw [if_neg hc]
    rw [if_neg hc] at hR2
    have hC2 := hC.eqo (fun x _ _ => hO2 x (by omega) (by omega) (by omega))
    have hw2 := (hO2 (o + 187) (by omega) (by omega) (by omega)).trans hw
    obtain ⟨fr2, hm2⟩ := hR2.at
    refine g_istore dL_law_478 (by decide) rfl ?_
    refine g_aload_n dL_law_480 rfl ?_
    refine g_callV0 kL_95 (mR_thrown hR2) hm2 rfl rfl rfl (Nat.le_of_ble_eq_true rfl) (by decide) (by decide) (by (try dsimp only); omega) (by (try dsimp only); omega) dL_law_481 ?_
    rintro v1 h3 z1 ⟨rfl, rfl, rfl⟩
    refine g_iload dL_law_484 rfl ?_
    refine g_icmp_eq 491 dL_law_486 (by decide) (fun c_1 => ?_) (fun c_1 => ?_)
    · refine g_iload dL_law_491 rfl ?_
      refine g_if_ne 508 dL_law_493 (by decide) (fun c_2 => ?_) (fun c_2 => ?_)
      · refine g_goto 1739 dL_law_508 (by decide) ?_
        exact KK _ _ _ _ _ _ _ _ ⟨pl, n0, f, P, L, day, car, err, 1, g, hC2, hR2, hw2, by omega, by omega, hpl⟩ (by (try dsimp only); omega) (by (try dsimp only); omega)
      · exact absurd c_2 (by decide)
    · exact absurd rfl c_1
set_option maxRecDepth 100000 in
set_option maxHeartbeats 4000000 in
theorem lc_rankOf {X : gX} {F : gF} {K : gKo} {b Ls i o k n z : Nat} {xs : Nat → Int32} {h : gH} {x5 x6 x7 x8 : Option Value} (hK : gCo X K) (hTh : gTh X) (hT : gTb X .int b Ls (fun j => .int (xs j))) (hLs : Ls ≤ 3072) (hi : i + 6 ≤ Ls) (hk : k + 12 ≤ 601024) (hn : n + 1806 ≤ 7293034) (hI : LwI X K o h z) (KK : ∀ (h' : gH) (z' k' n' : Nat) (a5 a6 a7 a8 : Option Value), LwI X K o h' z' → k' ≤ k + 12 → n' ≤ n + 1806 → G X F cL_law 9 RL lwR k' n' 1739 [some (.ref b), some (.ref o), some (.ref (o + 162)), some (.ref (o + 187)), some (.int (nI i)), a5, a6, a7, a8] [] h' z') : G X F cL_law 9 RL lwR k n 511 [some (.ref b), some (.ref o), some (.ref (o + 162)), some (.ref (o + 187)), some (.int (nI i)), x5, x6, x7, x8] [] h z := by
  obtain ⟨pl, n0, f, P, L, day, car, err, t, g, hC, hR, hw, hz1, hz2, hpl⟩ := hI
  obtain ⟨fs, h0⟩ := hC.at
  obtain ⟨fr, hm⟩ := hR.at
  obtain ⟨hl40, hok, hn0⟩ := hC.len
  have h8 := hok.1.1
  obtain ⟨p, hp⟩ : ∃ p, xs (i + 1) = p := ⟨_, rfl⟩
  by_cases hc : p.toNatClampNeg < L.length ∧ p = nI p.toNatClampNeg
  · have hx := hc.2
    have hk0 := hc.1
    generalize hkk : p.toNatClampNeg = k0 at hk0 hx
    subst hx
    have hc2 : k0 < L.length ∧ nI k0 = nI k0 := ⟨hk0, rfl⟩
    refine g_aload_n dL_law_511 rfl ?_
    refine g_aload_n dL_law_512 rfl ?_
    refine g_iload dL_law_513 rfl ?_
    refine g_iconst (nI 1) dL_law_515 (by decide) ?_
    first | refine g_iaddN dL_law_516 ?_ | refine g_iadd dL_law_516 ?_
    refine g_tald (j := i + 1) hT (by omega) (by omega) dL_law_517 ?_
    rw [hp]
    refine g_aload_n dL_law_518 rfl ?_
    refine g_callSH kw_rankOf (wL_rankOf (nI k0) h0 hw (Or.inr (by omega)) (m10_rankOf k0 hk0 hC)) rfl rfl (Nat.le_of_ble_eq_true rfl) (by decide) (by decide) (by (try dsimp only); omega) (by (try dsimp only); omega) dL_law_519 ?_
    rintro v1 h1 z1 ⟨rfl, rfl, h9, hC9, hO9, e1⟩
    have hR1 : RefS X h1 (o + 162) pl n0 f P L day car err t := hR.eqm (fun x _ _ => by rw [e1, gset_ne (by omega)]; exact hO9 x (by omega)) (fun x _ _ => by rw [e1, gset_ne (by omega)]; exact hO9 x (by omega))
    have hC1 := hC9.eqo (h' := h1) (fun x _ _ => by rw [e1, gset_ne (by omega)])
    have hw1 := (congrFun e1 (o + 187)).trans gset_same
    obtain ⟨fr1, hm1⟩ := hR1.at
    have hM := fun z0 => m12_rankOf (z := z0) (nI k0) hR1
    rw [hkk] at hM
    refine g_istore dL_law_522 (by decide) rfl ?_
    refine g_aload_n dL_law_524 rfl ?_
    refine g_aload_n dL_law_525 rfl ?_
    refine g_iload dL_law_526 rfl ?_
    refine g_iconst (nI 1) dL_law_528 (by decide) ?_
    first | refine g_iaddN dL_law_529 ?_ | refine g_iadd dL_law_529 ?_
    refine g_tald (j := i + 1) hT (by omega) (by omega) dL_law_530 ?_
    rw [hp]
    refine g_callV0 kL_136 (hM _) hm1 rfl rfl rfl (Nat.le_of_ble_eq_true rfl) (by decide) (by decide) (by (try dsimp only); omega) (by (try dsimp only); omega) dL_law_531 ?_
    rintro v1 h2 z1 ⟨rfl, rfl, hR2, hO2⟩
    rw [if_pos hc2]
    rw [if_pos hc2] at hR2
    have hC2 := hC1.eqo (fun x _ _ => hO2 x (by omega) (by omega) (by omega))
    have hw2 := (hO2 (o + 187) (by omega) (by omega) (by omega)).trans hw1
    obtain ⟨fr2, hm2⟩ := hR2.at
    refine g_istore dL_law_534 (by decide) rfl ?_
    refine g_aload_n dL_law_536 rfl ?_
    refine g_callV0 kL_95 (mR_thrown hR2) hm2 rfl rfl rfl (Nat.le_of_ble_eq_true rfl) (by decide) (by decide) (by (try dsimp only); omega) (by (try dsimp only); omega) dL_law_537 ?_
    rintro v1 h3 z1 ⟨rfl, rfl, rfl⟩
    refine g_iload dL_law_540 rfl ?_
    refine g_icmp_eq 547 dL_law_542 (by decide) (fun c_1 => ?_) (fun c_1 => ?_)
    · refine g_iload dL_law_547 rfl ?_
      refine g_if_ne 564 dL_law_549 (by decide) (fun c_2 => ?_) (fun c_2 => ?_)
      · exact absurd rfl c_2
      · refine g_aload_n dL_law_552 rfl ?_
        refine g_iconst (nI 0) dL_law_553 (by decide) ?_
        refine g_laldN (j := 0) hw2 (by decide) (by decide) dL_law_554 ?_
        rw [vpL_same]
        refine g_iload dL_law_555 rfl ?_
        refine g_i2l dL_law_557 ?_
        refine g_lcmp dL_law_558 ?_
        rw [lcmp_self]
        refine g_if_eq 564 dL_law_559 (by decide) (fun c_3 => ?_) (fun c_3 => ?_)
        · refine g_goto 1739 dL_law_564 (by decide) ?_
          exact KK _ _ _ _ _ _ _ _ ⟨pl, n0, f, P, L, day, car, err, 0, _, hC2, hR2, hw2, by omega, by omega, hpl⟩ (by (try dsimp only); omega) (by (try dsimp only); omega)
        · exact absurd rfl c_3
    · exact absurd rfl c_1
  · refine g_aload_n dL_law_511 rfl ?_
    refine g_aload_n dL_law_512 rfl ?_
    refine g_iload dL_law_513 rfl ?_
    refine g_iconst (nI 1) dL_law_515 (by decide) ?_
    first | refine g_iaddN dL_law_516 ?_ | refine g_iadd dL_law_516 ?_
    refine g_tald (j := i + 1) hT (by omega) (by omega) dL_law_517 ?_
    rw [hp]
    refine g_aload_n dL_law_518 rfl ?_
    refine g_callSH kw_rankOf (wX_rankOf p h0 (m10_rankOfX p hc hTh hC)) rfl rfl (Nat.le_of_ble_eq_true rfl) (by decide) (by decide) (by (try dsimp only); omega) (by (try dsimp only); omega) dL_law_519 ?_
    rintro v1 h1 z1 ⟨rfl, rfl, hz9⟩
    have hM := fun z0 => m12_rankOf (z := z0) p hR
    refine g_istore dL_law_522 (by decide) rfl ?_
    refine g_aload_n dL_law_524 rfl ?_
    refine g_aload_n dL_law_525 rfl ?_
    refine g_iload dL_law_526 rfl ?_
    refine g_iconst (nI 1) dL_law_528 (by decide) ?_
    first | refine g_iaddN dL_law_529 ?_ | refine g_iadd dL_law_529 ?_
    refine g_tald (j := i + 1) hT (by omega) (by omega) dL_law_530 ?_
    rw [hp]
    refine g_callV0 kL_136 (hM _) hm rfl rfl rfl (Nat.le_of_ble_eq_true rfl) (by decide) (by decide) (by (try dsimp only); omega) (by (try dsimp only); omega) dL_law_531 ?_
    rintro v1 h2 z1 ⟨rfl, rfl, hR2, hO2⟩
    rw [if_neg hc]
    rw [if_neg hc] at hR2
    have hC2 := hC.eqo (fun x _ _ => hO2 x (by omega) (by omega) (by omega))
    have hw2 := (hO2 (o + 187) (by omega) (by omega) (by omega)).trans hw
    obtain ⟨fr2, hm2⟩ := hR2.at
    refine g_istore dL_law_534 (by decide) rfl ?_
    refine g_aload_n dL_law_536 rfl ?_
    refine g_callV0 kL_95 (mR_thrown hR2) hm2 rfl rfl rfl (Nat.le_of_ble_eq_true rfl) (by decide) (by decide) (by (try dsimp only); omega) (by (try dsimp only); omega) dL_law_537 ?_
    rintro v1 h3 z1 ⟨rfl, rfl, rfl⟩
    refine g_iload dL_law_540 rfl ?_
    refine g_icmp_eq 547 dL_law_542 (by decide) (fun c_1 => ?_) (fun c_1 => ?_)
    · refine g_iload dL_law_547 rfl ?_
      refine g_if_ne 564 dL_law_549 (by decide) (fun c_2 => ?_) (fun c_2 => ?_)
      · refine g_goto 1739 dL_law_564 (by decide) ?_
        exact KK _ _ _ _ _ _ _ _ ⟨pl, n0, f, P, L, day, car, err, 1, g, hC2, hR2, hw2, by omega, by omega, hpl⟩ (by (try dsimp only); omega) (by (try dsimp only); omega)
      · exact absurd c_2 (by decide)
    · exact absurd rfl c_1
set_option maxRecDepth 100000 in
set_option maxHeartbeats 4000000 in
theorem lc_placeAt {X : gX} {F : gF} {K : gKo} {b Ls i o k n z : Nat} {xs : Nat → Int32} {h : gH} {x5 x6 x7 x8 : Option Value} (hK : gCo X K) (hTh : gTh X) (hT : gTb X .int b Ls (fun j => .int (xs j))) (hLs : Ls ≤ 3072) (hi : i + 6 ≤ Ls) (hk : k + 12 ≤ 601024) (hn : n + 1806 ≤ 7293034) (hI : LwI X K o h z) (KK : ∀ (h' : gH) (z' k' n' : Nat) (a5 a6 a7 a8 : Option Value), LwI X K o h' z' → k' ≤ k + 12 → n' ≤ n + 1806 → G X F cL_law 9 RL lwR k' n' 1739 [some (.ref b), some (.ref o), some (.ref (o + 162)), some (.ref (o + 187)), some (.int (nI i)), a5, a6, a7, a8] [] h' z') : G X F cL_law 9 RL lwR k n 567 [some (.ref b), some (.ref o), some (.ref (o + 162)), some (.ref (o + 187)), some (.int (nI i)), x5, x6, x7, x8] [] h z := by
  obtain ⟨pl, n0, f, P, L, day, car, err, t, g, hC, hR, hw, hz1, hz2, hpl⟩ := hI
  obtain ⟨fs, h0⟩ := hC.at
  obtain ⟨fr, hm⟩ := hR.at
  obtain ⟨hl40, hok, hn0⟩ := hC.len
  have h8 := hok.1.1
  obtain ⟨p, hp⟩ : ∃ p, xs (i + 1) = p := ⟨_, rfl⟩
  by_cases hc : p.toNatClampNeg < L.length ∧ p = nI p.toNatClampNeg
  · have hx := hc.2
    have hk0 := hc.1
    generalize hkk : p.toNatClampNeg = k0 at hk0 hx
    subst hx
    have hc2 : k0 < L.length ∧ nI k0 = nI k0 := ⟨hk0, rfl⟩
    refine g_aload_n dL_law_567 rfl ?_
    refine g_aload_n dL_law_568 rfl ?_
    refine g_iload dL_law_569 rfl ?_
    refine g_iconst (nI 1) dL_law_571 (by decide) ?_
    first | refine g_iaddN dL_law_572 ?_ | refine g_iadd dL_law_572 ?_
    refine g_tald (j := i + 1) hT (by omega) (by omega) dL_law_573 ?_
    rw [hp]
    refine g_aload_n dL_law_574 rfl ?_
    refine g_callSH kw_placeAt (wL_placeAt (nI k0) h0 hw (Or.inr (by omega)) (m10_placeAt k0 hk0 hC)) rfl rfl (Nat.le_of_ble_eq_true rfl) (by decide) (by decide) (by (try dsimp only); omega) (by (try dsimp only); omega) dL_law_575 ?_
    rintro v1 h1 z1 ⟨rfl, rfl, h9, hC9, hO9, e1⟩
    have hR1 : RefS X h1 (o + 162) pl n0 f P L day car err t := hR.eqm (fun x _ _ => by rw [e1, gset_ne (by omega)]; exact hO9 x (by omega)) (fun x _ _ => by rw [e1, gset_ne (by omega)]; exact hO9 x (by omega))
    have hC1 := hC9.eqo (h' := h1) (fun x _ _ => by rw [e1, gset_ne (by omega)])
    have hw1 := (congrFun e1 (o + 187)).trans gset_same
    obtain ⟨fr1, hm1⟩ := hR1.at
    have hM := fun z0 => m12_placeAt (z := z0) (nI k0) hR1
    rw [hkk] at hM
    refine g_istore dL_law_578 (by decide) rfl ?_
    refine g_aload_n dL_law_580 rfl ?_
    refine g_aload_n dL_law_581 rfl ?_
    refine g_iload dL_law_582 rfl ?_
    refine g_iconst (nI 1) dL_law_584 (by decide) ?_
    first | refine g_iaddN dL_law_585 ?_ | refine g_iadd dL_law_585 ?_
    refine g_tald (j := i + 1) hT (by omega) (by omega) dL_law_586 ?_
    rw [hp]
    refine g_callV0 kL_139 (hM _) hm1 rfl rfl rfl (Nat.le_of_ble_eq_true rfl) (by decide) (by decide) (by (try dsimp only); omega) (by (try dsimp only); omega) dL_law_587 ?_
    rintro v1 h2 z1 ⟨rfl, rfl, hR2, hO2⟩
    rw [if_pos hc2]
    rw [if_pos hc2] at hR2
    have hC2 := hC1.eqo (fun x _ _ => hO2 x (by omega) (by omega) (by omega))
    have hw2 := (hO2 (o + 187) (by omega) (by omega) (by omega)).trans hw1
    obtain ⟨fr2, hm2⟩ := hR2.at
    refine g_istore dL_law_590 (by decide) rfl ?_
    refine g_aload_n dL_law_592 rfl ?_
    refine g_callV0 kL_95 (mR_thrown hR2) hm2 rfl rfl rfl (Nat.le_of_ble_eq_true rfl) (by decide) (by decide) (by (try dsimp only); omega) (by (try dsimp only); omega) dL_law_593 ?_
    rintro v1 h3 z1 ⟨rfl, rfl, rfl⟩
    refine g_iload dL_law_596 rfl ?_
    refine g_icmp_eq 603 dL_law_598 (by decide) (fun c_1 => ?_) (fun c_1 => ?_)
    · refine g_iload dL_law_603 rfl ?_
      refine g_if_ne 620 dL_law_605 (by decide) (fun c_2 => ?_) (fun c_2 => ?_)
      · exact absurd rfl c_2
      · refine g_aload_n dL_law_608 rfl ?_
        refine g_iconst (nI 0) dL_law_609 (by decide) ?_
        refine g_laldN (j := 0) hw2 (by decide) (by decide) dL_law_610 ?_
        rw [vpL_same]
        refine g_iload dL_law_611 rfl ?_
        refine g_i2l dL_law_613 ?_
        refine g_lcmp dL_law_614 ?_
        rw [lcmp_self]
        refine g_if_eq 620 dL_law_615 (by decide) (fun c_3 => ?_) (fun c_3 => ?_)
        · refine g_goto 1739 dL_law_620 (by decide) ?_
          exact KK _ _ _ _ _ _ _ _ ⟨pl, n0, f, P, L, day, car, err, 0, _, hC2, hR2, hw2, by omega, by omega, hpl⟩ (by (try dsimp only); omega) (by (try dsimp only); omega)
        · exact absurd rfl c_3
    · exact absurd rfl c_1
  · refine g_aload_n dL_law_567 rfl ?_
    refine g_aload_n dL_law_568 rfl ?_
    refine g_iload dL_law_569 rfl ?_
    refine g_iconst (nI 1) dL_law_571 (by decide) ?_
    first | refine g_iaddN dL_law_572 ?_ | refine g_iadd dL_law_572 ?_
    refine g_tald (j := i + 1) hT (by omega) (by omega) dL_law_573 ?_
    rw [hp]
    refine g_aload_n dL_law_574 rfl ?_
    refine g_callSH kw_placeAt (wX_placeAt p h0 (m10_placeAtX p hc hTh hC)) rfl rfl (Nat.le_of_ble_eq_true rfl) (by decide) (by decide) (by (try dsimp only); omega) (by (try dsimp only); omega) dL_law_575 ?_
    rintro v1 h1 z1 ⟨rfl, rfl, hz9⟩
    have hM := fun z0 => m12_placeAt (z := z0) p hR
    refine g_istore dL_law_578 (by decide) rfl ?_
    refine g_aload_n dL_law_580 rfl ?_
    refine g_aload_n dL_law_581 rfl ?_
    refine g_iload dL_law_582 rfl ?_
    refine g_iconst (nI 1) dL_law_584 (by decide) ?_
    first | refine g_iaddN dL_law_585 ?_ | refine g_iadd dL_law_585 ?_
    refine g_tald (j := i + 1) hT (by omega) (by omega) dL_law_586 ?_
    rw [hp]
    refine g_callV0 kL_139 (hM _) hm rfl rfl rfl (Nat.le_of_ble_eq_true rfl) (by decide) (by decide) (by (try dsimp only); omega) (by (try dsimp only); omega) dL_law_587 ?_
    rintro v1 h2 z1 ⟨rfl, rfl, hR2, hO2⟩
    rw [if_neg hc]
    rw [if_neg hc] at hR2
    have hC2 := hC.eqo (fun x _ _ => hO2 x (by omega) (by omega) (by omega))
    have hw2 := (hO2 (o + 187) (by omega) (by omega) (by omega)).trans hw
    obtain ⟨fr2, hm2⟩ := hR2.at
    refine g_istore dL_law_590 (by decide) rfl ?_
    refine g_aload_n dL_law_592 rfl ?_
    refine g_callV0 kL_95 (mR_thrown hR2) hm2 rfl rfl rfl (Nat.le_of_ble_eq_true rfl) (by decide) (by decide) (by (try dsimp only); omega) (by (try dsimp only); omega) dL_law_593 ?_
    rintro v1 h3 z1 ⟨rfl, rfl, rfl⟩
    refine g_iload dL_law_596 rfl ?_
    refine g_icmp_eq 603 dL_law_598 (by decide) (fun c_1 => ?_) (fun c_1 => ?_)
    · refine g_iload dL_law_603 rfl ?_
      refine g_if_ne 620 dL_law_605 (by decide) (fun c_2 => ?_) (fun c_2 => ?_)
      · refine g_goto 1739 dL_law_620 (by decide) ?_
        exact KK _ _ _ _ _ _ _ _ ⟨pl, n0, f, P, L, day, car, err, 1, g, hC2, hR2, hw2, by omega, by omega, hpl⟩ (by (try dsimp only); omega) (by (try dsimp only); omega)
      · exact absurd c_2 (by decide)
    · exact absurd rfl c_1
set_option maxRecDepth 100000 in
set_option maxHeartbeats 4000000 in
theorem lc_sharedAt {X : gX} {F : gF} {K : gKo} {b Ls i o k n z : Nat} {xs : Nat → Int32} {h : gH} {x5 x6 x7 x8 : Option Value} (hK : gCo X K) (hTh : gTh X) (hT : gTb X .int b Ls (fun j => .int (xs j))) (hLs : Ls ≤ 3072) (hi : i + 6 ≤ Ls) (hk : k + 12 ≤ 601024) (hn : n + 1806 ≤ 7293034) (hI : LwI X K o h z) (KK : ∀ (h' : gH) (z' k' n' : Nat) (a5 a6 a7 a8 : Option Value), LwI X K o h' z' → k' ≤ k + 12 → n' ≤ n + 1806 → G X F cL_law 9 RL lwR k' n' 1739 [some (.ref b), some (.ref o), some (.ref (o + 162)), some (.ref (o + 187)), some (.int (nI i)), a5, a6, a7, a8] [] h' z') : G X F cL_law 9 RL lwR k n 623 [some (.ref b), some (.ref o), some (.ref (o + 162)), some (.ref (o + 187)), some (.int (nI i)), x5, x6, x7, x8] [] h z := by
  obtain ⟨pl, n0, f, P, L, day, car, err, t, g, hC, hR, hw, hz1, hz2, hpl⟩ := hI
  obtain ⟨fs, h0⟩ := hC.at
  obtain ⟨fr, hm⟩ := hR.at
  obtain ⟨hl40, hok, hn0⟩ := hC.len
  have h8 := hok.1.1
  obtain ⟨p, hp⟩ : ∃ p, xs (i + 1) = p := ⟨_, rfl⟩
  by_cases hc : p.toNatClampNeg < L.length ∧ p = nI p.toNatClampNeg
  · have hx := hc.2
    have hk0 := hc.1
    generalize hkk : p.toNatClampNeg = k0 at hk0 hx
    subst hx
    have hc2 : k0 < L.length ∧ nI k0 = nI k0 := ⟨hk0, rfl⟩
    refine g_aload_n dL_law_623 rfl ?_
    refine g_aload_n dL_law_624 rfl ?_
    refine g_iload dL_law_625 rfl ?_
    refine g_iconst (nI 1) dL_law_627 (by decide) ?_
    first | refine g_iaddN dL_law_628 ?_ | refine g_iadd dL_law_628 ?_
    refine g_tald (j := i + 1) hT (by omega) (by omega) dL_law_629 ?_
    rw [hp]
    refine g_aload_n dL_law_630 rfl ?_
    refine g_callSH kw_sharedAt (wL_sharedAt (nI k0) h0 hw (Or.inr (by omega)) (m10_sharedAt k0 hk0 hC)) rfl rfl (Nat.le_of_ble_eq_true rfl) (by decide) (by decide) (by (try dsimp only); omega) (by (try dsimp only); omega) dL_law_631 ?_
    rintro v1 h1 z1 ⟨rfl, rfl, h9, hC9, hO9, e1⟩
    have hR1 : RefS X h1 (o + 162) pl n0 f P L day car err t := hR.eqm (fun x _ _ => by rw [e1, gset_ne (by omega)]; exact hO9 x (by omega)) (fun x _ _ => by rw [e1, gset_ne (by omega)]; exact hO9 x (by omega))
    have hC1 := hC9.eqo (h' := h1) (fun x _ _ => by rw [e1, gset_ne (by omega)])
    have hw1 := (congrFun e1 (o + 187)).trans gset_same
    obtain ⟨fr1, hm1⟩ := hR1.at
    have hM := fun z0 => m12_sharedAt (z := z0) (nI k0) hR1
    rw [hkk] at hM
    refine g_istore dL_law_634 (by decide) rfl ?_
    refine g_aload_n dL_law_636 rfl ?_
    refine g_aload_n dL_law_637 rfl ?_
    refine g_iload dL_law_638 rfl ?_
    refine g_iconst (nI 1) dL_law_640 (by decide) ?_
    first | refine g_iaddN dL_law_641 ?_ | refine g_iadd dL_law_641 ?_
    refine g_tald (j := i + 1) hT (by omega) (by omega) dL_law_642 ?_
    rw [hp]
    refine g_callV0 kL_142 (hM _) hm1 rfl rfl rfl (Nat.le_of_ble_eq_true rfl) (by decide) (by decide) (by (try dsimp only); omega) (by (try dsimp only); omega) dL_law_643 ?_
    rintro v1 h2 z1 ⟨rfl, rfl, hR2, hO2⟩
    rw [if_pos hc2]
    rw [if_pos hc2] at hR2
    have hC2 := hC1.eqo (fun x _ _ => hO2 x (by omega) (by omega) (by omega))
    have hw2 := (hO2 (o + 187) (by omega) (by omega) (by omega)).trans hw1
    obtain ⟨fr2, hm2⟩ := hR2.at
    refine g_istore dL_law_646 (by decide) rfl ?_
    refine g_aload_n dL_law_648 rfl ?_
    refine g_callV0 kL_95 (mR_thrown hR2) hm2 rfl rfl rfl (Nat.le_of_ble_eq_true rfl) (by decide) (by decide) (by (try dsimp only); omega) (by (try dsimp only); omega) dL_law_649 ?_
    rintro v1 h3 z1 ⟨rfl, rfl, rfl⟩
    refine g_iload dL_law_652 rfl ?_
    refine g_icmp_eq 659 dL_law_654 (by decide) (fun c_1 => ?_) (fun c_1 => ?_)
    · refine g_iload dL_law_659 rfl ?_
      refine g_if_ne 676 dL_law_661 (by decide) (fun c_2 => ?_) (fun c_2 => ?_)
      · exact absurd rfl c_2
      · refine g_aload_n dL_law_664 rfl ?_
        refine g_iconst (nI 0) dL_law_665 (by decide) ?_
        refine g_laldN (j := 0) hw2 (by decide) (by decide) dL_law_666 ?_
        rw [vpL_same]
        refine g_iload dL_law_667 rfl ?_
        refine g_i2l dL_law_669 ?_
        refine g_lcmp dL_law_670 ?_
        rw [lcmp_self]
        refine g_if_eq 676 dL_law_671 (by decide) (fun c_3 => ?_) (fun c_3 => ?_)
        · refine g_goto 1739 dL_law_676 (by decide) ?_
          exact KK _ _ _ _ _ _ _ _ ⟨pl, n0, f, P, L, day, car, err, 0, _, hC2, hR2, hw2, by omega, by omega, hpl⟩ (by (try dsimp only); omega) (by (try dsimp only); omega)
        · exact absurd rfl c_3
    · exact absurd rfl c_1
  · refine g_aload_n dL_law_623 rfl ?_
    refine g_aload_n dL_law_624 rfl ?_
    refine g_iload dL_law_625 rfl ?_
    refine g_iconst (nI 1) dL_law_627 (by decide) ?_
    first | refine g_iaddN dL_law_628 ?_ | refine g_iadd dL_law_628 ?_
    refine g_tald (j := i + 1) hT (by omega) (by omega) dL_law_629 ?_
    rw [hp]
    refine g_aload_n dL_law_630 rfl ?_
    refine g_callSH kw_sharedAt (wX_sharedAt p h0 (m10_sharedAtX p hc hTh hC)) rfl rfl (Nat.le_of_ble_eq_true rfl) (by decide) (by decide) (by (try dsimp only); omega) (by (try dsimp only); omega) dL_law_631 ?_
    rintro v1 h1 z1 ⟨rfl, rfl, hz9⟩
    have hM := fun z0 => m12_sharedAt (z := z0) p hR
    refine g_istore dL_law_634 (by decide) rfl ?_
    refine g_aload_n dL_law_636 rfl ?_
    refine g_aload_n dL_law_637 rfl ?_
    refine g_iload dL_law_638 rfl ?_
    refine g_iconst (nI 1) dL_law_640 (by decide) ?_
    first | refine g_iaddN dL_law_641 ?_ | refine g_iadd dL_law_641 ?_
    refine g_tald (j := i + 1) hT (by omega) (by omega) dL_law_642 ?_
    rw [hp]
    refine g_callV0 kL_142 (hM _) hm rfl rfl rfl (Nat.le_of_ble_eq_true rfl) (by decide) (by decide) (by (try dsimp only); omega) (by (try dsimp only); omega) dL_law_643 ?_
    rintro v1 h2 z1 ⟨rfl, rfl, hR2, hO2⟩
    rw [if_neg hc]
    rw [if_neg hc] at hR2
    have hC2 := hC.eqo (fun x _ _ => hO2 x (by omega) (by omega) (by omega))
    have hw2 := (hO2 (o + 187) (by omega) (by omega) (by omega)).trans hw
    obtain ⟨fr2, hm2⟩ := hR2.at
    refine g_istore dL_law_646 (by decide) rfl ?_
    refine g_aload_n dL_law_648 rfl ?_
    refine g_callV0 kL_95 (mR_thrown hR2) hm2 rfl rfl rfl (Nat.le_of_ble_eq_true rfl) (by decide) (by decide) (by (try dsimp only); omega) (by (try dsimp only); omega) dL_law_649 ?_
    rintro v1 h3 z1 ⟨rfl, rfl, rfl⟩
    refine g_iload dL_law_652 rfl ?_
    refine g_icmp_eq 659 dL_law_654 (by decide) (fun c_1 => ?_) (fun c_1 => ?_)
    · refine g_iload dL_law_659 rfl ?_
      refine g_if_ne 676 dL_law_661 (by decide) (fun c_2 => ?_) (fun c_2 => ?_)
      · refine g_goto 1739 dL_law_676 (by decide) ?_
        exact KK _ _ _ _ _ _ _ _ ⟨pl, n0, f, P, L, day, car, err, 1, g, hC2, hR2, hw2, by omega, by omega, hpl⟩ (by (try dsimp only); omega) (by (try dsimp only); omega)
      · exact absurd c_2 (by decide)
    · exact absurd rfl c_1
set_option maxRecDepth 100000 in
set_option maxHeartbeats 4000000 in
theorem lc_lettersOf {X : gX} {F : gF} {K : gKo} {b Ls i o k n z : Nat} {xs : Nat → Int32} {h : gH} {x5 x6 x7 x8 : Option Value} (hK : gCo X K) (hTh : gTh X) (hT : gTb X .int b Ls (fun j => .int (xs j))) (hLs : Ls ≤ 3072) (hi : i + 6 ≤ Ls) (hk : k + 12 ≤ 601024) (hn : n + 1806 ≤ 7293034) (hI : LwI X K o h z) (KK : ∀ (h' : gH) (z' k' n' : Nat) (a5 a6 a7 a8 : Option Value), LwI X K o h' z' → k' ≤ k + 12 → n' ≤ n + 1806 → G X F cL_law 9 RL lwR k' n' 1739 [some (.ref b), some (.ref o), some (.ref (o + 162)), some (.ref (o + 187)), some (.int (nI i)), a5, a6, a7, a8] [] h' z') : G X F cL_law 9 RL lwR k n 986 [some (.ref b), some (.ref o), some (.ref (o + 162)), some (.ref (o + 187)), some (.int (nI i)), x5, x6, x7, x8] [] h z := by
  obtain ⟨pl, n0, f, P, L, day, car, err, t, g, hC, hR, hw, hz1, hz2, hpl⟩ := hI
  obtain ⟨fs, h0⟩ := hC.at
  obtain ⟨fr, hm⟩ := hR.at
  obtain ⟨hl40, hok, hn0⟩ := hC.len
  have h8 := hok.1.1
  obtain ⟨p, hp⟩ : ∃ p, xs (i + 1) = p := ⟨_, rfl⟩
  by_cases hc : p.toNatClampNeg < P.1.1 ∧ p = nI p.toNatClampNeg
  · have hx := hc.2
    have hk0 := hc.1
    generalize hkk : p.toNatClampNeg = k0 at hk0 hx
    subst hx
    have hc2 : k0 < P.1.1 ∧ nI k0 = nI k0 := ⟨hk0, rfl⟩
    refine g_aload_n dL_law_986 rfl ?_
    refine g_aload_n dL_law_987 rfl ?_
    refine g_iload dL_law_988 rfl ?_
    refine g_iconst (nI 1) dL_law_990 (by decide) ?_
    first | refine g_iaddN dL_law_991 ?_ | refine g_iadd dL_law_991 ?_
    refine g_tald (j := i + 1) hT (by omega) (by omega) dL_law_992 ?_
    rw [hp]
    refine g_aload_n dL_law_993 rfl ?_
    refine g_callSH kw_lettersOf (wL_lettersOf (nI k0) h0 hw (Or.inr (by omega)) (m10_lettersOf k0 hk0 hC)) rfl rfl (Nat.le_of_ble_eq_true rfl) (by decide) (by decide) (by (try dsimp only); omega) (by (try dsimp only); omega) dL_law_994 ?_
    rintro v1 h1 z1 ⟨rfl, rfl, h9, hC9, hO9, e1⟩
    have hR1 : RefS X h1 (o + 162) pl n0 f P L day car err t := hR.eqm (fun x _ _ => by rw [e1, gset_ne (by omega)]; exact hO9 x (by omega)) (fun x _ _ => by rw [e1, gset_ne (by omega)]; exact hO9 x (by omega))
    have hC1 := hC9.eqo (h' := h1) (fun x _ _ => by rw [e1, gset_ne (by omega)])
    have hw1 := (congrFun e1 (o + 187)).trans gset_same
    obtain ⟨fr1, hm1⟩ := hR1.at
    have hM := fun z0 => m12_lettersOf (z := z0) (nI k0) hR1
    rw [hkk] at hM
    refine g_istore dL_law_997 (by decide) rfl ?_
    refine g_aload_n dL_law_999 rfl ?_
    refine g_aload_n dL_law_1000 rfl ?_
    refine g_iload dL_law_1001 rfl ?_
    refine g_iconst (nI 1) dL_law_1003 (by decide) ?_
    first | refine g_iaddN dL_law_1004 ?_ | refine g_iadd dL_law_1004 ?_
    refine g_tald (j := i + 1) hT (by omega) (by omega) dL_law_1005 ?_
    rw [hp]
    refine g_callV0 kL_174 (hM _) hm1 rfl rfl rfl (Nat.le_of_ble_eq_true rfl) (by decide) (by decide) (by (try dsimp only); omega) (by (try dsimp only); omega) dL_law_1006 ?_
    rintro v1 h2 z1 ⟨rfl, rfl, hR2, hO2⟩
    rw [if_pos hc2]
    rw [if_pos hc2] at hR2
    have hC2 := hC1.eqo (fun x _ _ => hO2 x (by omega) (by omega) (by omega))
    have hw2 := (hO2 (o + 187) (by omega) (by omega) (by omega)).trans hw1
    obtain ⟨fr2, hm2⟩ := hR2.at
    refine g_istore dL_law_1009 (by decide) rfl ?_
    refine g_aload_n dL_law_1011 rfl ?_
    refine g_callV0 kL_95 (mR_thrown hR2) hm2 rfl rfl rfl (Nat.le_of_ble_eq_true rfl) (by decide) (by decide) (by (try dsimp only); omega) (by (try dsimp only); omega) dL_law_1012 ?_
    rintro v1 h3 z1 ⟨rfl, rfl, rfl⟩
    refine g_iload dL_law_1015 rfl ?_
    refine g_icmp_eq 1022 dL_law_1017 (by decide) (fun c_1 => ?_) (fun c_1 => ?_)
    · refine g_iload dL_law_1022 rfl ?_
      refine g_if_ne 1039 dL_law_1024 (by decide) (fun c_2 => ?_) (fun c_2 => ?_)
      · exact absurd rfl c_2
      · refine g_aload_n dL_law_1027 rfl ?_
        refine g_iconst (nI 0) dL_law_1028 (by decide) ?_
        refine g_laldN (j := 0) hw2 (by decide) (by decide) dL_law_1029 ?_
        rw [vpL_same]
        refine g_iload dL_law_1030 rfl ?_
        refine g_i2l dL_law_1032 ?_
        refine g_lcmp dL_law_1033 ?_
        rw [lcmp_self]
        refine g_if_eq 1039 dL_law_1034 (by decide) (fun c_3 => ?_) (fun c_3 => ?_)
        · refine g_goto 1739 dL_law_1039 (by decide) ?_
          exact KK _ _ _ _ _ _ _ _ ⟨pl, n0, f, P, L, day, car, err, 0, _, hC2, hR2, hw2, by omega, by omega, hpl⟩ (by (try dsimp only); omega) (by (try dsimp only); omega)
        · exact absurd rfl c_3
    · exact absurd rfl c_1
  · refine g_aload_n dL_law_986 rfl ?_
    refine g_aload_n dL_law_987 rfl ?_
    refine g_iload dL_law_988 rfl ?_
    refine g_iconst (nI 1) dL_law_990 (by decide) ?_
    first | refine g_iaddN dL_law_991 ?_ | refine g_iadd dL_law_991 ?_
    refine g_tald (j := i + 1) hT (by omega) (by omega) dL_law_992 ?_
    rw [hp]
    refine g_aload_n dL_law_993 rfl ?_
    refine g_callSH kw_lettersOf (wX_lettersOf p h0 (m10_lettersOfX p hc hTh hC)) rfl rfl (Nat.le_of_ble_eq_true rfl) (by decide) (by decide) (by (try dsimp only); omega) (by (try dsimp only); omega) dL_law_994 ?_
    rintro v1 h1 z1 ⟨rfl, rfl, hz9⟩
    have hM := fun z0 => m12_lettersOf (z := z0) p hR
    refine g_istore dL_law_997 (by decide) rfl ?_
    refine g_aload_n dL_law_999 rfl ?_
    refine g_aload_n dL_law_1000 rfl ?_
    refine g_iload dL_law_1001 rfl ?_
    refine g_iconst (nI 1) dL_law_1003 (by decide) ?_
    first | refine g_iaddN dL_law_1004 ?_ | refine g_iadd dL_law_1004 ?_
    refine g_tald (j := i + 1) hT (by omega) (by omega) dL_law_1005 ?_
    rw [hp]
    refine g_callV0 kL_174 (hM _) hm rfl rfl rfl (Nat.le_of_ble_eq_true rfl) (by decide) (by decide) (by (try dsimp only); omega) (by (try dsimp only); omega) dL_law_1006 ?_
    rintro v1 h2 z1 ⟨rfl, rfl, hR2, hO2⟩
    rw [if_neg hc]
    rw [if_neg hc] at hR2
    have hC2 := hC.eqo (fun x _ _ => hO2 x (by omega) (by omega) (by omega))
    have hw2 := (hO2 (o + 187) (by omega) (by omega) (by omega)).trans hw
    obtain ⟨fr2, hm2⟩ := hR2.at
    refine g_istore dL_law_1009 (by decide) rfl ?_
    refine g_aload_n dL_law_1011 rfl ?_
    refine g_callV0 kL_95 (mR_thrown hR2) hm2 rfl rfl rfl (Nat.le_of_ble_eq_true rfl) (by decide) (by decide) (by (try dsimp only); omega) (by (try dsimp only); omega) dL_law_1012 ?_
    rintro v1 h3 z1 ⟨rfl, rfl, rfl⟩
    refine g_iload dL_law_1015 rfl ?_
    refine g_icmp_eq 1022 dL_law_1017 (by decide) (fun c_1 => ?_) (fun c_1 => ?_)
    · refine g_iload dL_law_1022 rfl ?_
      refine g_if_ne 1039 dL_law_1024 (by decide) (fun c_2 => ?_) (fun c_2 => ?_)
      · refine g_goto 1739 dL_law_1039 (by decide) ?_
        exact KK _ _ _ _ _ _ _ _ ⟨pl, n0, f, P, L, day, car, err, 1, g, hC2, hR2, hw2, by omega, by omega, hpl⟩ (by (try dsimp only); omega) (by (try dsimp only); omega)
      · exact absurd c_2 (by decide)
    · exact absurd rfl c_1
set_option maxRecDepth 100000 in
set_option maxHeartbeats 4000000 in
theorem lc_countOf {X : gX} {F : gF} {K : gKo} {b Ls i o k n z : Nat} {xs : Nat → Int32} {h : gH} {x5 x6 x7 x8 : Option Value} (hK : gCo X K) (hTh : gTh X) (hT : gTb X .int b Ls (fun j => .int (xs j))) (hLs : Ls ≤ 3072) (hi : i + 6 ≤ Ls) (hk : k + 12 ≤ 601024) (hn : n + 1806 ≤ 7293034) (hI : LwI X K o h z) (KK : ∀ (h' : gH) (z' k' n' : Nat) (a5 a6 a7 a8 : Option Value), LwI X K o h' z' → k' ≤ k + 12 → n' ≤ n + 1806 → G X F cL_law 9 RL lwR k' n' 1739 [some (.ref b), some (.ref o), some (.ref (o + 162)), some (.ref (o + 187)), some (.int (nI i)), a5, a6, a7, a8] [] h' z') : G X F cL_law 9 RL lwR k n 1042 [some (.ref b), some (.ref o), some (.ref (o + 162)), some (.ref (o + 187)), some (.int (nI i)), x5, x6, x7, x8] [] h z := by
  obtain ⟨pl, n0, f, P, L, day, car, err, t, g, hC, hR, hw, hz1, hz2, hpl⟩ := hI
  obtain ⟨fs, h0⟩ := hC.at
  obtain ⟨fr, hm⟩ := hR.at
  obtain ⟨hl40, hok, hn0⟩ := hC.len
  have h8 := hok.1.1
  obtain ⟨p, hp⟩ : ∃ p, xs (i + 1) = p := ⟨_, rfl⟩
  by_cases hc : p.toNatClampNeg < P.1.1 ∧ p = nI p.toNatClampNeg
  · have hx := hc.2
    have hk0 := hc.1
    generalize hkk : p.toNatClampNeg = k0 at hk0 hx
    subst hx
    have hc2 : k0 < P.1.1 ∧ nI k0 = nI k0 := ⟨hk0, rfl⟩
    refine g_aload_n dL_law_1042 rfl ?_
    refine g_aload_n dL_law_1043 rfl ?_
    refine g_iload dL_law_1044 rfl ?_
    refine g_iconst (nI 1) dL_law_1046 (by decide) ?_
    first | refine g_iaddN dL_law_1047 ?_ | refine g_iadd dL_law_1047 ?_
    refine g_tald (j := i + 1) hT (by omega) (by omega) dL_law_1048 ?_
    rw [hp]
    refine g_aload_n dL_law_1049 rfl ?_
    refine g_callSH kw_countOf (wL_countOf (nI k0) h0 hw (Or.inr (by omega)) (m10_countOf k0 hk0 hC)) rfl rfl (Nat.le_of_ble_eq_true rfl) (by decide) (by decide) (by (try dsimp only); omega) (by (try dsimp only); omega) dL_law_1050 ?_
    rintro v1 h1 z1 ⟨rfl, rfl, h9, hC9, hO9, e1⟩
    have hR1 : RefS X h1 (o + 162) pl n0 f P L day car err t := hR.eqm (fun x _ _ => by rw [e1, gset_ne (by omega)]; exact hO9 x (by omega)) (fun x _ _ => by rw [e1, gset_ne (by omega)]; exact hO9 x (by omega))
    have hC1 := hC9.eqo (h' := h1) (fun x _ _ => by rw [e1, gset_ne (by omega)])
    have hw1 := (congrFun e1 (o + 187)).trans gset_same
    obtain ⟨fr1, hm1⟩ := hR1.at
    have hM := fun z0 => m12_countOf (z := z0) (nI k0) hR1
    rw [hkk] at hM
    refine g_istore dL_law_1053 (by decide) rfl ?_
    refine g_aload_n dL_law_1055 rfl ?_
    refine g_aload_n dL_law_1056 rfl ?_
    refine g_iload dL_law_1057 rfl ?_
    refine g_iconst (nI 1) dL_law_1059 (by decide) ?_
    first | refine g_iaddN dL_law_1060 ?_ | refine g_iadd dL_law_1060 ?_
    refine g_tald (j := i + 1) hT (by omega) (by omega) dL_law_1061 ?_
    rw [hp]
    refine g_callV0 kL_177 (hM _) hm1 rfl rfl rfl (Nat.le_of_ble_eq_true rfl) (by decide) (by decide) (by (try dsimp only); omega) (by (try dsimp only); omega) dL_law_1062 ?_
    rintro v1 h2 z1 ⟨rfl, rfl, hR2, hO2⟩
    rw [if_pos hc2]
    rw [if_pos hc2] at hR2
    have hC2 := hC1.eqo (fun x _ _ => hO2 x (by omega) (by omega) (by omega))
    have hw2 := (hO2 (o + 187) (by omega) (by omega) (by omega)).trans hw1
    obtain ⟨fr2, hm2⟩ := hR2.at
    refine g_istore dL_law_1065 (by decide) rfl ?_
    refine g_aload_n dL_law_1067 rfl ?_
    refine g_callV0 kL_95 (mR_thrown hR2) hm2 rfl rfl rfl (Nat.le_of_ble_eq_true rfl) (by decide) (by decide) (by (try dsimp only); omega) (by (try dsimp only); omega) dL_law_1068 ?_
    rintro v1 h3 z1 ⟨rfl, rfl, rfl⟩
    refine g_iload dL_law_1071 rfl ?_
    refine g_icmp_eq 1078 dL_law_1073 (by decide) (fun c_1 => ?_) (fun c_1 => ?_)
    · refine g_iload dL_law_1078 rfl ?_
      refine g_if_ne 1095 dL_law_1080 (by decide) (fun c_2 => ?_) (fun c_2 => ?_)
      · exact absurd rfl c_2
      · refine g_aload_n dL_law_1083 rfl ?_
        refine g_iconst (nI 0) dL_law_1084 (by decide) ?_
        refine g_laldN (j := 0) hw2 (by decide) (by decide) dL_law_1085 ?_
        rw [vpL_same]
        refine g_iload dL_law_1086 rfl ?_
        refine g_i2l dL_law_1088 ?_
        refine g_lcmp dL_law_1089 ?_
        rw [lcmp_self]
        refine g_if_eq 1095 dL_law_1090 (by decide) (fun c_3 => ?_) (fun c_3 => ?_)
        · refine g_goto 1739 dL_law_1095 (by decide) ?_
          exact KK _ _ _ _ _ _ _ _ ⟨pl, n0, f, P, L, day, car, err, 0, _, hC2, hR2, hw2, by omega, by omega, hpl⟩ (by (try dsimp only); omega) (by (try dsimp only); omega)
        · exact absurd rfl c_3
    · exact absurd rfl c_1
  · refine g_aload_n dL_law_1042 rfl ?_
    refine g_aload_n dL_law_1043 rfl ?_
    refine g_iload dL_law_1044 rfl ?_
    refine g_iconst (nI 1) dL_law_1046 (by decide) ?_
    first | refine g_iaddN dL_law_1047 ?_ | refine g_iadd dL_law_1047 ?_
    refine g_tald (j := i + 1) hT (by omega) (by omega) dL_law_1048 ?_
    rw [hp]
    refine g_aload_n dL_law_1049 rfl ?_
    refine g_callSH kw_countOf (wX_countOf p h0 (m10_countOfX p hc hTh hC)) rfl rfl (Nat.le_of_ble_eq_true rfl) (by decide) (by decide) (by (try dsimp only); omega) (by (try dsimp only); omega) dL_law_1050 ?_
    rintro v1 h1 z1 ⟨rfl, rfl, hz9⟩
    have hM := fun z0 => m12_countOf (z := z0) p hR
    refine g_istore dL_law_1053 (by decide) rfl ?_
    refine g_aload_n dL_law_1055 rfl ?_
    refine g_aload_n dL_law_1056 rfl ?_
    refine g_iload dL_law_1057 rfl ?_
    refine g_iconst (nI 1) dL_law_1059 (by decide) ?_
    first | refine g_iaddN dL_law_1060 ?_ | refine g_iadd dL_law_1060 ?_
    refine g_tald (j := i + 1) hT (by omega) (by omega) dL_law_1061 ?_
    rw [hp]
    refine g_callV0 kL_177 (hM _) hm rfl rfl rfl (Nat.le_of_ble_eq_true rfl) (by decide) (by decide) (by (try dsimp only); omega) (by (try dsimp only); omega) dL_law_1062 ?_
    rintro v1 h2 z1 ⟨rfl, rfl, hR2, hO2⟩
    rw [if_neg hc]
    rw [if_neg hc] at hR2
    have hC2 := hC.eqo (fun x _ _ => hO2 x (by omega) (by omega) (by omega))
    have hw2 := (hO2 (o + 187) (by omega) (by omega) (by omega)).trans hw
    obtain ⟨fr2, hm2⟩ := hR2.at
    refine g_istore dL_law_1065 (by decide) rfl ?_
    refine g_aload_n dL_law_1067 rfl ?_
    refine g_callV0 kL_95 (mR_thrown hR2) hm2 rfl rfl rfl (Nat.le_of_ble_eq_true rfl) (by decide) (by decide) (by (try dsimp only); omega) (by (try dsimp only); omega) dL_law_1068 ?_
    rintro v1 h3 z1 ⟨rfl, rfl, rfl⟩
    refine g_iload dL_law_1071 rfl ?_
    refine g_icmp_eq 1078 dL_law_1073 (by decide) (fun c_1 => ?_) (fun c_1 => ?_)
    · refine g_iload dL_law_1078 rfl ?_
      refine g_if_ne 1095 dL_law_1080 (by decide) (fun c_2 => ?_) (fun c_2 => ?_)
      · refine g_goto 1739 dL_law_1095 (by decide) ?_
        exact KK _ _ _ _ _ _ _ _ ⟨pl, n0, f, P, L, day, car, err, 1, g, hC2, hR2, hw2, by omega, by omega, hpl⟩ (by (try dsimp only); omega) (by (try dsimp only); omega)
      · exact absurd c_2 (by decide)
    · exact absurd rfl c_1
set_option maxRecDepth 100000 in
set_option maxHeartbeats 4000000 in
theorem lc_firstOf {X : gX} {F : gF} {K : gKo} {b Ls i o k n z : Nat} {xs : Nat → Int32} {h : gH} {x5 x6 x7 x8 : Option Value} (hK : gCo X K) (hTh : gTh X) (hT : gTb X .int b Ls (fun j => .int (xs j))) (hLs : Ls ≤ 3072) (hi : i + 6 ≤ Ls) (hk : k + 12 ≤ 601024) (hn : n + 1806 ≤ 7293034) (hI : LwI X K o h z) (KK : ∀ (h' : gH) (z' k' n' : Nat) (a5 a6 a7 a8 : Option Value), LwI X K o h' z' → k' ≤ k + 12 → n' ≤ n + 1806 → G X F cL_law 9 RL lwR k' n' 1739 [some (.ref b), some (.ref o), some (.ref (o + 162)), some (.ref (o + 187)), some (.int (nI i)), a5, a6, a7, a8] [] h' z') : G X F cL_law 9 RL lwR k n 1098 [some (.ref b), some (.ref o), some (.ref (o + 162)), some (.ref (o + 187)), some (.int (nI i)), x5, x6, x7, x8] [] h z := by
  obtain ⟨pl, n0, f, P, L, day, car, err, t, g, hC, hR, hw, hz1, hz2, hpl⟩ := hI
  obtain ⟨fs, h0⟩ := hC.at
  obtain ⟨fr, hm⟩ := hR.at
  obtain ⟨hl40, hok, hn0⟩ := hC.len
  have h8 := hok.1.1
  obtain ⟨p, hp⟩ : ∃ p, xs (i + 1) = p := ⟨_, rfl⟩
  by_cases hc : p.toNatClampNeg < P.1.1 ∧ p = nI p.toNatClampNeg
  · have hx := hc.2
    have hk0 := hc.1
    generalize hkk : p.toNatClampNeg = k0 at hk0 hx
    subst hx
    have hc2 : k0 < P.1.1 ∧ nI k0 = nI k0 := ⟨hk0, rfl⟩
    refine g_aload_n dL_law_1098 rfl ?_
    refine g_aload_n dL_law_1099 rfl ?_
    refine g_iload dL_law_1100 rfl ?_
    refine g_iconst (nI 1) dL_law_1102 (by decide) ?_
    first | refine g_iaddN dL_law_1103 ?_ | refine g_iadd dL_law_1103 ?_
    refine g_tald (j := i + 1) hT (by omega) (by omega) dL_law_1104 ?_
    rw [hp]
    refine g_aload_n dL_law_1105 rfl ?_
    refine g_callSH kw_firstOf (wL_firstOf (nI k0) h0 hw (Or.inr (by omega)) (m10_firstOf k0 hk0 hC)) rfl rfl (Nat.le_of_ble_eq_true rfl) (by decide) (by decide) (by (try dsimp only); omega) (by (try dsimp only); omega) dL_law_1106 ?_
    rintro v1 h1 z1 ⟨rfl, rfl, h9, hC9, hO9, e1⟩
    have hR1 : RefS X h1 (o + 162) pl n0 f P L day car err t := hR.eqm (fun x _ _ => by rw [e1, gset_ne (by omega)]; exact hO9 x (by omega)) (fun x _ _ => by rw [e1, gset_ne (by omega)]; exact hO9 x (by omega))
    have hC1 := hC9.eqo (h' := h1) (fun x _ _ => by rw [e1, gset_ne (by omega)])
    have hw1 := (congrFun e1 (o + 187)).trans gset_same
    obtain ⟨fr1, hm1⟩ := hR1.at
    have hM := fun z0 => m12_firstOf (z := z0) (nI k0) hR1
    rw [hkk] at hM
    refine g_istore dL_law_1109 (by decide) rfl ?_
    refine g_aload_n dL_law_1111 rfl ?_
    refine g_aload_n dL_law_1112 rfl ?_
    refine g_iload dL_law_1113 rfl ?_
    refine g_iconst (nI 1) dL_law_1115 (by decide) ?_
    first | refine g_iaddN dL_law_1116 ?_ | refine g_iadd dL_law_1116 ?_
    refine g_tald (j := i + 1) hT (by omega) (by omega) dL_law_1117 ?_
    rw [hp]
    refine g_callV0 kL_180 (hM _) hm1 rfl rfl rfl (Nat.le_of_ble_eq_true rfl) (by decide) (by decide) (by (try dsimp only); omega) (by (try dsimp only); omega) dL_law_1118 ?_
    rintro v1 h2 z1 ⟨rfl, rfl, hR2, hO2⟩
    rw [if_pos hc2]
    rw [if_pos hc2] at hR2
    have hC2 := hC1.eqo (fun x _ _ => hO2 x (by omega) (by omega) (by omega))
    have hw2 := (hO2 (o + 187) (by omega) (by omega) (by omega)).trans hw1
    obtain ⟨fr2, hm2⟩ := hR2.at
    refine g_istore dL_law_1121 (by decide) rfl ?_
    refine g_aload_n dL_law_1123 rfl ?_
    refine g_callV0 kL_95 (mR_thrown hR2) hm2 rfl rfl rfl (Nat.le_of_ble_eq_true rfl) (by decide) (by decide) (by (try dsimp only); omega) (by (try dsimp only); omega) dL_law_1124 ?_
    rintro v1 h3 z1 ⟨rfl, rfl, rfl⟩
    refine g_iload dL_law_1127 rfl ?_
    refine g_icmp_eq 1134 dL_law_1129 (by decide) (fun c_1 => ?_) (fun c_1 => ?_)
    · refine g_iload dL_law_1134 rfl ?_
      refine g_if_ne 1151 dL_law_1136 (by decide) (fun c_2 => ?_) (fun c_2 => ?_)
      · exact absurd rfl c_2
      · refine g_aload_n dL_law_1139 rfl ?_
        refine g_iconst (nI 0) dL_law_1140 (by decide) ?_
        refine g_laldN (j := 0) hw2 (by decide) (by decide) dL_law_1141 ?_
        rw [vpL_same]
        refine g_iload dL_law_1142 rfl ?_
        refine g_i2l dL_law_1144 ?_
        refine g_lcmp dL_law_1145 ?_
        rw [lcmp_self]
        refine g_if_eq 1151 dL_law_1146 (by decide) (fun c_3 => ?_) (fun c_3 => ?_)
        · refine g_goto 1739 dL_law_1151 (by decide) ?_
          exact KK _ _ _ _ _ _ _ _ ⟨pl, n0, f, P, L, day, car, err, 0, _, hC2, hR2, hw2, by omega, by omega, hpl⟩ (by (try dsimp only); omega) (by (try dsimp only); omega)
        · exact absurd rfl c_3
    · exact absurd rfl c_1
  · refine g_aload_n dL_law_1098 rfl ?_
    refine g_aload_n dL_law_1099 rfl ?_
    refine g_iload dL_law_1100 rfl ?_
    refine g_iconst (nI 1) dL_law_1102 (by decide) ?_
    first | refine g_iaddN dL_law_1103 ?_ | refine g_iadd dL_law_1103 ?_
    refine g_tald (j := i + 1) hT (by omega) (by omega) dL_law_1104 ?_
    rw [hp]
    refine g_aload_n dL_law_1105 rfl ?_
    refine g_callSH kw_firstOf (wX_firstOf p h0 (m10_firstOfX p hc hTh hC)) rfl rfl (Nat.le_of_ble_eq_true rfl) (by decide) (by decide) (by (try dsimp only); omega) (by (try dsimp only); omega) dL_law_1106 ?_
    rintro v1 h1 z1 ⟨rfl, rfl, hz9⟩
    have hM := fun z0 => m12_firstOf (z := z0) p hR
    refine g_istore dL_law_1109 (by decide) rfl ?_
    refine g_aload_n dL_law_1111 rfl ?_
    refine g_aload_n dL_law_1112 rfl ?_
    refine g_iload dL_law_1113 rfl ?_
    refine g_iconst (nI 1) dL_law_1115 (by decide) ?_
    first | refine g_iaddN dL_law_1116 ?_ | refine g_iadd dL_law_1116 ?_
    refine g_tald (j := i + 1) hT (by omega) (by omega) dL_law_1117 ?_
    rw [hp]
    refine g_callV0 kL_180 (hM _) hm rfl rfl rfl (Nat.le_of_ble_eq_true rfl) (by decide) (by decide) (by (try dsimp only); omega) (by (try dsimp only); omega) dL_law_1118 ?_
    rintro v1 h2 z1 ⟨rfl, rfl, hR2, hO2⟩
    rw [if_neg hc]
    rw [if_neg hc] at hR2
    have hC2 := hC.eqo (fun x _ _ => hO2 x (by omega) (by omega) (by omega))
    have hw2 := (hO2 (o + 187) (by omega) (by omega) (by omega)).trans hw
    obtain ⟨fr2, hm2⟩ := hR2.at
    refine g_istore dL_law_1121 (by decide) rfl ?_
    refine g_aload_n dL_law_1123 rfl ?_
    refine g_callV0 kL_95 (mR_thrown hR2) hm2 rfl rfl rfl (Nat.le_of_ble_eq_true rfl) (by decide) (by decide) (by (try dsimp only); omega) (by (try dsimp only); omega) dL_law_1124 ?_
    rintro v1 h3 z1 ⟨rfl, rfl, rfl⟩
    refine g_iload dL_law_1127 rfl ?_
    refine g_icmp_eq 1134 dL_law_1129 (by decide) (fun c_1 => ?_) (fun c_1 => ?_)
    · refine g_iload dL_law_1134 rfl ?_
      refine g_if_ne 1151 dL_law_1136 (by decide) (fun c_2 => ?_) (fun c_2 => ?_)
      · refine g_goto 1739 dL_law_1151 (by decide) ?_
        exact KK _ _ _ _ _ _ _ _ ⟨pl, n0, f, P, L, day, car, err, 1, g, hC2, hR2, hw2, by omega, by omega, hpl⟩ (by (try dsimp only); omega) (by (try dsimp only); omega)
      · exact absurd c_2 (by decide)
    · exact absurd rfl c_1
set_option maxRecDepth 100000 in
set_option maxHeartbeats 4000000 in
theorem lc_lastOf {X : gX} {F : gF} {K : gKo} {b Ls i o k n z : Nat} {xs : Nat → Int32} {h : gH} {x5 x6 x7 x8 : Option Value} (hK : gCo X K) (hTh : gTh X) (hT : gTb X .int b Ls (fun j => .int (xs j))) (hLs : Ls ≤ 3072) (hi : i + 6 ≤ Ls) (hk : k + 12 ≤ 601024) (hn : n + 1806 ≤ 7293034) (hI : LwI X K o h z) (KK : ∀ (h' : gH) (z' k' n' : Nat) (a5 a6 a7 a8 : Option Value), LwI X K o h' z' → k' ≤ k + 12 → n' ≤ n + 1806 → G X F cL_law 9 RL lwR k' n' 1739 [some (.ref b), some (.ref o), some (.ref (o + 162)), some (.ref (o + 187)), some (.int (nI i)), a5, a6, a7, a8] [] h' z') : G X F cL_law 9 RL lwR k n 1154 [some (.ref b), some (.ref o), some (.ref (o + 162)), some (.ref (o + 187)), some (.int (nI i)), x5, x6, x7, x8] [] h z := by
  obtain ⟨pl, n0, f, P, L, day, car, err, t, g, hC, hR, hw, hz1, hz2, hpl⟩ := hI
  obtain ⟨fs, h0⟩ := hC.at
  obtain ⟨fr, hm⟩ := hR.at
  obtain ⟨hl40, hok, hn0⟩ := hC.len
  have h8 := hok.1.1
  obtain ⟨p, hp⟩ : ∃ p, xs (i + 1) = p := ⟨_, rfl⟩
  by_cases hc : p.toNatClampNeg < P.1.1 ∧ p = nI p.toNatClampNeg
  · have hx := hc.2
    have hk0 := hc.1
    generalize hkk : p.toNatClampNeg = k0 at hk0 hx
    subst hx
    have hc2 : k0 < P.1.1 ∧ nI k0 = nI k0 := ⟨hk0, rfl⟩
    refine g_aload_n dL_law_1154 rfl ?_
    refine g_aload_n dL_law_1155 rfl ?_
    refine g_iload dL_law_1156 rfl ?_
    refine g_iconst (nI 1) dL_law_1158 (by decide) ?_
    first | refine g_iaddN dL_law_1159 ?_ | refine g_iadd dL_law_1159 ?_
    refine g_tald (j := i + 1) hT (by omega) (by omega) dL_law_1160 ?_
    rw [hp]
    refine g_aload_n dL_law_1161 rfl ?_
    refine g_callSH kw_lastOf (wL_lastOf (nI k0) h0 hw (Or.inr (by omega)) (m10_lastOf k0 hk0 hC)) rfl rfl (Nat.le_of_ble_eq_true rfl) (by decide) (by decide) (by (try dsimp only); omega) (by (try dsimp only); omega) dL_law_1162 ?_
    rintro v1 h1 z1 ⟨rfl, rfl, h9, hC9, hO9, e1⟩
    have hR1 : RefS X h1 (o + 162) pl n0 f P L day car err t := hR.eqm (fun x _ _ => by rw [e1, gset_ne (by omega)]; exact hO9 x (by omega)) (fun x _ _ => by rw [e1, gset_ne (by omega)]; exact hO9 x (by omega))
    have hC1 := hC9.eqo (h' := h1) (fun x _ _ => by rw [e1, gset_ne (by omega)])
    have hw1 := (congrFun e1 (o + 187)).trans gset_same
    obtain ⟨fr1, hm1⟩ := hR1.at
    have hM := fun z0 => m12_lastOf (z := z0) (nI k0) hR1
    rw [hkk] at hM
    refine g_istore dL_law_1165 (by decide) rfl ?_
    refine g_aload_n dL_law_1167 rfl ?_
    refine g_aload_n dL_law_1168 rfl ?_
    refine g_iload dL_law_1169 rfl ?_
    refine g_iconst (nI 1) dL_law_1171 (by decide) ?_
    first | refine g_iaddN dL_law_1172 ?_ | refine g_iadd dL_law_1172 ?_
    refine g_tald (j := i + 1) hT (by omega) (by omega) dL_law_1173 ?_
    rw [hp]
    refine g_callV0 kL_183 (hM _) hm1 rfl rfl rfl (Nat.le_of_ble_eq_true rfl) (by decide) (by decide) (by (try dsimp only); omega) (by (try dsimp only); omega) dL_law_1174 ?_
    rintro v1 h2 z1 ⟨rfl, rfl, hR2, hO2⟩
    rw [if_pos hc2]
    rw [if_pos hc2] at hR2
    have hC2 := hC1.eqo (fun x _ _ => hO2 x (by omega) (by omega) (by omega))
    have hw2 := (hO2 (o + 187) (by omega) (by omega) (by omega)).trans hw1
    obtain ⟨fr2, hm2⟩ := hR2.at
    refine g_istore dL_law_1177 (by decide) rfl ?_
    refine g_aload_n dL_law_1179 rfl ?_
    refine g_callV0 kL_95 (mR_thrown hR2) hm2 rfl rfl rfl (Nat.le_of_ble_eq_true rfl) (by decide) (by decide) (by (try dsimp only); omega) (by (try dsimp only); omega) dL_law_1180 ?_
    rintro v1 h3 z1 ⟨rfl, rfl, rfl⟩
    refine g_iload dL_law_1183 rfl ?_
    refine g_icmp_eq 1190 dL_law_1185 (by decide) (fun c_1 => ?_) (fun c_1 => ?_)
    · refine g_iload dL_law_1190 rfl ?_
      refine g_if_ne 1207 dL_law_1192 (by decide) (fun c_2 => ?_) (fun c_2 => ?_)
      · exact absurd rfl c_2
      · refine g_aload_n dL_law_1195 rfl ?_
        refine g_iconst (nI 0) dL_law_1196 (by decide) ?_
        refine g_laldN (j := 0) hw2 (by decide) (by decide) dL_law_1197 ?_
        rw [vpL_same]
        refine g_iload dL_law_1198 rfl ?_
        refine g_i2l dL_law_1200 ?_
        refine g_lcmp dL_law_1201 ?_
        rw [lcmp_self]
        refine g_if_eq 1207 dL_law_1202 (by decide) (fun c_3 => ?_) (fun c_3 => ?_)
        · refine g_goto 1739 dL_law_1207 (by decide) ?_
          exact KK _ _ _ _ _ _ _ _ ⟨pl, n0, f, P, L, day, car, err, 0, _, hC2, hR2, hw2, by omega, by omega, hpl⟩ (by (try dsimp only); omega) (by (try dsimp only); omega)
        · exact absurd rfl c_3
    · exact absurd rfl c_1
  · refine g_aload_n dL_law_1154 rfl ?_
    refine g_aload_n dL_law_1155 rfl ?_
    refine g_iload dL_law_1156 rfl ?_
    refine g_iconst (nI 1) dL_law_1158 (by decide) ?_
    first | refine g_iaddN dL_law_1159 ?_ | refine g_iadd dL_law_1159 ?_
    refine g_tald (j := i + 1) hT (by omega) (by omega) dL_law_1160 ?_
    rw [hp]
    refine g_aload_n dL_law_1161 rfl ?_
    refine g_callSH kw_lastOf (wX_lastOf p h0 (m10_lastOfX p hc hTh hC)) rfl rfl (Nat.le_of_ble_eq_true rfl) (by decide) (by decide) (by (try dsimp only); omega) (by (try dsimp only); omega) dL_law_1162 ?_
    rintro v1 h1 z1 ⟨rfl, rfl, hz9⟩
    have hM := fun z0 => m12_lastOf (z := z0) p hR
    refine g_istore dL_law_1165 (by decide) rfl ?_
    refine g_aload_n dL_law_1167 rfl ?_
    refine g_aload_n dL_law_1168 rfl ?_
    refine g_iload dL_law_1169 rfl ?_
    refine g_iconst (nI 1) dL_law_1171 (by decide) ?_
    first | refine g_iaddN dL_law_1172 ?_ | refine g_iadd dL_law_1172 ?_
    refine g_tald (j := i + 1) hT (by omega) (by omega) dL_law_1173 ?_
    rw [hp]
    refine g_callV0 kL_183 (hM _) hm rfl rfl rfl (Nat.le_of_ble_eq_true rfl) (by decide) (by decide) (by (try dsimp only); omega) (by (try dsimp only); omega) dL_law_1174 ?_
    rintro v1 h2 z1 ⟨rfl, rfl, hR2, hO2⟩
    rw [if_neg hc]
    rw [if_neg hc] at hR2
    have hC2 := hC.eqo (fun x _ _ => hO2 x (by omega) (by omega) (by omega))
    have hw2 := (hO2 (o + 187) (by omega) (by omega) (by omega)).trans hw
    obtain ⟨fr2, hm2⟩ := hR2.at
    refine g_istore dL_law_1177 (by decide) rfl ?_
    refine g_aload_n dL_law_1179 rfl ?_
    refine g_callV0 kL_95 (mR_thrown hR2) hm2 rfl rfl rfl (Nat.le_of_ble_eq_true rfl) (by decide) (by decide) (by (try dsimp only); omega) (by (try dsimp only); omega) dL_law_1180 ?_
    rintro v1 h3 z1 ⟨rfl, rfl, rfl⟩
    refine g_iload dL_law_1183 rfl ?_
    refine g_icmp_eq 1190 dL_law_1185 (by decide) (fun c_1 => ?_) (fun c_1 => ?_)
    · refine g_iload dL_law_1190 rfl ?_
      refine g_if_ne 1207 dL_law_1192 (by decide) (fun c_2 => ?_) (fun c_2 => ?_)
      · refine g_goto 1739 dL_law_1207 (by decide) ?_
        exact KK _ _ _ _ _ _ _ _ ⟨pl, n0, f, P, L, day, car, err, 1, g, hC2, hR2, hw2, by omega, by omega, hpl⟩ (by (try dsimp only); omega) (by (try dsimp only); omega)
      · exact absurd c_2 (by decide)
    · exact absurd rfl c_1
set_option maxRecDepth 100000 in
set_option maxHeartbeats 4000000 in
theorem lc_stepsTo {X : gX} {F : gF} {K : gKo} {b Ls i o k n z : Nat} {xs : Nat → Int32} {h : gH} {x5 x6 x7 x8 : Option Value} (hK : gCo X K) (hTh : gTh X) (hT : gTb X .int b Ls (fun j => .int (xs j))) (hLs : Ls ≤ 3072) (hi : i + 6 ≤ Ls) (hk : k + 12 ≤ 601024) (hn : n + 1806 ≤ 7293034) (hI : LwI X K o h z) (KK : ∀ (h' : gH) (z' k' n' : Nat) (a5 a6 a7 a8 : Option Value), LwI X K o h' z' → k' ≤ k + 12 → n' ≤ n + 1806 → G X F cL_law 9 RL lwR k' n' 1739 [some (.ref b), some (.ref o), some (.ref (o + 162)), some (.ref (o + 187)), some (.int (nI i)), a5, a6, a7, a8] [] h' z') : G X F cL_law 9 RL lwR k n 1210 [some (.ref b), some (.ref o), some (.ref (o + 162)), some (.ref (o + 187)), some (.int (nI i)), x5, x6, x7, x8] [] h z := by
  obtain ⟨pl, n0, f, P, L, day, car, err, t, g, hC, hR, hw, hz1, hz2, hpl⟩ := hI
  obtain ⟨fs, h0⟩ := hC.at
  obtain ⟨fr, hm⟩ := hR.at
  obtain ⟨hl40, hok, hn0⟩ := hC.len
  have h8 := hok.1.1
  obtain ⟨p, hp⟩ : ∃ p, xs (i + 1) = p := ⟨_, rfl⟩
  by_cases hc : p.toNatClampNeg < P.1.1 ∧ p = nI p.toNatClampNeg
  · have hx := hc.2
    have hk0 := hc.1
    generalize hkk : p.toNatClampNeg = k0 at hk0 hx
    subst hx
    have hc2 : k0 < P.1.1 ∧ nI k0 = nI k0 := ⟨hk0, rfl⟩
    refine g_aload_n dL_law_1210 rfl ?_
    refine g_aload_n dL_law_1211 rfl ?_
    refine g_iload dL_law_1212 rfl ?_
    refine g_iconst (nI 1) dL_law_1214 (by decide) ?_
    first | refine g_iaddN dL_law_1215 ?_ | refine g_iadd dL_law_1215 ?_
    refine g_tald (j := i + 1) hT (by omega) (by omega) dL_law_1216 ?_
    rw [hp]
    refine g_aload_n dL_law_1217 rfl ?_
    refine g_callSH kw_stepsTo (wL_stepsTo (nI k0) h0 hw (Or.inr (by omega)) (m10_stepsTo k0 hk0 hC)) rfl rfl (Nat.le_of_ble_eq_true rfl) (by decide) (by decide) (by (try dsimp only); omega) (by (try dsimp only); omega) dL_law_1218 ?_
    rintro v1 h1 z1 ⟨rfl, rfl, h9, hC9, hO9, e1⟩
    have hR1 : RefS X h1 (o + 162) pl n0 f P L day car err t := hR.eqm (fun x _ _ => by rw [e1, gset_ne (by omega)]; exact hO9 x (by omega)) (fun x _ _ => by rw [e1, gset_ne (by omega)]; exact hO9 x (by omega))
    have hC1 := hC9.eqo (h' := h1) (fun x _ _ => by rw [e1, gset_ne (by omega)])
    have hw1 := (congrFun e1 (o + 187)).trans gset_same
    obtain ⟨fr1, hm1⟩ := hR1.at
    have hM := fun z0 => m12_stepsTo (z := z0) (nI k0) hR1
    rw [hkk] at hM
    refine g_istore dL_law_1221 (by decide) rfl ?_
    refine g_aload_n dL_law_1223 rfl ?_
    refine g_aload_n dL_law_1224 rfl ?_
    refine g_iload dL_law_1225 rfl ?_
    refine g_iconst (nI 1) dL_law_1227 (by decide) ?_
    first | refine g_iaddN dL_law_1228 ?_ | refine g_iadd dL_law_1228 ?_
    refine g_tald (j := i + 1) hT (by omega) (by omega) dL_law_1229 ?_
    rw [hp]
    refine g_callV0 kL_186 (hM _) hm1 rfl rfl rfl (Nat.le_of_ble_eq_true rfl) (by decide) (by decide) (by (try dsimp only); omega) (by (try dsimp only); omega) dL_law_1230 ?_
    rintro v1 h2 z1 ⟨rfl, rfl, hR2, hO2⟩
    rw [if_pos hc2]
    rw [if_pos hc2] at hR2
    have hC2 := hC1.eqo (fun x _ _ => hO2 x (by omega) (by omega) (by omega))
    have hw2 := (hO2 (o + 187) (by omega) (by omega) (by omega)).trans hw1
    obtain ⟨fr2, hm2⟩ := hR2.at
    refine g_istore dL_law_1233 (by decide) rfl ?_
    refine g_aload_n dL_law_1235 rfl ?_
    refine g_callV0 kL_95 (mR_thrown hR2) hm2 rfl rfl rfl (Nat.le_of_ble_eq_true rfl) (by decide) (by decide) (by (try dsimp only); omega) (by (try dsimp only); omega) dL_law_1236 ?_
    rintro v1 h3 z1 ⟨rfl, rfl, rfl⟩
    refine g_iload dL_law_1239 rfl ?_
    refine g_icmp_eq 1246 dL_law_1241 (by decide) (fun c_1 => ?_) (fun c_1 => ?_)
    · refine g_iload dL_law_1246 rfl ?_
      refine g_if_ne 1263 dL_law_1248 (by decide) (fun c_2 => ?_) (fun c_2 => ?_)
      · exact absurd rfl c_2
      · refine g_aload_n dL_law_1251 rfl ?_
        refine g_iconst (nI 0) dL_law_1252 (by decide) ?_
        refine g_laldN (j := 0) hw2 (by decide) (by decide) dL_law_1253 ?_
        rw [vpL_same]
        refine g_iload dL_law_1254 rfl ?_
        refine g_i2l dL_law_1256 ?_
        refine g_lcmp dL_law_1257 ?_
        rw [lcmp_self]
        refine g_if_eq 1263 dL_law_1258 (by decide) (fun c_3 => ?_) (fun c_3 => ?_)
        · refine g_goto 1739 dL_law_1263 (by decide) ?_
          exact KK _ _ _ _ _ _ _ _ ⟨pl, n0, f, P, L, day, car, err, 0, _, hC2, hR2, hw2, by omega, by omega, hpl⟩ (by (try dsimp only); omega) (by (try dsimp only); omega)
        · exact absurd rfl c_3
    · exact absurd rfl c_1
  · refine g_aload_n dL_law_1210 rfl ?_
    refine g_aload_n dL_law_1211 rfl ?_
    refine g_iload dL_law_1212 rfl ?_
    refine g_iconst (nI 1) dL_law_1214 (by decide) ?_
    first | refine g_iaddN dL_law_1215 ?_ | refine g_iadd dL_law_1215 ?_
    refine g_tald (j := i + 1) hT (by omega) (by omega) dL_law_1216 ?_
    rw [hp]
    refine g_aload_n dL_law_1217 rfl ?_
    refine g_callSH kw_stepsTo (wX_stepsTo p h0 (m10_stepsToX p hc hTh hC)) rfl rfl (Nat.le_of_ble_eq_true rfl) (by decide) (by decide) (by (try dsimp only); omega) (by (try dsimp only); omega) dL_law_1218 ?_
    rintro v1 h1 z1 ⟨rfl, rfl, hz9⟩
    have hM := fun z0 => m12_stepsTo (z := z0) p hR
    refine g_istore dL_law_1221 (by decide) rfl ?_
    refine g_aload_n dL_law_1223 rfl ?_
    refine g_aload_n dL_law_1224 rfl ?_
    refine g_iload dL_law_1225 rfl ?_
    refine g_iconst (nI 1) dL_law_1227 (by decide) ?_
    first | refine g_iaddN dL_law_1228 ?_ | refine g_iadd dL_law_1228 ?_
    refine g_tald (j := i + 1) hT (by omega) (by omega) dL_law_1229 ?_
    rw [hp]
    refine g_callV0 kL_186 (hM _) hm rfl rfl rfl (Nat.le_of_ble_eq_true rfl) (by decide) (by decide) (by (try dsimp only); omega) (by (try dsimp only); omega) dL_law_1230 ?_
    rintro v1 h2 z1 ⟨rfl, rfl, hR2, hO2⟩
    rw [if_neg hc]
    rw [if_neg hc] at hR2
    have hC2 := hC.eqo (fun x _ _ => hO2 x (by omega) (by omega) (by omega))
    have hw2 := (hO2 (o + 187) (by omega) (by omega) (by omega)).trans hw
    obtain ⟨fr2, hm2⟩ := hR2.at
    refine g_istore dL_law_1233 (by decide) rfl ?_
    refine g_aload_n dL_law_1235 rfl ?_
    refine g_callV0 kL_95 (mR_thrown hR2) hm2 rfl rfl rfl (Nat.le_of_ble_eq_true rfl) (by decide) (by decide) (by (try dsimp only); omega) (by (try dsimp only); omega) dL_law_1236 ?_
    rintro v1 h3 z1 ⟨rfl, rfl, rfl⟩
    refine g_iload dL_law_1239 rfl ?_
    refine g_icmp_eq 1246 dL_law_1241 (by decide) (fun c_1 => ?_) (fun c_1 => ?_)
    · refine g_iload dL_law_1246 rfl ?_
      refine g_if_ne 1263 dL_law_1248 (by decide) (fun c_2 => ?_) (fun c_2 => ?_)
      · refine g_goto 1739 dL_law_1263 (by decide) ?_
        exact KK _ _ _ _ _ _ _ _ ⟨pl, n0, f, P, L, day, car, err, 1, g, hC2, hR2, hw2, by omega, by omega, hpl⟩ (by (try dsimp only); omega) (by (try dsimp only); omega)
      · exact absurd c_2 (by decide)
    · exact absurd rfl c_1
