/-! the law: its switch, case by case: d -/
set_option maxRecDepth 100000 in
set_option maxHeartbeats 4000000 in
theorem lc_trim {X : gX} {F : gF} {K : gKo} {b Ls i o k n z : Nat} {xs : Nat → Int32} {h : gH} {x5 x6 x7 x8 : Option Value} (hK : gCo X K) (hTh : gTh X) (hT : gTb X .int b Ls (fun j => .int (xs j))) (hLs : Ls ≤ 3072) (hi : i + 6 ≤ Ls) (hk : k + 12 ≤ 601024) (hn : n + 1806 ≤ 7293034) (hI : LwI X K o h z) (KK : ∀ (h' : gH) (z' k' n' : Nat) (a5 a6 a7 a8 : Option Value), LwI X K o h' z' → k' ≤ k + 12 → n' ≤ n + 1806 → G X F cL_law 9 RL lwR k' n' 1739 [some (.ref b), some (.ref o), some (.ref (o + 162)), some (.ref (o + 187)), some (.int (nI i)), a5, a6, a7, a8] [] h' z') : G X F cL_law 9 RL lwR k n 308 [some (.ref b), some (.ref o), some (.ref (o + 162)), some (.ref (o + 187)), some (.int (nI i)), x5, x6, x7, x8] [] h z := by
  obtain ⟨pl, n0, f, P, L, day, car, err, t, g, hC, hR, hw, hz1, hz2, hpl⟩ := hI
  obtain ⟨fs, h0⟩ := hC.at
  obtain ⟨fr, hm⟩ := hR.at
  obtain ⟨hl40, hok, hn0⟩ := hC.len
  have h8 := hok.1.1
  obtain ⟨p, hp⟩ : ∃ p, xs (i + 1) = p := ⟨_, rfl⟩
  by_cases hc : p.toNatClampNeg ≤ n0 ∧ p = nI p.toNatClampNeg
  · have hx := hc.2
    have hk0 := hc.1
    generalize hkk : p.toNatClampNeg = k0 at hk0 hx
    subst hx
    have hc2 : k0 ≤ n0 ∧ nI k0 = nI k0 := ⟨hk0, rfl⟩
    refine g_aload_n dL_law_308 rfl ?_
    refine g_aload_n dL_law_309 rfl ?_
    refine g_iload dL_law_310 rfl ?_
    refine g_iconst (nI 1) dL_law_312 (by decide) ?_
    first | refine g_iaddN dL_law_313 ?_ | refine g_iadd dL_law_313 ?_
    refine g_tald (j := i + 1) hT (by omega) (by omega) dL_law_314 ?_
    rw [hp]
    refine g_aload_n dL_law_315 rfl ?_
    refine g_callSH kw_trim (wL_trim (nI k0) h0 hw (Or.inr (by omega)) (m10_trim k0 hk0 hC)) rfl rfl (Nat.le_of_ble_eq_true rfl) (by decide) (by decide) (by (try dsimp only); omega) (by (try dsimp only); omega) dL_law_316 ?_
    rintro v1 h1 z1 ⟨rfl, rfl, h9, hC9, hO9, e1⟩
    have hR1 : RefS X h1 (o + 162) pl n0 f P L day car err t := hR.eqm (fun x _ _ => by rw [e1, gset_ne (by omega)]; exact hO9 x (by omega)) (fun x _ _ => by rw [e1, gset_ne (by omega)]; exact hO9 x (by omega))
    have hC1 := hC9.eqo (h' := h1) (fun x _ _ => by rw [e1, gset_ne (by omega)])
    have hw1 := (congrFun e1 (o + 187)).trans gset_same
    obtain ⟨fr1, hm1⟩ := hR1.at
    have hM := fun z0 => mR_trim (z := z0) (nI k0) hR1
    rw [hkk] at hM
    refine g_istore dL_law_319 (by decide) rfl ?_
    refine g_aload_n dL_law_321 rfl ?_
    refine g_aload_n dL_law_322 rfl ?_
    refine g_iload dL_law_323 rfl ?_
    refine g_iconst (nI 1) dL_law_325 (by decide) ?_
    first | refine g_iaddN dL_law_326 ?_ | refine g_iadd dL_law_326 ?_
    refine g_tald (j := i + 1) hT (by omega) (by omega) dL_law_327 ?_
    rw [hp]
    refine g_callV0 kL_102 (hM _) hm1 rfl rfl rfl (Nat.le_of_ble_eq_true rfl) (by decide) (by decide) (by (try dsimp only); omega) (by (try dsimp only); omega) dL_law_328 ?_
    rintro v1 h2 z1 ⟨rfl, rfl, hR2, hO2⟩
    rw [if_pos hc2]
    rw [if_pos hc2, if_pos hc2] at hR2
    have hC2 := hC1.eqo (fun x _ _ => hO2 x (by omega) (by omega) (by omega))
    have hw2 := (hO2 (o + 187) (by omega) (by omega) (by omega)).trans hw1
    obtain ⟨fr2, hm2⟩ := hR2.at
    refine g_istore dL_law_331 (by decide) rfl ?_
    refine g_aload_n dL_law_333 rfl ?_
    refine g_callV0 kL_95 (mR_thrown hR2) hm2 rfl rfl rfl (Nat.le_of_ble_eq_true rfl) (by decide) (by decide) (by (try dsimp only); omega) (by (try dsimp only); omega) dL_law_334 ?_
    rintro v1 h3 z1 ⟨rfl, rfl, rfl⟩
    refine g_iload dL_law_337 rfl ?_
    refine g_icmp_eq 344 dL_law_339 (by decide) (fun c_1 => ?_) (fun c_1 => ?_)
    · refine g_iload dL_law_344 rfl ?_
      refine g_if_ne 361 dL_law_346 (by decide) (fun c_2 => ?_) (fun c_2 => ?_)
      · exact absurd rfl c_2
      · refine g_aload_n dL_law_349 rfl ?_
        refine g_iconst (nI 0) dL_law_350 (by decide) ?_
        refine g_laldN (j := 0) hw2 (by decide) (by decide) dL_law_351 ?_
        rw [vpL_same]
        refine g_iload dL_law_352 rfl ?_
        refine g_i2l dL_law_354 ?_
        refine g_lcmp dL_law_355 ?_
        rw [lcmp_self]
        refine g_if_eq 361 dL_law_356 (by decide) (fun c_3 => ?_) (fun c_3 => ?_)
        · refine g_goto 1739 dL_law_361 (by decide) ?_
          exact KK _ _ _ _ _ _ _ _ ⟨pl, _, f, P, L, day, car, err, 0, _, hC2, hR2, hw2, by omega, by omega, hpl⟩ (by (try dsimp only); omega) (by (try dsimp only); omega)
        · exact absurd rfl c_3
    · exact absurd rfl c_1
  · refine g_aload_n dL_law_308 rfl ?_
    refine g_aload_n dL_law_309 rfl ?_
    refine g_iload dL_law_310 rfl ?_
    refine g_iconst (nI 1) dL_law_312 (by decide) ?_
    first | refine g_iaddN dL_law_313 ?_ | refine g_iadd dL_law_313 ?_
    refine g_tald (j := i + 1) hT (by omega) (by omega) dL_law_314 ?_
    rw [hp]
    refine g_aload_n dL_law_315 rfl ?_
    refine g_callSH kw_trim (wX_trim p h0 (m10_trimX p hc hTh hC)) rfl rfl (Nat.le_of_ble_eq_true rfl) (by decide) (by decide) (by (try dsimp only); omega) (by (try dsimp only); omega) dL_law_316 ?_
    rintro v1 h1 z1 ⟨rfl, rfl, hz9⟩
    have hM := fun z0 => mR_trim (z := z0) p hR
    refine g_istore dL_law_319 (by decide) rfl ?_
    refine g_aload_n dL_law_321 rfl ?_
    refine g_aload_n dL_law_322 rfl ?_
    refine g_iload dL_law_323 rfl ?_
    refine g_iconst (nI 1) dL_law_325 (by decide) ?_
    first | refine g_iaddN dL_law_326 ?_ | refine g_iadd dL_law_326 ?_
    refine g_tald (j := i + 1) hT (by omega) (by omega) dL_law_327 ?_
    rw [hp]
    refine g_callV0 kL_102 (hM _) hm rfl rfl rfl (Nat.le_of_ble_eq_true rfl) (by decide) (by decide) (by (try dsimp only); omega) (by (try dsimp only); omega) dL_law_328 ?_
    rintro v1 h2 z1 ⟨rfl, rfl, hR2, hO2⟩
    rw [if_neg hc]
    rw [if_neg hc, if_neg hc] at hR2
    have hC2 := hC.eqo (fun x _ _ => hO2 x (by omega) (by omega) (by omega))
    have hw2 := (hO2 (o + 187) (by omega) (by omega) (by omega)).trans hw
    obtain ⟨fr2, hm2⟩ := hR2.at
    refine g_istore dL_law_331 (by decide) rfl ?_
    refine g_aload_n dL_law_333 rfl ?_
    refine g_callV0 kL_95 (mR_thrown hR2) hm2 rfl rfl rfl (Nat.le_of_ble_eq_true rfl) (by decide) (by decide) (by (try dsimp only); omega) (by (try dsimp only); omega) dL_law_334 ?_
    rintro v1 h3 z1 ⟨rfl, rfl, rfl⟩
    refine g_iload dL_law_337 rfl ?_
    refine g_icmp_eq 344 dL_law_339 (by decide) (fun c_1 => ?_) (fun c_1 => ?_)
    · refine g_iload dL_law_344 rfl ?_
      refine g_if_ne 361 dL_law_346 (by decide) (fun c_2 => ?_) (fun c_2 => ?_)
      · refine g_goto 1739 dL_law_361 (by decide) ?_
        exact KK _ _ _ _ _ _ _ _ ⟨pl, n0, f, P, L, day, car, err, 1, g, hC2, hR2, hw2, by omega, by omega, hpl⟩ (by (try dsimp only); omega) (by (try dsimp only); omega)
      · exact absurd c_2 (by decide)
    · exact absurd rfl c_1
set_option maxRecDepth 100000 in
set_option maxHeartbeats 4000000 in
theorem lc_shared {X : gX} {F : gF} {K : gKo} {b Ls i o k n z : Nat} {xs : Nat → Int32} {h : gH} {x5 x6 x7 x8 : Option Value} (hK : gCo X K) (hTh : gTh X) (hT : gTb X .int b Ls (fun j => .int (xs j))) (hLs : Ls ≤ 3072) (hi : i + 6 ≤ Ls) (hk : k + 12 ≤ 601024) (hn : n + 1806 ≤ 7293034) (hI : LwI X K o h z) (KK : ∀ (h' : gH) (z' k' n' : Nat) (a5 a6 a7 a8 : Option Value), LwI X K o h' z' → k' ≤ k + 12 → n' ≤ n + 1806 → G X F cL_law 9 RL lwR k' n' 1739 [some (.ref b), some (.ref o), some (.ref (o + 162)), some (.ref (o + 187)), some (.int (nI i)), a5, a6, a7, a8] [] h' z') : G X F cL_law 9 RL lwR k n 679 [some (.ref b), some (.ref o), some (.ref (o + 162)), some (.ref (o + 187)), some (.int (nI i)), x5, x6, x7, x8] [] h z := by
  obtain ⟨pl, n0, f, P, L, day, car, err, t, g, hC, hR, hw, hz1, hz2, hpl⟩ := hI
  obtain ⟨fs, h0⟩ := hC.at
  obtain ⟨fr, hm⟩ := hR.at
  obtain ⟨hl40, hok, hn0⟩ := hC.len
  have h8 := hok.1.1
  obtain ⟨p, hp⟩ : ∃ p, xs (i + 1) = p := ⟨_, rfl⟩
  obtain ⟨q, hq⟩ : ∃ q, xs (i + 2) = q := ⟨_, rfl⟩
  by_cases hc : (p.toNatClampNeg < L.length ∧ p = nI p.toNatClampNeg) ∧ q.toNatClampNeg < L.length ∧ q = nI q.toNatClampNeg
  · have hx := hc.1.2
    have hk0 := hc.1.1
    have hy := hc.2.2
    have hk1 := hc.2.1
    generalize hkk : p.toNatClampNeg = k0 at hk0 hx
    generalize hkl : q.toNatClampNeg = k1 at hk1 hy
    subst hx
    subst hy
    have hc2 : (k0 < L.length ∧ nI k0 = nI k0) ∧ k1 < L.length ∧ nI k1 = nI k1 := ⟨⟨hk0, rfl⟩, hk1, rfl⟩
    refine g_aload_n dL_law_679 rfl ?_
    refine g_aload_n dL_law_680 rfl ?_
    refine g_iload dL_law_681 rfl ?_
    refine g_iconst (nI 1) dL_law_683 (by decide) ?_
    first | refine g_iaddN dL_law_684 ?_ | refine g_iadd dL_law_684 ?_
    refine g_tald (j := i + 1) hT (by omega) (by omega) dL_law_685 ?_
    rw [hp]
    refine g_aload_n dL_law_686 rfl ?_
    refine g_iload dL_law_687 rfl ?_
    refine g_iconst (nI 2) dL_law_689 (by decide) ?_
    first | refine g_iaddN dL_law_690 ?_ | refine g_iadd dL_law_690 ?_
    refine g_tald (j := i + 2) hT (by omega) (by omega) dL_law_691 ?_
    rw [hq]
    refine g_aload_n dL_law_692 rfl ?_
    refine g_callSH kw_shared (wL_shared (nI k0) (nI k1) h0 hw (Or.inr (by omega)) (m10_shared k0 k1 hk0 hk1 hC)) rfl rfl (Nat.le_of_ble_eq_true rfl) (by decide) (by decide) (by (try dsimp only); omega) (by (try dsimp only); omega) dL_law_693 ?_
    rintro v1 h1 z1 ⟨rfl, rfl, h9, hC9, hO9, e1⟩
    have hR1 : RefS X h1 (o + 162) pl n0 f P L day car err t := hR.eqm (fun x _ _ => by rw [e1, gset_ne (by omega)]; exact hO9 x (by omega)) (fun x _ _ => by rw [e1, gset_ne (by omega)]; exact hO9 x (by omega))
    have hC1 := hC9.eqo (h' := h1) (fun x _ _ => by rw [e1, gset_ne (by omega)])
    have hw1 := (congrFun e1 (o + 187)).trans gset_same
    obtain ⟨fr1, hm1⟩ := hR1.at
    have hM := fun z0 => mR_shared (z := z0) (nI k0) (nI k1) hR1
    rw [hkk, hkl] at hM
    refine g_istore dL_law_696 (by decide) rfl ?_
    refine g_aload_n dL_law_698 rfl ?_
    refine g_aload_n dL_law_699 rfl ?_
    refine g_iload dL_law_700 rfl ?_
    refine g_iconst (nI 1) dL_law_702 (by decide) ?_
    first | refine g_iaddN dL_law_703 ?_ | refine g_iadd dL_law_703 ?_
    refine g_tald (j := i + 1) hT (by omega) (by omega) dL_law_704 ?_
    rw [hp]
    refine g_aload_n dL_law_705 rfl ?_
    refine g_iload dL_law_706 rfl ?_
    refine g_iconst (nI 2) dL_law_708 (by decide) ?_
    first | refine g_iaddN dL_law_709 ?_ | refine g_iadd dL_law_709 ?_
    refine g_tald (j := i + 2) hT (by omega) (by omega) dL_law_710 ?_
    rw [hq]
    refine g_callV0 kL_146 (hM _) hm1 rfl rfl rfl (Nat.le_of_ble_eq_true rfl) (by decide) (by decide) (by (try dsimp only); omega) (by (try dsimp only); omega) dL_law_711 ?_
    rintro v1 h2 z1 ⟨rfl, rfl, hR2, hO2⟩
    rw [if_pos hc2]
    rw [if_pos hc2] at hR2
    have hC2 := hC1.eqo (fun x _ _ => hO2 x (by omega) (by omega) (by omega))
    have hw2 := (hO2 (o + 187) (by omega) (by omega) (by omega)).trans hw1
    obtain ⟨fr2, hm2⟩ := hR2.at
    refine g_istore dL_law_714 (by decide) rfl ?_
    refine g_aload_n dL_law_716 rfl ?_
    refine g_callV0 kL_95 (mR_thrown hR2) hm2 rfl rfl rfl (Nat.le_of_ble_eq_true rfl) (by decide) (by decide) (by (try dsimp only); omega) (by (try dsimp only); omega) dL_law_717 ?_
    rintro v1 h3 z1 ⟨rfl, rfl, rfl⟩
    refine g_iload dL_law_720 rfl ?_
    refine g_icmp_eq 727 dL_law_722 (by decide) (fun c_1 => ?_) (fun c_1 => ?_)
    · refine g_iload dL_law_727 rfl ?_
      refine g_if_ne 744 dL_law_729 (by decide) (fun c_2 => ?_) (fun c_2 => ?_)
      · exact absurd rfl c_2
      · refine g_aload_n dL_law_732 rfl ?_
        refine g_iconst (nI 0) dL_law_733 (by decide) ?_
        refine g_laldN (j := 0) hw2 (by decide) (by decide) dL_law_734 ?_
        rw [vpL_same]
        refine g_iload dL_law_735 rfl ?_
        refine g_i2l dL_law_737 ?_
        refine g_lcmp dL_law_738 ?_
        rw [lcmp_self]
        refine g_if_eq 744 dL_law_739 (by decide) (fun c_3 => ?_) (fun c_3 => ?_)
        · refine g_goto 1739 dL_law_744 (by decide) ?_
          exact KK _ _ _ _ _ _ _ _ ⟨pl, n0, f, P, L, day, car, err, 0, _, hC2, hR2, hw2, by omega, by omega, hpl⟩ (by (try dsimp only); omega) (by (try dsimp only); omega)
        · exact absurd rfl c_3
    · exact absurd rfl c_1
  · refine g_aload_n dL_law_679 rfl ?_
    refine g_aload_n dL_law_680 rfl ?_
    refine g_iload dL_law_681 rfl ?_
    refine g_iconst (nI 1) dL_law_683 (by decide) ?_
    first | refine g_iaddN dL_law_684 ?_ | refine g_iadd dL_law_684 ?_
    refine g_tald (j := i + 1) hT (by omega) (by omega) dL_law_685 ?_
    rw [hp]
    refine g_aload_n dL_law_686 rfl ?_
    refine g_iload dL_law_687 rfl ?_
    refine g_iconst (nI 2) dL_law_689 (by decide) ?_
    first | refine g_iaddN dL_law_690 ?_ | refine g_iadd dL_law_690 ?_
    refine g_tald (j := i + 2) hT (by omega) (by omega) dL_law_691 ?_
    rw [hq]
    refine g_aload_n dL_law_692 rfl ?_
    refine g_callSH kw_shared (wX_shared p q h0 (m10_sharedX p q hc hTh hC)) rfl rfl (Nat.le_of_ble_eq_true rfl) (by decide) (by decide) (by (try dsimp only); omega) (by (try dsimp only); omega) dL_law_693 ?_
    rintro v1 h1 z1 ⟨rfl, rfl, hz9⟩
    have hM := fun z0 => mR_shared (z := z0) p q hR
    refine g_istore dL_law_696 (by decide) rfl ?_
    refine g_aload_n dL_law_698 rfl ?_
    refine g_aload_n dL_law_699 rfl ?_
    refine g_iload dL_law_700 rfl ?_
    refine g_iconst (nI 1) dL_law_702 (by decide) ?_
    first | refine g_iaddN dL_law_703 ?_ | refine g_iadd dL_law_703 ?_
    refine g_tald (j := i + 1) hT (by omega) (by omega) dL_law_704 ?_
    rw [hp]
    refine g_aload_n dL_law_705 rfl ?_
    refine g_iload dL_law_706 rfl ?_
    refine g_iconst (nI 2) dL_law_708 (by decide) ?_
    first | refine g_iaddN dL_law_709 ?_ | refine g_iadd dL_law_709 ?_
    refine g_tald (j := i + 2) hT (by omega) (by omega) dL_law_710 ?_
    rw [hq]
    refine g_callV0 kL_146 (hM _) hm rfl rfl rfl (Nat.le_of_ble_eq_true rfl) (by decide) (by decide) (by (try dsimp only); omega) (by (try dsimp only); omega) dL_law_711 ?_
    rintro v1 h2 z1 ⟨rfl, rfl, hR2, hO2⟩
    rw [if_neg hc]
    rw [if_neg hc] at hR2
    have hC2 := hC.eqo (fun x _ _ => hO2 x (by omega) (by omega) (by omega))
    have hw2 := (hO2 (o + 187) (by omega) (by omega) (by omega)).trans hw
    obtain ⟨fr2, hm2⟩ := hR2.at
    refine g_istore dL_law_714 (by decide) rfl ?_
    refine g_aload_n dL_law_716 rfl ?_
    refine g_callV0 kL_95 (mR_thrown hR2) hm2 rfl rfl rfl (Nat.le_of_ble_eq_true rfl) (by decide) (by decide) (by (try dsimp only); omega) (by (try dsimp only); omega) dL_law_717 ?_
    rintro v1 h3 z1 ⟨rfl, rfl, rfl⟩
    refine g_iload dL_law_720 rfl ?_
    refine g_icmp_eq 727 dL_law_722 (by decide) (fun c_1 => ?_) (fun c_1 => ?_)
    · refine g_iload dL_law_727 rfl ?_
      refine g_if_ne 744 dL_law_729 (by decide) (fun c_2 => ?_) (fun c_2 => ?_)
      · refine g_goto 1739 dL_law_744 (by decide) ?_
        exact KK _ _ _ _ _ _ _ _ ⟨pl, n0, f, P, L, day, car, err, 1, g, hC2, hR2, hw2, by omega, by omega, hpl⟩ (by (try dsimp only); omega) (by (try dsimp only); omega)
      · exact absurd c_2 (by decide)
    · exact absurd rfl c_1
set_option maxRecDepth 100000 in
set_option maxHeartbeats 4000000 in
theorem lc_isAhead {X : gX} {F : gF} {K : gKo} {b Ls i o k n z : Nat} {xs : Nat → Int32} {h : gH} {x5 x6 x7 x8 : Option Value} (hK : gCo X K) (hTh : gTh X) (hT : gTb X .int b Ls (fun j => .int (xs j))) (hLs : Ls ≤ 3072) (hi : i + 6 ≤ Ls) (hk : k + 12 ≤ 601024) (hn : n + 1806 ≤ 7293034) (hI : LwI X K o h z) (KK : ∀ (h' : gH) (z' k' n' : Nat) (a5 a6 a7 a8 : Option Value), LwI X K o h' z' → k' ≤ k + 12 → n' ≤ n + 1806 → G X F cL_law 9 RL lwR k' n' 1739 [some (.ref b), some (.ref o), some (.ref (o + 162)), some (.ref (o + 187)), some (.int (nI i)), a5, a6, a7, a8] [] h' z') : G X F cL_law 9 RL lwR k n 747 [some (.ref b), some (.ref o), some (.ref (o + 162)), some (.ref (o + 187)), some (.int (nI i)), x5, x6, x7, x8] [] h z := by
  obtain ⟨pl, n0, f, P, L, day, car, err, t, g, hC, hR, hw, hz1, hz2, hpl⟩ := hI
  obtain ⟨fs, h0⟩ := hC.at
  obtain ⟨fr, hm⟩ := hR.at
  obtain ⟨hl40, hok, hn0⟩ := hC.len
  have h8 := hok.1.1
  obtain ⟨p, hp⟩ : ∃ p, xs (i + 1) = p := ⟨_, rfl⟩
  obtain ⟨q, hq⟩ : ∃ q, xs (i + 2) = q := ⟨_, rfl⟩
  by_cases hc : (p.toNatClampNeg < L.length ∧ p = nI p.toNatClampNeg) ∧ q.toNatClampNeg < L.length ∧ q = nI q.toNatClampNeg
  · have hx := hc.1.2
    have hk0 := hc.1.1
    have hy := hc.2.2
    have hk1 := hc.2.1
    generalize hkk : p.toNatClampNeg = k0 at hk0 hx
    generalize hkl : q.toNatClampNeg = k1 at hk1 hy
    subst hx
    subst hy
    have hc2 : (k0 < L.length ∧ nI k0 = nI k0) ∧ k1 < L.length ∧ nI k1 = nI k1 := ⟨⟨hk0, rfl⟩, hk1, rfl⟩
    refine g_aload_n dL_law_747 rfl ?_
    refine g_aload_n dL_law_748 rfl ?_
    refine g_iload dL_law_749 rfl ?_
    refine g_iconst (nI 1) dL_law_751 (by decide) ?_
    first | refine g_iaddN dL_law_752 ?_ | refine g_iadd dL_law_752 ?_
    refine g_tald (j := i + 1) hT (by omega) (by omega) dL_law_753 ?_
    rw [hp]
    refine g_aload_n dL_law_754 rfl ?_
    refine g_iload dL_law_755 rfl ?_
    refine g_iconst (nI 2) dL_law_757 (by decide) ?_
    first | refine g_iaddN dL_law_758 ?_ | refine g_iadd dL_law_758 ?_
    refine g_tald (j := i + 2) hT (by omega) (by omega) dL_law_759 ?_
    rw [hq]
    refine g_aload_n dL_law_760 rfl ?_
    refine g_callSH kw_isAhead (wL_isAhead (nI k0) (nI k1) h0 hw (Or.inr (by omega)) (m10_isAhead k0 k1 hk0 hk1 hC)) rfl rfl (Nat.le_of_ble_eq_true rfl) (by decide) (by decide) (by (try dsimp only); omega) (by (try dsimp only); omega) dL_law_761 ?_
    rintro v1 h1 z1 ⟨rfl, rfl, h9, hC9, hO9, e1⟩
    have hR1 : RefS X h1 (o + 162) pl n0 f P L day car err t := hR.eqm (fun x _ _ => by rw [e1, gset_ne (by omega)]; exact hO9 x (by omega)) (fun x _ _ => by rw [e1, gset_ne (by omega)]; exact hO9 x (by omega))
    have hC1 := hC9.eqo (h' := h1) (fun x _ _ => by rw [e1, gset_ne (by omega)])
    have hw1 := (congrFun e1 (o + 187)).trans gset_same
    obtain ⟨fr1, hm1⟩ := hR1.at
    have hM := fun z0 => mR_isAhead (z := z0) (nI k0) (nI k1) hR1
    rw [hkk, hkl] at hM
    refine g_istore dL_law_764 (by decide) rfl ?_
    refine g_aload_n dL_law_766 rfl ?_
    refine g_aload_n dL_law_767 rfl ?_
    refine g_iload dL_law_768 rfl ?_
    refine g_iconst (nI 1) dL_law_770 (by decide) ?_
    first | refine g_iaddN dL_law_771 ?_ | refine g_iadd dL_law_771 ?_
    refine g_tald (j := i + 1) hT (by omega) (by omega) dL_law_772 ?_
    rw [hp]
    refine g_aload_n dL_law_773 rfl ?_
    refine g_iload dL_law_774 rfl ?_
    refine g_iconst (nI 2) dL_law_776 (by decide) ?_
    first | refine g_iaddN dL_law_777 ?_ | refine g_iadd dL_law_777 ?_
    refine g_tald (j := i + 2) hT (by omega) (by omega) dL_law_778 ?_
    rw [hq]
    refine g_callV0 kL_149 (hM _) hm1 rfl rfl rfl (Nat.le_of_ble_eq_true rfl) (by decide) (by decide) (by (try dsimp only); omega) (by (try dsimp only); omega) dL_law_779 ?_
    rintro v1 h2 z1 ⟨rfl, rfl, hR2, hO2⟩
    rw [if_pos hc2]
    rw [if_pos hc2] at hR2
    have hC2 := hC1.eqo (fun x _ _ => hO2 x (by omega) (by omega) (by omega))
    have hw2 := (hO2 (o + 187) (by omega) (by omega) (by omega)).trans hw1
    obtain ⟨fr2, hm2⟩ := hR2.at
    refine g_istore dL_law_782 (by decide) rfl ?_
    refine g_aload_n dL_law_784 rfl ?_
    refine g_callV0 kL_95 (mR_thrown hR2) hm2 rfl rfl rfl (Nat.le_of_ble_eq_true rfl) (by decide) (by decide) (by (try dsimp only); omega) (by (try dsimp only); omega) dL_law_785 ?_
    rintro v1 h3 z1 ⟨rfl, rfl, rfl⟩
    refine g_iload dL_law_788 rfl ?_
    refine g_icmp_eq 795 dL_law_790 (by decide) (fun c_1 => ?_) (fun c_1 => ?_)
    · refine g_iload dL_law_795 rfl ?_
      refine g_if_ne 819 dL_law_797 (by decide) (fun c_2 => ?_) (fun c_2 => ?_)
      · exact absurd rfl c_2
      · refine g_aload_n dL_law_800 rfl ?_
        refine g_iconst (nI 0) dL_law_801 (by decide) ?_
        refine g_laldN (j := 0) hw2 (by decide) (by decide) dL_law_802 ?_
        rw [vpL_same]
        refine g_iload dL_law_803 rfl ?_
        refine g_if_eqB 812 dL_law_805 (by decide) (fun c_4 => ?_) (fun c_4 => ?_)
        · refine g_lconst (lN 0) dL_law_812 rfl ?_
          refine g_lcmp dL_law_813 ?_
          rw [show b2l (ahd L k0 k1) = lN 0 from by rw [c_4]; rfl, lcmp_self]
          refine g_if_eq 819 dL_law_814 (by decide) (fun c_3 => ?_) (fun c_3 => ?_)
          · refine g_goto 1739 dL_law_819 (by decide) ?_
            exact KK _ _ _ _ _ _ _ _ ⟨pl, n0, f, P, L, day, car, err, 0, _, hC2, hR2, hw2, by omega, by omega, hpl⟩ (by (try dsimp only); omega) (by (try dsimp only); omega)
          · exact absurd rfl c_3
        · refine g_lconst (lN 1) dL_law_808 rfl ?_
          refine g_goto 813 dL_law_809 (by decide) ?_
          refine g_lcmp dL_law_813 ?_
          rw [show b2l (ahd L k0 k1) = lN 1 from by rw [c_4]; rfl, lcmp_self]
          refine g_if_eq 819 dL_law_814 (by decide) (fun c_3 => ?_) (fun c_3 => ?_)
          · refine g_goto 1739 dL_law_819 (by decide) ?_
            exact KK _ _ _ _ _ _ _ _ ⟨pl, n0, f, P, L, day, car, err, 0, _, hC2, hR2, hw2, by omega, by omega, hpl⟩ (by (try dsimp only); omega) (by (try dsimp only); omega)
          · exact absurd rfl c_3
    · exact absurd rfl c_1
  · refine g_aload_n dL_law_747 rfl ?_
    refine g_aload_n dL_law_748 rfl ?_
    refine g_iload dL_law_749 rfl ?_
    refine g_iconst (nI 1) dL_law_751 (by decide) ?_
    first | refine g_iaddN dL_law_752 ?_ | refine g_iadd dL_law_752 ?_
    refine g_tald (j := i + 1) hT (by omega) (by omega) dL_law_753 ?_
    rw [hp]
    refine g_aload_n dL_law_754 rfl ?_
    refine g_iload dL_law_755 rfl ?_
    refine g_iconst (nI 2) dL_law_757 (by decide) ?_
    first | refine g_iaddN dL_law_758 ?_ | refine g_iadd dL_law_758 ?_
    refine g_tald (j := i + 2) hT (by omega) (by omega) dL_law_759 ?_
    rw [hq]
    refine g_aload_n dL_law_760 rfl ?_
    refine g_callSH kw_isAhead (wX_isAhead p q h0 (m10_isAheadX p q hc hTh hC)) rfl rfl (Nat.le_of_ble_eq_true rfl) (by decide) (by decide) (by (try dsimp only); omega) (by (try dsimp only); omega) dL_law_761 ?_
    rintro v1 h1 z1 ⟨rfl, rfl, hz9⟩
    have hM := fun z0 => mR_isAhead (z := z0) p q hR
    refine g_istore dL_law_764 (by decide) rfl ?_
    refine g_aload_n dL_law_766 rfl ?_
    refine g_aload_n dL_law_767 rfl ?_
    refine g_iload dL_law_768 rfl ?_
    refine g_iconst (nI 1) dL_law_770 (by decide) ?_
    first | refine g_iaddN dL_law_771 ?_ | refine g_iadd dL_law_771 ?_
    refine g_tald (j := i + 1) hT (by omega) (by omega) dL_law_772 ?_
    rw [hp]
    refine g_aload_n dL_law_773 rfl ?_
    refine g_iload dL_law_774 rfl ?_
    refine g_iconst (nI 2) dL_law_776 (by decide) ?_
    first | refine g_iaddN dL_law_777 ?_ | refine g_iadd dL_law_777 ?_
    refine g_tald (j := i + 2) hT (by omega) (by omega) dL_law_778 ?_
    rw [hq]
    refine g_callV0 kL_149 (hM _) hm rfl rfl rfl (Nat.le_of_ble_eq_true rfl) (by decide) (by decide) (by (try dsimp only); omega) (by (try dsimp only); omega) dL_law_779 ?_
    rintro v1 h2 z1 ⟨rfl, rfl, hR2, hO2⟩
    rw [if_neg hc]
    rw [if_neg hc] at hR2
    have hC2 := hC.eqo (fun x _ _ => hO2 x (by omega) (by omega) (by omega))
    have hw2 := (hO2 (o + 187) (by omega) (by omega) (by omega)).trans hw
    obtain ⟨fr2, hm2⟩ := hR2.at
    refine g_istore dL_law_782 (by decide) rfl ?_
    refine g_aload_n dL_law_784 rfl ?_
    refine g_callV0 kL_95 (mR_thrown hR2) hm2 rfl rfl rfl (Nat.le_of_ble_eq_true rfl) (by decide) (by decide) (by (try dsimp only); omega) (by (try dsimp only); omega) dL_law_785 ?_
    rintro v1 h3 z1 ⟨rfl, rfl, rfl⟩
    refine g_iload dL_law_788 rfl ?_
    refine g_icmp_eq 795 dL_law_790 (by decide) (fun c_1 => ?_) (fun c_1 => ?_)
    · refine g_iload dL_law_795 rfl ?_
      refine g_if_ne 819 dL_law_797 (by decide) (fun c_2 => ?_) (fun c_2 => ?_)
      · refine g_goto 1739 dL_law_819 (by decide) ?_
        exact KK _ _ _ _ _ _ _ _ ⟨pl, n0, f, P, L, day, car, err, 1, g, hC2, hR2, hw2, by omega, by omega, hpl⟩ (by (try dsimp only); omega) (by (try dsimp only); omega)
      · exact absurd c_2 (by decide)
    · exact absurd rfl c_1
set_option maxRecDepth 100000 in
set_option maxHeartbeats 4000000 in
theorem lc_feed {X : gX} {F : gF} {K : gKo} {b Ls i o k n z : Nat} {xs : Nat → Int32} {h : gH} {x5 x6 x7 x8 : Option Value} (hK : gCo X K) (hTh : gTh X) (hT : gTb X .int b Ls (fun j => .int (xs j))) (hLs : Ls ≤ 3072) (hi : i + 6 ≤ Ls) (hk : k + 12 ≤ 601024) (hn : n + 1806 ≤ 7293034) (hI : LwI X K o h z) (KK : ∀ (h' : gH) (z' k' n' : Nat) (a5 a6 a7 a8 : Option Value), LwI X K o h' z' → k' ≤ k + 12 → n' ≤ n + 1806 → G X F cL_law 9 RL lwR k' n' 1739 [some (.ref b), some (.ref o), some (.ref (o + 162)), some (.ref (o + 187)), some (.int (nI i)), a5, a6, a7, a8] [] h' z') : G X F cL_law 9 RL lwR k n 204 [some (.ref b), some (.ref o), some (.ref (o + 162)), some (.ref (o + 187)), some (.int (nI i)), x5, x6, x7, x8] [] h z := by
  obtain ⟨pl, n0, f, P, L, day, car, err, t, g, hC, hR, hw, hz1, hz2, hpl⟩ := hI
  obtain ⟨fs, h0⟩ := hC.at
  obtain ⟨fr, hm⟩ := hR.at
  obtain ⟨hl40, hok, hn0⟩ := hC.len
  have h8 := hok.1.1
  by_cases hc : n0 ≤ 1980
  · refine g_aload_n dL_law_204 rfl ?_
    refine g_aload_n dL_law_205 rfl ?_
    refine g_iload dL_law_206 rfl ?_
    refine g_iconst (nI 1) dL_law_208 (by decide) ?_
    first | refine g_iaddN dL_law_209 ?_ | refine g_iadd dL_law_209 ?_
    refine g_tald (j := i + 1) hT (by omega) (by omega) dL_law_210 ?_
    refine g_aload_n dL_law_211 rfl ?_
    refine g_iload dL_law_212 rfl ?_
    refine g_iconst (nI 2) dL_law_214 (by decide) ?_
    first | refine g_iaddN dL_law_215 ?_ | refine g_iadd dL_law_215 ?_
    refine g_tald (j := i + 2) hT (by omega) (by omega) dL_law_216 ?_
    refine g_aload_n dL_law_217 rfl ?_
    refine g_iload dL_law_218 rfl ?_
    refine g_iconst (nI 3) dL_law_220 (by decide) ?_
    first | refine g_iaddN dL_law_221 ?_ | refine g_iadd dL_law_221 ?_
    refine g_tald (j := i + 3) hT (by omega) (by omega) dL_law_222 ?_
    refine g_aload_n dL_law_223 rfl ?_
    refine g_iload dL_law_224 rfl ?_
    refine g_iconst (nI 4) dL_law_226 (by decide) ?_
    first | refine g_iaddN dL_law_227 ?_ | refine g_iadd dL_law_227 ?_
    refine g_tald (j := i + 4) hT (by omega) (by omega) dL_law_228 ?_
    refine g_aload_n dL_law_229 rfl ?_
    refine g_iload dL_law_230 rfl ?_
    refine g_iconst (nI 5) dL_law_232 (by decide) ?_
    first | refine g_iaddN dL_law_233 ?_ | refine g_iadd dL_law_233 ?_
    refine g_tald (j := i + 5) hT (by omega) (by omega) dL_law_234 ?_
    refine g_aload_n dL_law_235 rfl ?_
    refine g_callSH kw_feed (wL_feed (xs (i + 1)) (xs (i + 2)) (xs (i + 3)) (xs (i + 4)) (xs (i + 5)) h0 hw (Or.inr (by omega)) (m10_feed (xs (i + 1)) (xs (i + 2)) (xs (i + 3)) (xs (i + 4)) (xs (i + 5)) hc hC)) rfl rfl (Nat.le_of_ble_eq_true rfl) (by decide) (by decide) (by (try dsimp only); omega) (by (try dsimp only); omega) dL_law_236 ?_
    rintro v1 h1 z1 ⟨rfl, rfl, h9, hC9, hO9, e1⟩
    have hR1 : RefS X h1 (o + 162) pl n0 f P L day car err t := hR.eqm (fun x _ _ => by rw [e1, gset_ne (by omega)]; exact hO9 x (by omega)) (fun x _ _ => by rw [e1, gset_ne (by omega)]; exact hO9 x (by omega))
    have hC1 := hC9.eqo (h' := h1) (fun x _ _ => by rw [e1, gset_ne (by omega)])
    have hw1 := (congrFun e1 (o + 187)).trans gset_same
    obtain ⟨fr1, hm1⟩ := hR1.at
    refine g_istore dL_law_239 (by decide) rfl ?_
    refine g_aload_n dL_law_241 rfl ?_
    refine g_aload_n dL_law_242 rfl ?_
    refine g_iload dL_law_243 rfl ?_
    refine g_iconst (nI 1) dL_law_245 (by decide) ?_
    first | refine g_iaddN dL_law_246 ?_ | refine g_iadd dL_law_246 ?_
    refine g_tald (j := i + 1) hT (by omega) (by omega) dL_law_247 ?_
    refine g_aload_n dL_law_248 rfl ?_
    refine g_iload dL_law_249 rfl ?_
    refine g_iconst (nI 2) dL_law_251 (by decide) ?_
    first | refine g_iaddN dL_law_252 ?_ | refine g_iadd dL_law_252 ?_
    refine g_tald (j := i + 2) hT (by omega) (by omega) dL_law_253 ?_
    refine g_aload_n dL_law_254 rfl ?_
    refine g_iload dL_law_255 rfl ?_
    refine g_iconst (nI 3) dL_law_257 (by decide) ?_
    first | refine g_iaddN dL_law_258 ?_ | refine g_iadd dL_law_258 ?_
    refine g_tald (j := i + 3) hT (by omega) (by omega) dL_law_259 ?_
    refine g_aload_n dL_law_260 rfl ?_
    refine g_iload dL_law_261 rfl ?_
    refine g_iconst (nI 4) dL_law_263 (by decide) ?_
    first | refine g_iaddN dL_law_264 ?_ | refine g_iadd dL_law_264 ?_
    refine g_tald (j := i + 4) hT (by omega) (by omega) dL_law_265 ?_
    refine g_aload_n dL_law_266 rfl ?_
    refine g_iload dL_law_267 rfl ?_
    refine g_iconst (nI 5) dL_law_269 (by decide) ?_
    first | refine g_iaddN dL_law_270 ?_ | refine g_iadd dL_law_270 ?_
    refine g_tald (j := i + 5) hT (by omega) (by omega) dL_law_271 ?_
    refine g_callV kL_94 (mR_feed (xs (i + 1)) (xs (i + 2)) (xs (i + 3)) (xs (i + 4)) (xs (i + 5)) (by omega) hz2 hR1) hm1 rfl rfl rfl (Nat.le_of_ble_eq_true rfl) (by decide) (by decide) (by (try dsimp only); omega) (by (try dsimp only); omega) dL_law_272 (fun _ _ _ q => q) ?_
    rintro v1 h2 z2 ⟨rfl, hz9, hR2, hO2⟩
    rw [if_pos hc]
    rw [if_pos hc] at hz9
    rw [if_pos hc, if_pos hc, if_pos hc] at hR2
    have hC2 := hC1.eqo (fun x _ _ => hO2 x (by omega) (by omega) (by omega) (by omega))
    have hw2 := (hO2 (o + 187) (by omega) (by omega) (by omega) (by omega)).trans hw1
    obtain ⟨fr2, hm2⟩ := hR2.at
    refine g_istore dL_law_275 (by decide) rfl ?_
    refine g_aload_n dL_law_277 rfl ?_
    refine g_callV0 kL_95 (mR_thrown hR2) hm2 rfl rfl rfl (Nat.le_of_ble_eq_true rfl) (by decide) (by decide) (by (try dsimp only); omega) (by (try dsimp only); omega) dL_law_278 ?_
    rintro v1 h3 z3 ⟨rfl, rfl, rfl⟩
    refine g_iload dL_law_281 rfl ?_
    refine g_icmp_eq 288 dL_law_283 (by decide) (fun c_1 => ?_) (fun c_1 => ?_)
    · refine g_iload dL_law_288 rfl ?_
      refine g_if_ne 305 dL_law_290 (by decide) (fun c_2 => ?_) (fun c_2 => ?_)
      · exact absurd rfl c_2
      · refine g_aload_n dL_law_293 rfl ?_
        refine g_iconst (nI 0) dL_law_294 (by decide) ?_
        refine g_laldN (j := 0) hw2 (by decide) (by decide) dL_law_295 ?_
        rw [vpL_same]
        refine g_iload dL_law_296 rfl ?_
        refine g_i2l dL_law_298 ?_
        refine g_lcmp dL_law_299 ?_
        rw [lcmp_self]
        refine g_if_eq 305 dL_law_300 (by decide) (fun c_3 => ?_) (fun c_3 => ?_)
        · refine g_goto 1739 dL_law_305 (by decide) ?_
          exact KK _ _ _ _ _ _ _ _ ⟨pl, _, _, P, L, day, car, err, 0, _, hC2, hR2, hw2, by omega, by omega, hpl⟩ (by (try dsimp only); omega) (by (try dsimp only); omega)
        · exact absurd rfl c_3
    · exact absurd rfl c_1
  · refine g_aload_n dL_law_204 rfl ?_
    refine g_aload_n dL_law_205 rfl ?_
    refine g_iload dL_law_206 rfl ?_
    refine g_iconst (nI 1) dL_law_208 (by decide) ?_
    first | refine g_iaddN dL_law_209 ?_ | refine g_iadd dL_law_209 ?_
    refine g_tald (j := i + 1) hT (by omega) (by omega) dL_law_210 ?_
    refine g_aload_n dL_law_211 rfl ?_
    refine g_iload dL_law_212 rfl ?_
    refine g_iconst (nI 2) dL_law_214 (by decide) ?_
    first | refine g_iaddN dL_law_215 ?_ | refine g_iadd dL_law_215 ?_
    refine g_tald (j := i + 2) hT (by omega) (by omega) dL_law_216 ?_
    refine g_aload_n dL_law_217 rfl ?_
    refine g_iload dL_law_218 rfl ?_
    refine g_iconst (nI 3) dL_law_220 (by decide) ?_
    first | refine g_iaddN dL_law_221 ?_ | refine g_iadd dL_law_221 ?_
    refine g_tald (j := i + 3) hT (by omega) (by omega) dL_law_222 ?_
    refine g_aload_n dL_law_223 rfl ?_
    refine g_iload dL_law_224 rfl ?_
    refine g_iconst (nI 4) dL_law_226 (by decide) ?_
    first | refine g_iaddN dL_law_227 ?_ | refine g_iadd dL_law_227 ?_
    refine g_tald (j := i + 4) hT (by omega) (by omega) dL_law_228 ?_
    refine g_aload_n dL_law_229 rfl ?_
    refine g_iload dL_law_230 rfl ?_
    refine g_iconst (nI 5) dL_law_232 (by decide) ?_
    first | refine g_iaddN dL_law_233 ?_ | refine g_iadd dL_law_233 ?_
    refine g_tald (j := i + 5) hT (by omega) (by omega) dL_law_234 ?_
    refine g_aload_n dL_law_235 rfl ?_
    refine g_callSH kw_feed (wX_feed (xs (i + 1)) (xs (i + 2)) (xs (i + 3)) (xs (i + 4)) (xs (i + 5)) h0 (m10_feedX (xs (i + 1)) (xs (i + 2)) (xs (i + 3)) (xs (i + 4)) (xs (i + 5)) hc hTh hC)) rfl rfl (Nat.le_of_ble_eq_true rfl) (by decide) (by decide) (by (try dsimp only); omega) (by (try dsimp only); omega) dL_law_236 ?_
    rintro v1 h1 z1 ⟨rfl, rfl, hz8⟩
    refine g_istore dL_law_239 (by decide) rfl ?_
    refine g_aload_n dL_law_241 rfl ?_
    refine g_aload_n dL_law_242 rfl ?_
    refine g_iload dL_law_243 rfl ?_
    refine g_iconst (nI 1) dL_law_245 (by decide) ?_
    first | refine g_iaddN dL_law_246 ?_ | refine g_iadd dL_law_246 ?_
    refine g_tald (j := i + 1) hT (by omega) (by omega) dL_law_247 ?_
    refine g_aload_n dL_law_248 rfl ?_
    refine g_iload dL_law_249 rfl ?_
    refine g_iconst (nI 2) dL_law_251 (by decide) ?_
    first | refine g_iaddN dL_law_252 ?_ | refine g_iadd dL_law_252 ?_
    refine g_tald (j := i + 2) hT (by omega) (by omega) dL_law_253 ?_
    refine g_aload_n dL_law_254 rfl ?_
    refine g_iload dL_law_255 rfl ?_
    refine g_iconst (nI 3) dL_law_257 (by decide) ?_
    first | refine g_iaddN dL_law_258 ?_ | refine g_iadd dL_law_258 ?_
    refine g_tald (j := i + 3) hT (by omega) (by omega) dL_law_259 ?_
    refine g_aload_n dL_law_260 rfl ?_
    refine g_iload dL_law_261 rfl ?_
    refine g_iconst (nI 4) dL_law_263 (by decide) ?_
    first | refine g_iaddN dL_law_264 ?_ | refine g_iadd dL_law_264 ?_
    refine g_tald (j := i + 4) hT (by omega) (by omega) dL_law_265 ?_
    refine g_aload_n dL_law_266 rfl ?_
    refine g_iload dL_law_267 rfl ?_
    refine g_iconst (nI 5) dL_law_269 (by decide) ?_
    first | refine g_iaddN dL_law_270 ?_ | refine g_iadd dL_law_270 ?_
    refine g_tald (j := i + 5) hT (by omega) (by omega) dL_law_271 ?_
    refine g_callV kL_94 (mR_feed (xs (i + 1)) (xs (i + 2)) (xs (i + 3)) (xs (i + 4)) (xs (i + 5)) (by omega) (by omega) hR) hm rfl rfl rfl (Nat.le_of_ble_eq_true rfl) (by decide) (by decide) (by (try dsimp only); omega) (by (try dsimp only); omega) dL_law_272 (fun _ _ _ q => q) ?_
    rintro v1 h2 z2 ⟨rfl, hz9, hR2, hO2⟩
    rw [if_neg hc]
    rw [if_neg hc] at hz9
    rw [if_neg hc, if_neg hc, if_neg hc] at hR2
    have hC2 := hC.eqo (fun x _ _ => hO2 x (by omega) (by omega) (by omega) (by omega))
    have hw2 := (hO2 (o + 187) (by omega) (by omega) (by omega) (by omega)).trans hw
    obtain ⟨fr2, hm2⟩ := hR2.at
    refine g_istore dL_law_275 (by decide) rfl ?_
    refine g_aload_n dL_law_277 rfl ?_
    refine g_callV0 kL_95 (mR_thrown hR2) hm2 rfl rfl rfl (Nat.le_of_ble_eq_true rfl) (by decide) (by decide) (by (try dsimp only); omega) (by (try dsimp only); omega) dL_law_278 ?_
    rintro v1 h3 z3 ⟨rfl, rfl, rfl⟩
    refine g_iload dL_law_281 rfl ?_
    refine g_icmp_eq 288 dL_law_283 (by decide) (fun c_1 => ?_) (fun c_1 => ?_)
    · refine g_iload dL_law_288 rfl ?_
      refine g_if_ne 305 dL_law_290 (by decide) (fun c_2 => ?_) (fun c_2 => ?_)
      · refine g_goto 1739 dL_law_305 (by decide) ?_
        exact KK _ _ _ _ _ _ _ _ ⟨pl, n0, f, P, L, day, car, err, 1, g, hC2, hR2, hw2, by omega, by omega, hpl⟩ (by (try dsimp only); omega) (by (try dsimp only); omega)
      · exact absurd c_2 (by decide)
    · exact absurd rfl c_1
