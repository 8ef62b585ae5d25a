/-! the law: its switch, case by case: c -/
set_option maxRecDepth 100000 in
set_option maxHeartbeats 4000000 in
theorem lc_kindsOf {X : gX} {F : gF} {K : gKo} {b Ls i o k n z : Nat} {xs : Nat → Int32} {h : gH} {x5 x6 x7 x8 : Option Value} (hK : gCo X K) (hTh : gTh X) (hT : gTb X .int b Ls (fun j => .int (xs j))) (hLs : Ls ≤ 3072) (hi : i + 6 ≤ Ls) (hk : k + 12 ≤ 601024) (hn : n + 1806 ≤ 7293034) (hI : LwI X K o h z) (KK : ∀ (h' : gH) (z' k' n' : Nat) (a5 a6 a7 a8 : Option Value), LwI X K o h' z' → k' ≤ k + 12 → n' ≤ n + 1806 → G X F cL_law 9 RL lwR k' n' 1739 [some (.ref b), some (.ref o), some (.ref (o + 162)), some (.ref (o + 187)), some (.int (nI i)), a5, a6, a7, a8] [] h' z') : G X F cL_law 9 RL lwR k n 861 [some (.ref b), some (.ref o), some (.ref (o + 162)), some (.ref (o + 187)), some (.int (nI i)), x5, x6, x7, x8] [] h z := by
  obtain ⟨pl, n0, f, P, L, day, car, err, t, g, hC, hR, hw, hz1, hz2, hpl⟩ := hI
  obtain ⟨fs, h0⟩ := hC.at
  obtain ⟨fr, hm⟩ := hR.at
  obtain ⟨hl40, hok, hn0⟩ := hC.len
  have h8 := hok.1.1
  obtain ⟨p, hp⟩ : ∃ p, xs (i + 1) = p := ⟨_, rfl⟩
  by_cases hc : nI 1 ≤ p ∧ p ≤ nI 40
  · obtain ⟨g1, g2, hx⟩ := i32_nat (by decide) hc.1 hc.2 (by decide)
    generalize hkk : p.toNatClampNeg = k0 at g1 g2 hx
    subst hx
    have hc2 := hc
    refine g_aload_n dL_law_861 rfl ?_
    refine g_aload_n dL_law_862 rfl ?_
    refine g_iload dL_law_863 rfl ?_
    refine g_iconst (nI 1) dL_law_865 (by decide) ?_
    first | refine g_iaddN dL_law_866 ?_ | refine g_iadd dL_law_866 ?_
    refine g_tald (j := i + 1) hT (by omega) (by omega) dL_law_867 ?_
    rw [hp]
    refine g_aload_n dL_law_868 rfl ?_
    refine g_callSH kw_kindsOf (wL_kindsOf (nI k0) h0 hw (Or.inr (by omega)) (m10_kindsOf k0 g1 g2 hC)) rfl rfl (Nat.le_of_ble_eq_true rfl) (by decide) (by decide) (by (try dsimp only); omega) (by (try dsimp only); omega) dL_law_869 ?_
    rintro v1 h1 z1 ⟨rfl, rfl, h9, hC9, hO9, e1⟩
    have hR1 : RefS X h1 (o + 162) pl n0 f P L day car err t := hR.eqm (fun x _ _ => by rw [e1, gset_ne (by omega)]; exact hO9 x (by omega)) (fun x _ _ => by rw [e1, gset_ne (by omega)]; exact hO9 x (by omega))
    have hC1 := hC9.eqo (h' := h1) (fun x _ _ => by rw [e1, gset_ne (by omega)])
    have hw1 := (congrFun e1 (o + 187)).trans gset_same
    obtain ⟨fr1, hm1⟩ := hR1.at
    have hM := fun z0 => mR_kindsOf (z := z0) (nI k0) hR1
    rw [hkk] at hM
    refine g_istore dL_law_872 (by decide) rfl ?_
    refine g_aload_n dL_law_874 rfl ?_
    refine g_aload_n dL_law_875 rfl ?_
    refine g_iload dL_law_876 rfl ?_
    refine g_iconst (nI 1) dL_law_878 (by decide) ?_
    first | refine g_iaddN dL_law_879 ?_ | refine g_iadd dL_law_879 ?_
    refine g_tald (j := i + 1) hT (by omega) (by omega) dL_law_880 ?_
    rw [hp]
    refine g_callV0 kL_164 (hM _) hm1 rfl rfl rfl (Nat.le_of_ble_eq_true rfl) (by decide) (by decide) (by (try dsimp only); omega) (by (try dsimp only); omega) dL_law_881 ?_
    rintro v1 h2 z1 ⟨rfl, rfl, hR2, hO2⟩
    rw [if_pos hc2]
    rw [if_pos hc2] at hR2
    have hC2 := hC1.eqo (fun x _ _ => hO2 x (by omega) (by omega) (by omega))
    have hw2 := (hO2 (o + 187) (by omega) (by omega) (by omega)).trans hw1
    obtain ⟨fr2, hm2⟩ := hR2.at
    refine g_istore dL_law_884 (by decide) rfl ?_
    refine g_aload_n dL_law_886 rfl ?_
    refine g_callV0 kL_95 (mR_thrown hR2) hm2 rfl rfl rfl (Nat.le_of_ble_eq_true rfl) (by decide) (by decide) (by (try dsimp only); omega) (by (try dsimp only); omega) dL_law_887 ?_
    rintro v1 h3 z1 ⟨rfl, rfl, rfl⟩
    refine g_iload dL_law_890 rfl ?_
    refine g_icmp_eq 897 dL_law_892 (by decide) (fun c_1 => ?_) (fun c_1 => ?_)
    · refine g_iload dL_law_897 rfl ?_
      refine g_if_ne 914 dL_law_899 (by decide) (fun c_2 => ?_) (fun c_2 => ?_)
      · exact absurd rfl c_2
      · refine g_aload_n dL_law_902 rfl ?_
        refine g_iconst (nI 0) dL_law_903 (by decide) ?_
        refine g_laldN (j := 0) hw2 (by decide) (by decide) dL_law_904 ?_
        rw [vpL_same]
        refine g_iload dL_law_905 rfl ?_
        refine g_i2l dL_law_907 ?_
        refine g_lcmp dL_law_908 ?_
        rw [lcmp_self]
        refine g_if_eq 914 dL_law_909 (by decide) (fun c_3 => ?_) (fun c_3 => ?_)
        · refine g_goto 1739 dL_law_914 (by decide) ?_
          exact KK _ _ _ _ _ _ _ _ ⟨pl, n0, f, P, L, day, car, err, 0, _, hC2, hR2, hw2, by omega, by omega, hpl⟩ (by (try dsimp only); omega) (by (try dsimp only); omega)
        · exact absurd rfl c_3
    · exact absurd rfl c_1
  · refine g_aload_n dL_law_861 rfl ?_
    refine g_aload_n dL_law_862 rfl ?_
    refine g_iload dL_law_863 rfl ?_
    refine g_iconst (nI 1) dL_law_865 (by decide) ?_
    first | refine g_iaddN dL_law_866 ?_ | refine g_iadd dL_law_866 ?_
    refine g_tald (j := i + 1) hT (by omega) (by omega) dL_law_867 ?_
    rw [hp]
    refine g_aload_n dL_law_868 rfl ?_
    refine g_callSH kw_kindsOf (wX_kindsOf p h0 (m10_kindsOfX p hc hTh hC)) rfl rfl (Nat.le_of_ble_eq_true rfl) (by decide) (by decide) (by (try dsimp only); omega) (by (try dsimp only); omega) dL_law_869 ?_
    rintro v1 h1 z1 ⟨rfl, rfl, hz9⟩
    have hM := fun z0 => mR_kindsOf (z := z0) p hR
    refine g_istore dL_law_872 (by decide) rfl ?_
    refine g_aload_n dL_law_874 rfl ?_
    refine g_aload_n dL_law_875 rfl ?_
    refine g_iload dL_law_876 rfl ?_
    refine g_iconst (nI 1) dL_law_878 (by decide) ?_
    first | refine g_iaddN dL_law_879 ?_ | refine g_iadd dL_law_879 ?_
    refine g_tald (j := i + 1) hT (by omega) (by omega) dL_law_880 ?_
    rw [hp]
    refine g_callV0 kL_164 (hM _) hm rfl rfl rfl (Nat.le_of_ble_eq_true rfl) (by decide) (by decide) (by (try dsimp only); omega) (by (try dsimp only); omega) dL_law_881 ?_
    rintro v1 h2 z1 ⟨rfl, rfl, hR2, hO2⟩
    rw [if_neg hc]
    rw [if_neg hc] at hR2
    have hC2 := hC.eqo (fun x _ _ => hO2 x (by omega) (by omega) (by omega))
    have hw2 := (hO2 (o + 187) (by omega) (by omega) (by omega)).trans hw
    obtain ⟨fr2, hm2⟩ := hR2.at
    refine g_istore dL_law_884 (by decide) rfl ?_
    refine g_aload_n dL_law_886 rfl ?_
    refine g_callV0 kL_95 (mR_thrown hR2) hm2 rfl rfl rfl (Nat.le_of_ble_eq_true rfl) (by decide) (by decide) (by (try dsimp only); omega) (by (try dsimp only); omega) dL_law_887 ?_
    rintro v1 h3 z1 ⟨rfl, rfl, rfl⟩
    refine g_iload dL_law_890 rfl ?_
    refine g_icmp_eq 897 dL_law_892 (by decide) (fun c_1 => ?_) (fun c_1 => ?_)
    · refine g_iload dL_law_897 rfl ?_
      refine g_if_ne 914 dL_law_899 (by decide) (fun c_2 => ?_) (fun c_2 => ?_)
      · refine g_goto 1739 dL_law_914 (by decide) ?_
        exact KK _ _ _ _ _ _ _ _ ⟨pl, n0, f, P, L, day, car, err, 1, g, hC2, hR2, hw2, by omega, by omega, hpl⟩ (by (try dsimp only); omega) (by (try dsimp only); omega)
      · exact absurd c_2 (by decide)
    · exact absurd rfl c_1
set_option maxRecDepth 100000 in
set_option maxHeartbeats 4000000 in
theorem lc_repeatedOf {X : gX} {F : gF} {K : gKo} {b Ls i o k n z : Nat} {xs : Nat → Int32} {h : gH} {x5 x6 x7 x8 : Option Value} (hK : gCo X K) (hTh : gTh X) (hT : gTb X .int b Ls (fun j => .int (xs j))) (hLs : Ls ≤ 3072) (hi : i + 6 ≤ Ls) (hk : k + 12 ≤ 601024) (hn : n + 1806 ≤ 7293034) (hI : LwI X K o h z) (KK : ∀ (h' : gH) (z' k' n' : Nat) (a5 a6 a7 a8 : Option Value), LwI X K o h' z' → k' ≤ k + 12 → n' ≤ n + 1806 → G X F cL_law 9 RL lwR k' n' 1739 [some (.ref b), some (.ref o), some (.ref (o + 162)), some (.ref (o + 187)), some (.int (nI i)), a5, a6, a7, a8] [] h' z') : G X F cL_law 9 RL lwR k n 917 [some (.ref b), some (.ref o), some (.ref (o + 162)), some (.ref (o + 187)), some (.int (nI i)), x5, x6, x7, x8] [] h z := by
  obtain ⟨pl, n0, f, P, L, day, car, err, t, g, hC, hR, hw, hz1, hz2, hpl⟩ := hI
  obtain ⟨fs, h0⟩ := hC.at
  obtain ⟨fr, hm⟩ := hR.at
  obtain ⟨hl40, hok, hn0⟩ := hC.len
  have h8 := hok.1.1
  obtain ⟨p, hp⟩ : ∃ p, xs (i + 1) = p := ⟨_, rfl⟩
  by_cases hc : nI 1 ≤ p ∧ p ≤ nI 40
  · obtain ⟨g1, g2, hx⟩ := i32_nat (by decide) hc.1 hc.2 (by decide)
    generalize hkk : p.toNatClampNeg = k0 at g1 g2 hx
    subst hx
    have hc2 := hc
    refine g_aload_n dL_law_917 rfl ?_
    refine g_aload_n dL_law_918 rfl ?_
    refine g_iload dL_law_919 rfl ?_
    refine g_iconst (nI 1) dL_law_921 (by decide) ?_
    first | refine g_iaddN dL_law_922 ?_ | refine g_iadd dL_law_922 ?_
    refine g_tald (j := i + 1) hT (by omega) (by omega) dL_law_923 ?_
    rw [hp]
    refine g_aload_n dL_law_924 rfl ?_
    refine g_callSH kw_repeatedOf (wL_repeatedOf (nI k0) h0 hw (Or.inr (by omega)) (m10_repeatedOf k0 g1 g2 hC)) rfl rfl (Nat.le_of_ble_eq_true rfl) (by decide) (by decide) (by (try dsimp only); omega) (by (try dsimp only); omega) dL_law_925 ?_
    rintro v1 h1 z1 ⟨rfl, rfl, h9, hC9, hO9, e1⟩
    have hR1 : RefS X h1 (o + 162) pl n0 f P L day car err t := hR.eqm (fun x _ _ => by rw [e1, gset_ne (by omega)]; exact hO9 x (by omega)) (fun x _ _ => by rw [e1, gset_ne (by omega)]; exact hO9 x (by omega))
    have hC1 := hC9.eqo (h' := h1) (fun x _ _ => by rw [e1, gset_ne (by omega)])
    have hw1 := (congrFun e1 (o + 187)).trans gset_same
    obtain ⟨fr1, hm1⟩ := hR1.at
    have hM := fun z0 => mR_repeatedOf (z := z0) (nI k0) hR1
    rw [hkk] at hM
    refine g_istore dL_law_928 (by decide) rfl ?_
    refine g_aload_n dL_law_930 rfl ?_
    refine g_aload_n dL_law_931 rfl ?_
    refine g_iload dL_law_932 rfl ?_
    refine g_iconst (nI 1) dL_law_934 (by decide) ?_
    first | refine g_iaddN dL_law_935 ?_ | refine g_iadd dL_law_935 ?_
    refine g_tald (j := i + 1) hT (by omega) (by omega) dL_law_936 ?_
    rw [hp]
    refine g_callV0 kL_167 (hM _) hm1 rfl rfl rfl (Nat.le_of_ble_eq_true rfl) (by decide) (by decide) (by (try dsimp only); omega) (by (try dsimp only); omega) dL_law_937 ?_
    rintro v1 h2 z1 ⟨rfl, rfl, hR2, hO2⟩
    rw [if_pos hc2]
    rw [if_pos hc2] at hR2
    have hC2 := hC1.eqo (fun x _ _ => hO2 x (by omega) (by omega) (by omega))
    have hw2 := (hO2 (o + 187) (by omega) (by omega) (by omega)).trans hw1
    obtain ⟨fr2, hm2⟩ := hR2.at
    refine g_istore dL_law_940 (by decide) rfl ?_
    refine g_aload_n dL_law_942 rfl ?_
    refine g_callV0 kL_95 (mR_thrown hR2) hm2 rfl rfl rfl (Nat.le_of_ble_eq_true rfl) (by decide) (by decide) (by (try dsimp only); omega) (by (try dsimp only); omega) dL_law_943 ?_
    rintro v1 h3 z1 ⟨rfl, rfl, rfl⟩
    refine g_iload dL_law_946 rfl ?_
    refine g_icmp_eq 953 dL_law_948 (by decide) (fun c_1 => ?_) (fun c_1 => ?_)
    · refine g_iload dL_law_953 rfl ?_
      refine g_if_ne 970 dL_law_955 (by decide) (fun c_2 => ?_) (fun c_2 => ?_)
      · exact absurd rfl c_2
      · refine g_aload_n dL_law_958 rfl ?_
        refine g_iconst (nI 0) dL_law_959 (by decide) ?_
        refine g_laldN (j := 0) hw2 (by decide) (by decide) dL_law_960 ?_
        rw [vpL_same]
        refine g_iload dL_law_961 rfl ?_
        refine g_i2l dL_law_963 ?_
        refine g_lcmp dL_law_964 ?_
        rw [lcmp_self]
        refine g_if_eq 970 dL_law_965 (by decide) (fun c_3 => ?_) (fun c_3 => ?_)
        · refine g_goto 1739 dL_law_970 (by decide) ?_
          exact KK _ _ _ _ _ _ _ _ ⟨pl, n0, f, P, L, day, car, err, 0, _, hC2, hR2, hw2, by omega, by omega, hpl⟩ (by (try dsimp only); omega) (by (try dsimp only); omega)
        · exact absurd rfl c_3
    · exact absurd rfl c_1
  · refine g_aload_n dL_law_917 rfl ?_
    refine g_aload_n dL_law_918 rfl ?_
    refine g_iload dL_law_919 rfl ?_
    refine g_iconst (nI 1) dL_law_921 (by decide) ?_
    first | refine g_iaddN dL_law_922 ?_ | refine g_iadd dL_law_922 ?_
    refine g_tald (j := i + 1) hT (by omega) (by omega) dL_law_923 ?_
    rw [hp]
    refine g_aload_n dL_law_924 rfl ?_
    refine g_callSH kw_repeatedOf (wX_repeatedOf p h0 (m10_repeatedOfX p hc hTh hC)) rfl rfl (Nat.le_of_ble_eq_true rfl) (by decide) (by decide) (by (try dsimp only); omega) (by (try dsimp only); omega) dL_law_925 ?_
    rintro v1 h1 z1 ⟨rfl, rfl, hz9⟩
    have hM := fun z0 => mR_repeatedOf (z := z0) p hR
    refine g_istore dL_law_928 (by decide) rfl ?_
    refine g_aload_n dL_law_930 rfl ?_
    refine g_aload_n dL_law_931 rfl ?_
    refine g_iload dL_law_932 rfl ?_
    refine g_iconst (nI 1) dL_law_934 (by decide) ?_
    first | refine g_iaddN dL_law_935 ?_ | refine g_iadd dL_law_935 ?_
    refine g_tald (j := i + 1) hT (by omega) (by omega) dL_law_936 ?_
    rw [hp]
    refine g_callV0 kL_167 (hM _) hm rfl rfl rfl (Nat.le_of_ble_eq_true rfl) (by decide) (by decide) (by (try dsimp only); omega) (by (try dsimp only); omega) dL_law_937 ?_
    rintro v1 h2 z1 ⟨rfl, rfl, hR2, hO2⟩
    rw [if_neg hc]
    rw [if_neg hc] at hR2
    have hC2 := hC.eqo (fun x _ _ => hO2 x (by omega) (by omega) (by omega))
    have hw2 := (hO2 (o + 187) (by omega) (by omega) (by omega)).trans hw
    obtain ⟨fr2, hm2⟩ := hR2.at
    refine g_istore dL_law_940 (by decide) rfl ?_
    refine g_aload_n dL_law_942 rfl ?_
    refine g_callV0 kL_95 (mR_thrown hR2) hm2 rfl rfl rfl (Nat.le_of_ble_eq_true rfl) (by decide) (by decide) (by (try dsimp only); omega) (by (try dsimp only); omega) dL_law_943 ?_
    rintro v1 h3 z1 ⟨rfl, rfl, rfl⟩
    refine g_iload dL_law_946 rfl ?_
    refine g_icmp_eq 953 dL_law_948 (by decide) (fun c_1 => ?_) (fun c_1 => ?_)
    · refine g_iload dL_law_953 rfl ?_
      refine g_if_ne 970 dL_law_955 (by decide) (fun c_2 => ?_) (fun c_2 => ?_)
      · refine g_goto 1739 dL_law_970 (by decide) ?_
        exact KK _ _ _ _ _ _ _ _ ⟨pl, n0, f, P, L, day, car, err, 1, g, hC2, hR2, hw2, by omega, by omega, hpl⟩ (by (try dsimp only); omega) (by (try dsimp only); omega)
      · exact absurd c_2 (by decide)
    · exact absurd rfl c_1
set_option maxRecDepth 100000 in
set_option maxHeartbeats 4000000 in
theorem lc_repeatAfter {X : gX} {F : gF} {K : gKo} {b Ls i o k n z : Nat} {xs : Nat → Int32} {h : gH} {x5 x6 x7 x8 : Option Value} (hK : gCo X K) (hTh : gTh X) (hT : gTb X .int b Ls (fun j => .int (xs j))) (hLs : Ls ≤ 3072) (hi : i + 6 ≤ Ls) (hk : k + 12 ≤ 601024) (hn : n + 1806 ≤ 7293034) (hI : LwI X K o h z) (KK : ∀ (h' : gH) (z' k' n' : Nat) (a5 a6 a7 a8 : Option Value), LwI X K o h' z' → k' ≤ k + 12 → n' ≤ n + 1806 → G X F cL_law 9 RL lwR k' n' 1739 [some (.ref b), some (.ref o), some (.ref (o + 162)), some (.ref (o + 187)), some (.int (nI i)), a5, a6, a7, a8] [] h' z') : G X F cL_law 9 RL lwR k n 1559 [some (.ref b), some (.ref o), some (.ref (o + 162)), some (.ref (o + 187)), some (.int (nI i)), x5, x6, x7, x8] [] h z := by
  obtain ⟨pl, n0, f, P, L, day, car, err, t, g, hC, hR, hw, hz1, hz2, hpl⟩ := hI
  obtain ⟨fs, h0⟩ := hC.at
  obtain ⟨fr, hm⟩ := hR.at
  obtain ⟨hl40, hok, hn0⟩ := hC.len
  have h8 := hok.1.1
  obtain ⟨p, hp⟩ : ∃ p, xs (i + 1) = p := ⟨_, rfl⟩
  by_cases hc : nI 1 ≤ p ∧ p ≤ nI 30
  · obtain ⟨g1, g2, hx⟩ := i32_nat (by decide) hc.1 hc.2 (by decide)
    generalize hkk : p.toNatClampNeg = k0 at g1 g2 hx
    subst hx
    have hc2 := hc
    refine g_aload_n dL_law_1559 rfl ?_
    refine g_aload_n dL_law_1560 rfl ?_
    refine g_iload dL_law_1561 rfl ?_
    refine g_iconst (nI 1) dL_law_1563 (by decide) ?_
    first | refine g_iaddN dL_law_1564 ?_ | refine g_iadd dL_law_1564 ?_
    refine g_tald (j := i + 1) hT (by omega) (by omega) dL_law_1565 ?_
    rw [hp]
    refine g_aload_n dL_law_1566 rfl ?_
    refine g_callSH kw_repeatAfter (wL_repeatAfter (nI k0) h0 hw (Or.inr (by omega)) (m10_repeatAfter hK k0 g1 g2 hC)) rfl rfl (Nat.le_of_ble_eq_true rfl) (by decide) (by decide) (by (try dsimp only); omega) (by (try dsimp only); omega) dL_law_1567 ?_
    rintro v1 h1 z1 ⟨rfl, rfl, h9, hC9, hO9, e1⟩
    have hR1 : RefS X h1 (o + 162) pl n0 f P L day car err t := hR.eqm (fun x _ _ => by rw [e1, gset_ne (by omega)]; exact hO9 x (by omega)) (fun x _ _ => by rw [e1, gset_ne (by omega)]; exact hO9 x (by omega))
    have hC1 := hC9.eqo (h' := h1) (fun x _ _ => by rw [e1, gset_ne (by omega)])
    have hw1 := (congrFun e1 (o + 187)).trans gset_same
    obtain ⟨fr1, hm1⟩ := hR1.at
    have hM := fun z0 => mR_repeatAfter (z := z0) (nI k0) hR1
    rw [hkk] at hM
    refine g_istore dL_law_1570 (by decide) rfl ?_
    refine g_aload_n dL_law_1572 rfl ?_
    refine g_aload_n dL_law_1573 rfl ?_
    refine g_iload dL_law_1574 rfl ?_
    refine g_iconst (nI 1) dL_law_1576 (by decide) ?_
    first | refine g_iaddN dL_law_1577 ?_ | refine g_iadd dL_law_1577 ?_
    refine g_tald (j := i + 1) hT (by omega) (by omega) dL_law_1578 ?_
    rw [hp]
    refine g_callV0 kL_208 (hM _) hm1 rfl rfl rfl (Nat.le_of_ble_eq_true rfl) (by decide) (by decide) (by (try dsimp only); omega) (by (try dsimp only); omega) dL_law_1579 ?_
    rintro v1 h2 z1 ⟨rfl, rfl, hR2, hO2⟩
    rw [if_pos hc2]
    rw [if_pos hc2] at hR2
    have hC2 := hC1.eqo (fun x _ _ => hO2 x (by omega) (by omega) (by omega))
    have hw2 := (hO2 (o + 187) (by omega) (by omega) (by omega)).trans hw1
    obtain ⟨fr2, hm2⟩ := hR2.at
    refine g_istore dL_law_1582 (by decide) rfl ?_
    refine g_aload_n dL_law_1584 rfl ?_
    refine g_callV0 kL_95 (mR_thrown hR2) hm2 rfl rfl rfl (Nat.le_of_ble_eq_true rfl) (by decide) (by decide) (by (try dsimp only); omega) (by (try dsimp only); omega) dL_law_1585 ?_
    rintro v1 h3 z1 ⟨rfl, rfl, rfl⟩
    refine g_iload dL_law_1588 rfl ?_
    refine g_icmp_eq 1595 dL_law_1590 (by decide) (fun c_1 => ?_) (fun c_1 => ?_)
    · refine g_iload dL_law_1595 rfl ?_
      refine g_if_ne 1612 dL_law_1597 (by decide) (fun c_2 => ?_) (fun c_2 => ?_)
      · exact absurd rfl c_2
      · refine g_aload_n dL_law_1600 rfl ?_
        refine g_iconst (nI 0) dL_law_1601 (by decide) ?_
        refine g_laldN (j := 0) hw2 (by decide) (by decide) dL_law_1602 ?_
        rw [vpL_same]
        refine g_iload dL_law_1603 rfl ?_
        refine g_i2l dL_law_1605 ?_
        refine g_lcmp dL_law_1606 ?_
        rw [lcmp_self]
        refine g_if_eq 1612 dL_law_1607 (by decide) (fun c_3 => ?_) (fun c_3 => ?_)
        · refine g_goto 1739 dL_law_1612 (by decide) ?_
          exact KK _ _ _ _ _ _ _ _ ⟨pl, n0, f, P, L, day, car, err, 0, _, hC2, hR2, hw2, by omega, by omega, hpl⟩ (by (try dsimp only); omega) (by (try dsimp only); omega)
        · exact absurd rfl c_3
    · exact absurd rfl c_1
  · refine g_aload_n dL_law_1559 rfl ?_
    refine g_aload_n dL_law_1560 rfl ?_
    refine g_iload dL_law_1561 rfl ?_
    refine g_iconst (nI 1) dL_law_1563 (by decide) ?_
    first | refine g_iaddN dL_law_1564 ?_ | refine g_iadd dL_law_1564 ?_
    refine g_tald (j := i + 1) hT (by omega) (by omega) dL_law_1565 ?_
    rw [hp]
    refine g_aload_n dL_law_1566 rfl ?_
    refine g_callSH kw_repeatAfter (wX_repeatAfter p h0 (m10_repeatAfterX p hc hTh hC)) rfl rfl (Nat.le_of_ble_eq_true rfl) (by decide) (by decide) (by (try dsimp only); omega) (by (try dsimp only); omega) dL_law_1567 ?_
    rintro v1 h1 z1 ⟨rfl, rfl, hz9⟩
    have hM := fun z0 => mR_repeatAfter (z := z0) p hR
    refine g_istore dL_law_1570 (by decide) rfl ?_
    refine g_aload_n dL_law_1572 rfl ?_
    refine g_aload_n dL_law_1573 rfl ?_
    refine g_iload dL_law_1574 rfl ?_
    refine g_iconst (nI 1) dL_law_1576 (by decide) ?_
    first | refine g_iaddN dL_law_1577 ?_ | refine g_iadd dL_law_1577 ?_
    refine g_tald (j := i + 1) hT (by omega) (by omega) dL_law_1578 ?_
    rw [hp]
    refine g_callV0 kL_208 (hM _) hm rfl rfl rfl (Nat.le_of_ble_eq_true rfl) (by decide) (by decide) (by (try dsimp only); omega) (by (try dsimp only); omega) dL_law_1579 ?_
    rintro v1 h2 z1 ⟨rfl, rfl, hR2, hO2⟩
    rw [if_neg hc]
    rw [if_neg hc] at hR2
    have hC2 := hC.eqo (fun x _ _ => hO2 x (by omega) (by omega) (by omega))
    have hw2 := (hO2 (o + 187) (by omega) (by omega) (by omega)).trans hw
    obtain ⟨fr2, hm2⟩ := hR2.at
    refine g_istore dL_law_1582 (by decide) rfl ?_
    refine g_aload_n dL_law_1584 rfl ?_
    refine g_callV0 kL_95 (mR_thrown hR2) hm2 rfl rfl rfl (Nat.le_of_ble_eq_true rfl) (by decide) (by decide) (by (try dsimp only); omega) (by (try dsimp only); omega) dL_law_1585 ?_
    rintro v1 h3 z1 ⟨rfl, rfl, rfl⟩
    refine g_iload dL_law_1588 rfl ?_
    refine g_icmp_eq 1595 dL_law_1590 (by decide) (fun c_1 => ?_) (fun c_1 => ?_)
    · refine g_iload dL_law_1595 rfl ?_
      refine g_if_ne 1612 dL_law_1597 (by decide) (fun c_2 => ?_) (fun c_2 => ?_)
      · refine g_goto 1739 dL_law_1612 (by decide) ?_
        exact KK _ _ _ _ _ _ _ _ ⟨pl, n0, f, P, L, day, car, err, 1, g, hC2, hR2, hw2, by omega, by omega, hpl⟩ (by (try dsimp only); omega) (by (try dsimp only); omega)
      · exact absurd c_2 (by decide)
    · exact absurd rfl c_1
set_option maxRecDepth 100000 in
set_option maxHeartbeats 4000000 in
theorem lc_daysUntilKnown {X : gX} {F : gF} {K : gKo} {b Ls i o k n z : Nat} {xs : Nat → Int32} {h : gH} {x5 x6 x7 x8 : Option Value} (hK : gCo X K) (hTh : gTh X) (hT : gTb X .int b Ls (fun j => .int (xs j))) (hLs : Ls ≤ 3072) (hi : i + 6 ≤ Ls) (hk : k + 12 ≤ 601024) (hn : n + 1806 ≤ 7293034) (hI : LwI X K o h z) (KK : ∀ (h' : gH) (z' k' n' : Nat) (a5 a6 a7 a8 : Option Value), LwI X K o h' z' → k' ≤ k + 12 → n' ≤ n + 1806 → G X F cL_law 9 RL lwR k' n' 1739 [some (.ref b), some (.ref o), some (.ref (o + 162)), some (.ref (o + 187)), some (.int (nI i)), a5, a6, a7, a8] [] h' z') : G X F cL_law 9 RL lwR k n 1615 [some (.ref b), some (.ref o), some (.ref (o + 162)), some (.ref (o + 187)), some (.int (nI i)), x5, x6, x7, x8] [] h z := by
  obtain ⟨pl, n0, f, P, L, day, car, err, t, g, hC, hR, hw, hz1, hz2, hpl⟩ := hI
  obtain ⟨fs, h0⟩ := hC.at
  obtain ⟨fr, hm⟩ := hR.at
  obtain ⟨hl40, hok, hn0⟩ := hC.len
  have h8 := hok.1.1
  obtain ⟨p, hp⟩ : ∃ p, xs (i + 1) = p := ⟨_, rfl⟩
  by_cases hc : p.toNatClampNeg < P.1.1 ∧ p = nI p.toNatClampNeg
  · have hx := hc.2
    have hk0 := hc.1
    generalize hkk : p.toNatClampNeg = k0 at hk0 hx
    subst hx
    have hc2 : k0 < P.1.1 ∧ nI k0 = nI k0 := ⟨hk0, rfl⟩
    refine g_aload_n dL_law_1615 rfl ?_
    refine g_aload_n dL_law_1616 rfl ?_
    refine g_iload dL_law_1617 rfl ?_
    refine g_iconst (nI 1) dL_law_1619 (by decide) ?_
    first | refine g_iaddN dL_law_1620 ?_ | refine g_iadd dL_law_1620 ?_
    refine g_tald (j := i + 1) hT (by omega) (by omega) dL_law_1621 ?_
    rw [hp]
    refine g_aload_n dL_law_1622 rfl ?_
    refine g_callSH kw_daysUntilKnown (wL_daysUntilKnown (nI k0) h0 hw (Or.inr (by omega)) (m10_daysUntilKnown hK k0 hk0 hC)) rfl rfl (Nat.le_of_ble_eq_true rfl) (by decide) (by decide) (by (try dsimp only); omega) (by (try dsimp only); omega) dL_law_1623 ?_
    rintro v1 h1 z1 ⟨rfl, rfl, h9, hC9, hO9, e1⟩
    have hR1 : RefS X h1 (o + 162) pl n0 f P L day car err t := hR.eqm (fun x _ _ => by rw [e1, gset_ne (by omega)]; exact hO9 x (by omega)) (fun x _ _ => by rw [e1, gset_ne (by omega)]; exact hO9 x (by omega))
    have hC1 := hC9.eqo (h' := h1) (fun x _ _ => by rw [e1, gset_ne (by omega)])
    have hw1 := (congrFun e1 (o + 187)).trans gset_same
    obtain ⟨fr1, hm1⟩ := hR1.at
    have hM := fun z0 => mR_daysUntilKnown (z := z0) (nI k0) hR1
    rw [hkk] at hM
    refine g_istore dL_law_1626 (by decide) rfl ?_
    refine g_aload_n dL_law_1628 rfl ?_
    refine g_aload_n dL_law_1629 rfl ?_
    refine g_iload dL_law_1630 rfl ?_
    refine g_iconst (nI 1) dL_law_1632 (by decide) ?_
    first | refine g_iaddN dL_law_1633 ?_ | refine g_iadd dL_law_1633 ?_
    refine g_tald (j := i + 1) hT (by omega) (by omega) dL_law_1634 ?_
    rw [hp]
    refine g_callV0 kL_211 (hM _) hm1 rfl rfl rfl (Nat.le_of_ble_eq_true rfl) (by decide) (by decide) (by (try dsimp only); omega) (by (try dsimp only); omega) dL_law_1635 ?_
    rintro v1 h2 z1 ⟨rfl, rfl, hR2, hO2⟩
    rw [if_pos hc2]
    rw [if_pos hc2] at hR2
    have hC2 := hC1.eqo (fun x _ _ => hO2 x (by omega) (by omega) (by omega))
    have hw2 := (hO2 (o + 187) (by omega) (by omega) (by omega)).trans hw1
    obtain ⟨fr2, hm2⟩ := hR2.at
    refine g_istore dL_law_1638 (by decide) rfl ?_
    refine g_aload_n dL_law_1640 rfl ?_
    refine g_callV0 kL_95 (mR_thrown hR2) hm2 rfl rfl rfl (Nat.le_of_ble_eq_true rfl) (by decide) (by decide) (by (try dsimp only); omega) (by (try dsimp only); omega) dL_law_1641 ?_
    rintro v1 h3 z1 ⟨rfl, rfl, rfl⟩
    refine g_iload dL_law_1644 rfl ?_
    refine g_icmp_eq 1651 dL_law_1646 (by decide) (fun c_1 => ?_) (fun c_1 => ?_)
    · refine g_iload dL_law_1651 rfl ?_
      refine g_if_ne 1668 dL_law_1653 (by decide) (fun c_2 => ?_) (fun c_2 => ?_)
      · exact absurd rfl c_2
      · refine g_aload_n dL_law_1656 rfl ?_
        refine g_iconst (nI 0) dL_law_1657 (by decide) ?_
        refine g_laldN (j := 0) hw2 (by decide) (by decide) dL_law_1658 ?_
        rw [vpL_same]
        refine g_iload dL_law_1659 rfl ?_
        refine g_i2l dL_law_1661 ?_
        refine g_lcmp dL_law_1662 ?_
        rw [lcmp_self]
        refine g_if_eq 1668 dL_law_1663 (by decide) (fun c_3 => ?_) (fun c_3 => ?_)
        · refine g_goto 1739 dL_law_1668 (by decide) ?_
          exact KK _ _ _ _ _ _ _ _ ⟨pl, n0, f, P, L, day, car, err, 0, _, hC2, hR2, hw2, by omega, by omega, hpl⟩ (by (try dsimp only); omega) (by (try dsimp only); omega)
        · exact absurd rfl c_3
    · exact absurd rfl c_1
  · refine g_aload_n dL_law_1615 rfl ?_
    refine g_aload_n dL_law_1616 rfl ?_
    refine g_iload dL_law_1617 rfl ?_
    refine g_iconst (nI 1) dL_law_1619 (by decide) ?_
    first | refine g_iaddN dL_law_1620 ?_ | refine g_iadd dL_law_1620 ?_
    refine g_tald (j := i + 1) hT (by omega) (by omega) dL_law_1621 ?_
    rw [hp]
    refine g_aload_n dL_law_1622 rfl ?_
    refine g_callSH kw_daysUntilKnown (wX_daysUntilKnown p h0 (m10_daysUntilKnownX p hc hTh hC)) rfl rfl (Nat.le_of_ble_eq_true rfl) (by decide) (by decide) (by (try dsimp only); omega) (by (try dsimp only); omega) dL_law_1623 ?_
    rintro v1 h1 z1 ⟨rfl, rfl, hz9⟩
    have hM := fun z0 => mR_daysUntilKnown (z := z0) p hR
    refine g_istore dL_law_1626 (by decide) rfl ?_
    refine g_aload_n dL_law_1628 rfl ?_
    refine g_aload_n dL_law_1629 rfl ?_
    refine g_iload dL_law_1630 rfl ?_
    refine g_iconst (nI 1) dL_law_1632 (by decide) ?_
    first | refine g_iaddN dL_law_1633 ?_ | refine g_iadd dL_law_1633 ?_
    refine g_tald (j := i + 1) hT (by omega) (by omega) dL_law_1634 ?_
    rw [hp]
    refine g_callV0 kL_211 (hM _) hm rfl rfl rfl (Nat.le_of_ble_eq_true rfl) (by decide) (by decide) (by (try dsimp only); omega) (by (try dsimp only); omega) dL_law_1635 ?_
    rintro v1 h2 z1 ⟨rfl, rfl, hR2, hO2⟩
    rw [if_neg hc]
    rw [if_neg hc] at hR2
    have hC2 := hC.eqo (fun x _ _ => hO2 x (by omega) (by omega) (by omega))
    have hw2 := (hO2 (o + 187) (by omega) (by omega) (by omega)).trans hw
    obtain ⟨fr2, hm2⟩ := hR2.at
    refine g_istore dL_law_1638 (by decide) rfl ?_
    refine g_aload_n dL_law_1640 rfl ?_
    refine g_callV0 kL_95 (mR_thrown hR2) hm2 rfl rfl rfl (Nat.le_of_ble_eq_true rfl) (by decide) (by decide) (by (try dsimp only); omega) (by (try dsimp only); omega) dL_law_1641 ?_
    rintro v1 h3 z1 ⟨rfl, rfl, rfl⟩
    refine g_iload dL_law_1644 rfl ?_
    refine g_icmp_eq 1651 dL_law_1646 (by decide) (fun c_1 => ?_) (fun c_1 => ?_)
    · refine g_iload dL_law_1651 rfl ?_
      refine g_if_ne 1668 dL_law_1653 (by decide) (fun c_2 => ?_) (fun c_2 => ?_)
      · refine g_goto 1739 dL_law_1668 (by decide) ?_
        exact KK _ _ _ _ _ _ _ _ ⟨pl, n0, f, P, L, day, car, err, 1, g, hC2, hR2, hw2, by omega, by omega, hpl⟩ (by (try dsimp only); omega) (by (try dsimp only); omega)
      · exact absurd c_2 (by decide)
    · exact absurd rfl c_1
set_option maxRecDepth 100000 in
set_option maxHeartbeats 4000000 in
theorem lc_hear {X : gX} {F : gF} {K : gKo} {b Ls i o k n z : Nat} {xs : Nat → Int32} {h : gH} {x5 x6 x7 x8 : Option Value} (hK : gCo X K) (hTh : gTh X) (hT : gTb X .int b Ls (fun j => .int (xs j))) (hLs : Ls ≤ 3072) (hi : i + 6 ≤ Ls) (hk : k + 12 ≤ 601024) (hn : n + 1806 ≤ 7293034) (hI : LwI X K o h z) (KK : ∀ (h' : gH) (z' k' n' : Nat) (a5 a6 a7 a8 : Option Value), LwI X K o h' z' → k' ≤ k + 12 → n' ≤ n + 1806 → G X F cL_law 9 RL lwR k' n' 1739 [some (.ref b), some (.ref o), some (.ref (o + 162)), some (.ref (o + 187)), some (.int (nI i)), a5, a6, a7, a8] [] h' z') : G X F cL_law 9 RL lwR k n 1279 [some (.ref b), some (.ref o), some (.ref (o + 162)), some (.ref (o + 187)), some (.int (nI i)), x5, x6, x7, x8] [] h z := by
  obtain ⟨pl, n0, f, P, L, day, car, err, t, g, hC, hR, hw, hz1, hz2, hpl⟩ := hI
  obtain ⟨fs, h0⟩ := hC.at
  obtain ⟨fr, hm⟩ := hR.at
  obtain ⟨hl40, hok, hn0⟩ := hC.len
  have h8 := hok.1.1
  obtain ⟨p, hp⟩ : ∃ p, xs (i + 1) = p := ⟨_, rfl⟩
  by_cases hc : nI 1 ≤ p ∧ p ≤ nI 26
  · have hc2 := hc
    refine g_aload_n dL_law_1279 rfl ?_
    refine g_aload_n dL_law_1280 rfl ?_
    refine g_iload dL_law_1281 rfl ?_
    refine g_iconst (nI 1) dL_law_1283 (by decide) ?_
    first | refine g_iaddN dL_law_1284 ?_ | refine g_iadd dL_law_1284 ?_
    refine g_tald (j := i + 1) hT (by omega) (by omega) dL_law_1285 ?_
    rw [hp]
    refine g_aload_n dL_law_1286 rfl ?_
    refine g_callSH kw_hear (wL_hear p h0 hw (Or.inr (by omega)) (m10_hear p hc hC)) rfl rfl (Nat.le_of_ble_eq_true rfl) (by decide) (by decide) (by (try dsimp only); omega) (by (try dsimp only); omega) dL_law_1287 ?_
    rintro v1 h1 z1 ⟨rfl, rfl, h9, hC9, hO9, e1⟩
    have hR1 : RefS X h1 (o + 162) pl n0 f P L day car err t := hR.eqm (fun x _ _ => by rw [e1, gset_ne (by omega)]; exact hO9 x (by omega)) (fun x _ _ => by rw [e1, gset_ne (by omega)]; exact hO9 x (by omega))
    have hC1 := hC9.eqo (h' := h1) (fun x _ _ => by rw [e1, gset_ne (by omega)])
    have hw1 := (congrFun e1 (o + 187)).trans gset_same
    obtain ⟨fr1, hm1⟩ := hR1.at
    have hM := fun z0 => mR_hear (z := z0) p hR1
    refine g_istore dL_law_1290 (by decide) rfl ?_
    refine g_aload_n dL_law_1292 rfl ?_
    refine g_aload_n dL_law_1293 rfl ?_
    refine g_iload dL_law_1294 rfl ?_
    refine g_iconst (nI 1) dL_law_1296 (by decide) ?_
    first | refine g_iaddN dL_law_1297 ?_ | refine g_iadd dL_law_1297 ?_
    refine g_tald (j := i + 1) hT (by omega) (by omega) dL_law_1298 ?_
    rw [hp]
    refine g_callV0 kL_193 (hM _) hm1 rfl rfl rfl (Nat.le_of_ble_eq_true rfl) (by decide) (by decide) (by (try dsimp only); omega) (by (try dsimp only); omega) dL_law_1299 ?_
    rintro v1 h2 z1 ⟨rfl, rfl, hR2, hO2⟩
    rw [if_pos hc2]
    rw [if_pos hc2, if_pos hc2] at hR2
    have hC2 := hC1.eqo (fun x _ _ => hO2 x (by omega) (by omega) (by omega))
    have hw2 := (hO2 (o + 187) (by omega) (by omega) (by omega)).trans hw1
    obtain ⟨fr2, hm2⟩ := hR2.at
    refine g_istore dL_law_1302 (by decide) rfl ?_
    refine g_aload_n dL_law_1304 rfl ?_
    refine g_callV0 kL_95 (mR_thrown hR2) hm2 rfl rfl rfl (Nat.le_of_ble_eq_true rfl) (by decide) (by decide) (by (try dsimp only); omega) (by (try dsimp only); omega) dL_law_1305 ?_
    rintro v1 h3 z1 ⟨rfl, rfl, rfl⟩
    refine g_iload dL_law_1308 rfl ?_
    refine g_icmp_eq 1315 dL_law_1310 (by decide) (fun c_1 => ?_) (fun c_1 => ?_)
    · refine g_iload dL_law_1315 rfl ?_
      refine g_if_ne 1332 dL_law_1317 (by decide) (fun c_2 => ?_) (fun c_2 => ?_)
      · exact absurd rfl c_2
      · refine g_aload_n dL_law_1320 rfl ?_
        refine g_iconst (nI 0) dL_law_1321 (by decide) ?_
        refine g_laldN (j := 0) hw2 (by decide) (by decide) dL_law_1322 ?_
        rw [vpL_same]
        refine g_iload dL_law_1323 rfl ?_
        refine g_i2l dL_law_1325 ?_
        refine g_lcmp dL_law_1326 ?_
        rw [lcmp_self]
        refine g_if_eq 1332 dL_law_1327 (by decide) (fun c_3 => ?_) (fun c_3 => ?_)
        · refine g_goto 1739 dL_law_1332 (by decide) ?_
          exact KK _ _ _ _ _ _ _ _ ⟨pl, n0, f, P, _, day, car, err, 0, _, hC2, hR2, hw2, by omega, by omega, hpl⟩ (by (try dsimp only); omega) (by (try dsimp only); omega)
        · exact absurd rfl c_3
    · exact absurd rfl c_1
  · refine g_aload_n dL_law_1279 rfl ?_
    refine g_aload_n dL_law_1280 rfl ?_
    refine g_iload dL_law_1281 rfl ?_
    refine g_iconst (nI 1) dL_law_1283 (by decide) ?_
    first | refine g_iaddN dL_law_1284 ?_ | refine g_iadd dL_law_1284 ?_
    refine g_tald (j := i + 1) hT (by omega) (by omega) dL_law_1285 ?_
    rw [hp]
    refine g_aload_n dL_law_1286 rfl ?_
    refine g_callSH kw_hear (wX_hear p h0 (m10_hearX p hc hTh hC)) rfl rfl (Nat.le_of_ble_eq_true rfl) (by decide) (by decide) (by (try dsimp only); omega) (by (try dsimp only); omega) dL_law_1287 ?_
    rintro v1 h1 z1 ⟨rfl, rfl, hz9⟩
    have hM := fun z0 => mR_hear (z := z0) p hR
    refine g_istore dL_law_1290 (by decide) rfl ?_
    refine g_aload_n dL_law_1292 rfl ?_
    refine g_aload_n dL_law_1293 rfl ?_
    refine g_iload dL_law_1294 rfl ?_
    refine g_iconst (nI 1) dL_law_1296 (by decide) ?_
    first | refine g_iaddN dL_law_1297 ?_ | refine g_iadd dL_law_1297 ?_
    refine g_tald (j := i + 1) hT (by omega) (by omega) dL_law_1298 ?_
    rw [hp]
    refine g_callV0 kL_193 (hM _) hm rfl rfl rfl (Nat.le_of_ble_eq_true rfl) (by decide) (by decide) (by (try dsimp only); omega) (by (try dsimp only); omega) dL_law_1299 ?_
    rintro v1 h2 z1 ⟨rfl, rfl, hR2, hO2⟩
    rw [if_neg hc]
    rw [if_neg hc, if_neg hc] at hR2
    have hC2 := hC.eqo (fun x _ _ => hO2 x (by omega) (by omega) (by omega))
    have hw2 := (hO2 (o + 187) (by omega) (by omega) (by omega)).trans hw
    obtain ⟨fr2, hm2⟩ := hR2.at
    refine g_istore dL_law_1302 (by decide) rfl ?_
    refine g_aload_n dL_law_1304 rfl ?_
    refine g_callV0 kL_95 (mR_thrown hR2) hm2 rfl rfl rfl (Nat.le_of_ble_eq_true rfl) (by decide) (by decide) (by (try dsimp only); omega) (by (try dsimp only); omega) dL_law_1305 ?_
    rintro v1 h3 z1 ⟨rfl, rfl, rfl⟩
    refine g_iload dL_law_1308 rfl ?_
    refine g_icmp_eq 1315 dL_law_1310 (by decide) (fun c_1 => ?_) (fun c_1 => ?_)
    · refine g_iload dL_law_1315 rfl ?_
      refine g_if_ne 1332 dL_law_1317 (by decide) (fun c_2 => ?_) (fun c_2 => ?_)
      · refine g_goto 1739 dL_law_1332 (by decide) ?_
        exact KK _ _ _ _ _ _ _ _ ⟨pl, n0, f, P, L, day, car, err, 1, g, hC2, hR2, hw2, by omega, by omega, hpl⟩ (by (try dsimp only); omega) (by (try dsimp only); omega)
      · exact absurd c_2 (by decide)
    · exact absurd rfl c_1
set_option maxRecDepth 100000 in
set_option maxHeartbeats 4000000 in
theorem lc_mock {X : gX} {F : gF} {K : gKo} {b Ls i o k n z : Nat} {xs : Nat → Int32} {h : gH} {x5 x6 x7 x8 : Option Value} (hK : gCo X K) (hTh : gTh X) (hT : gTb X .int b Ls (fun j => .int (xs j))) (hLs : Ls ≤ 3072) (hi : i + 6 ≤ Ls) (hk : k + 12 ≤ 601024) (hn : n + 1806 ≤ 7293034) (hI : LwI X K o h z) (KK : ∀ (h' : gH) (z' k' n' : Nat) (a5 a6 a7 a8 : Option Value), LwI X K o h' z' → k' ≤ k + 12 → n' ≤ n + 1806 → G X F cL_law 9 RL lwR k' n' 1739 [some (.ref b), some (.ref o), some (.ref (o + 162)), some (.ref (o + 187)), some (.int (nI i)), a5, a6, a7, a8] [] h' z') : G X F cL_law 9 RL lwR k n 1335 [some (.ref b), some (.ref o), some (.ref (o + 162)), some (.ref (o + 187)), some (.int (nI i)), x5, x6, x7, x8] [] h z := by
  obtain ⟨pl, n0, f, P, L, day, car, err, t, g, hC, hR, hw, hz1, hz2, hpl⟩ := hI
  obtain ⟨fs, h0⟩ := hC.at
  obtain ⟨fr, hm⟩ := hR.at
  obtain ⟨hl40, hok, hn0⟩ := hC.len
  have h8 := hok.1.1
  obtain ⟨p, hp⟩ : ∃ p, xs (i + 1) = p := ⟨_, rfl⟩
  by_cases hc : p.toNatClampNeg < P.1.1 ∧ p = nI p.toNatClampNeg
  · have hx := hc.2
    have hk0 := hc.1
    generalize hkk : p.toNatClampNeg = k0 at hk0 hx
    subst hx
    have hc2 : k0 < P.1.1 ∧ nI k0 = nI k0 := ⟨hk0, rfl⟩
    refine g_aload_n dL_law_1335 rfl ?_
    refine g_aload_n dL_law_1336 rfl ?_
    refine g_iload dL_law_1337 rfl ?_
    refine g_iconst (nI 1) dL_law_1339 (by decide) ?_
    first | refine g_iaddN dL_law_1340 ?_ | refine g_iadd dL_law_1340 ?_
    refine g_tald (j := i + 1) hT (by omega) (by omega) dL_law_1341 ?_
    rw [hp]
    refine g_aload_n dL_law_1342 rfl ?_
    refine g_callSH kw_mock (wL_mock (nI k0) h0 hw (Or.inr (by omega)) (m10_mock k0 hk0 hC)) rfl rfl (Nat.le_of_ble_eq_true rfl) (by decide) (by decide) (by (try dsimp only); omega) (by (try dsimp only); omega) dL_law_1343 ?_
    rintro v1 h1 z1 ⟨rfl, rfl, h9, hC9, hO9, e1⟩
    have hR1 : RefS X h1 (o + 162) pl n0 f P L day car err t := hR.eqm (fun x _ _ => by rw [e1, gset_ne (by omega)]; exact hO9 x (by omega)) (fun x _ _ => by rw [e1, gset_ne (by omega)]; exact hO9 x (by omega))
    have hC1 := hC9.eqo (h' := h1) (fun x _ _ => by rw [e1, gset_ne (by omega)])
    have hw1 := (congrFun e1 (o + 187)).trans gset_same
    obtain ⟨fr1, hm1⟩ := hR1.at
    have hM := fun z0 => mR_mock (z := z0) (nI k0) hR1
    rw [hkk] at hM
    refine g_istore dL_law_1346 (by decide) rfl ?_
    refine g_aload_n dL_law_1348 rfl ?_
    refine g_aload_n dL_law_1349 rfl ?_
    refine g_iload dL_law_1350 rfl ?_
    refine g_iconst (nI 1) dL_law_1352 (by decide) ?_
    first | refine g_iaddN dL_law_1353 ?_ | refine g_iadd dL_law_1353 ?_
    refine g_tald (j := i + 1) hT (by omega) (by omega) dL_law_1354 ?_
    rw [hp]
    refine g_callV0 kL_196 (hM _) hm1 rfl rfl rfl (Nat.le_of_ble_eq_true rfl) (by decide) (by decide) (by (try dsimp only); omega) (by (try dsimp only); omega) dL_law_1355 ?_
    rintro v1 h2 z1 ⟨rfl, rfl, hR2, hO2⟩
    rw [if_pos hc2]
    rw [if_pos hc2, if_pos hc2] at hR2
    have hC2 := hC1.eqo (fun x _ _ => hO2 x (by omega) (by omega) (by omega))
    have hw2 := (hO2 (o + 187) (by omega) (by omega) (by omega)).trans hw1
    obtain ⟨fr2, hm2⟩ := hR2.at
    refine g_istore dL_law_1358 (by decide) rfl ?_
    refine g_aload_n dL_law_1360 rfl ?_
    refine g_callV0 kL_95 (mR_thrown hR2) hm2 rfl rfl rfl (Nat.le_of_ble_eq_true rfl) (by decide) (by decide) (by (try dsimp only); omega) (by (try dsimp only); omega) dL_law_1361 ?_
    rintro v1 h3 z1 ⟨rfl, rfl, rfl⟩
    refine g_iload dL_law_1364 rfl ?_
    refine g_icmp_eq 1371 dL_law_1366 (by decide) (fun c_1 => ?_) (fun c_1 => ?_)
    · refine g_iload dL_law_1371 rfl ?_
      refine g_if_ne 1388 dL_law_1373 (by decide) (fun c_2 => ?_) (fun c_2 => ?_)
      · exact absurd rfl c_2
      · refine g_aload_n dL_law_1376 rfl ?_
        refine g_iconst (nI 0) dL_law_1377 (by decide) ?_
        refine g_laldN (j := 0) hw2 (by decide) (by decide) dL_law_1378 ?_
        rw [vpL_same]
        refine g_iload dL_law_1379 rfl ?_
        refine g_i2l dL_law_1381 ?_
        refine g_lcmp dL_law_1382 ?_
        rw [lcmp_self]
        refine g_if_eq 1388 dL_law_1383 (by decide) (fun c_3 => ?_) (fun c_3 => ?_)
        · refine g_goto 1739 dL_law_1388 (by decide) ?_
          exact KK _ _ _ _ _ _ _ _ ⟨pl, n0, f, P, _, day, car, err, 0, _, hC2, hR2, hw2, by omega, by omega, hpl⟩ (by (try dsimp only); omega) (by (try dsimp only); omega)
        · exact absurd rfl c_3
    · exact absurd rfl c_1
  · refine g_aload_n dL_law_1335 rfl ?_
    refine g_aload_n dL_law_1336 rfl ?_
    refine g_iload dL_law_1337 rfl ?_
    refine g_iconst (nI 1) dL_law_1339 (by decide) ?_
    first | refine g_iaddN dL_law_1340 ?_ | refine g_iadd dL_law_1340 ?_
    refine g_tald (j := i + 1) hT (by omega) (by omega) dL_law_1341 ?_
    rw [hp]
    refine g_aload_n dL_law_1342 rfl ?_
    refine g_callSH kw_mock (wX_mock p h0 (m10_mockX p hc hTh hC)) rfl rfl (Nat.le_of_ble_eq_true rfl) (by decide) (by decide) (by (try dsimp only); omega) (by (try dsimp only); omega) dL_law_1343 ?_
    rintro v1 h1 z1 ⟨rfl, rfl, hz9⟩
    have hM := fun z0 => mR_mock (z := z0) p hR
    refine g_istore dL_law_1346 (by decide) rfl ?_
    refine g_aload_n dL_law_1348 rfl ?_
    refine g_aload_n dL_law_1349 rfl ?_
    refine g_iload dL_law_1350 rfl ?_
    refine g_iconst (nI 1) dL_law_1352 (by decide) ?_
    first | refine g_iaddN dL_law_1353 ?_ | refine g_iadd dL_law_1353 ?_
    refine g_tald (j := i + 1) hT (by omega) (by omega) dL_law_1354 ?_
    rw [hp]
    refine g_callV0 kL_196 (hM _) hm rfl rfl rfl (Nat.le_of_ble_eq_true rfl) (by decide) (by decide) (by (try dsimp only); omega) (by (try dsimp only); omega) dL_law_1355 ?_
    rintro v1 h2 z1 ⟨rfl, rfl, hR2, hO2⟩
    rw [if_neg hc]
    rw [if_neg hc, if_neg hc] at hR2
    have hC2 := hC.eqo (fun x _ _ => hO2 x (by omega) (by omega) (by omega))
    have hw2 := (hO2 (o + 187) (by omega) (by omega) (by omega)).trans hw
    obtain ⟨fr2, hm2⟩ := hR2.at
    refine g_istore dL_law_1358 (by decide) rfl ?_
    refine g_aload_n dL_law_1360 rfl ?_
    refine g_callV0 kL_95 (mR_thrown hR2) hm2 rfl rfl rfl (Nat.le_of_ble_eq_true rfl) (by decide) (by decide) (by (try dsimp only); omega) (by (try dsimp only); omega) dL_law_1361 ?_
    rintro v1 h3 z1 ⟨rfl, rfl, rfl⟩
    refine g_iload dL_law_1364 rfl ?_
    refine g_icmp_eq 1371 dL_law_1366 (by decide) (fun c_1 => ?_) (fun c_1 => ?_)
    · refine g_iload dL_law_1371 rfl ?_
      refine g_if_ne 1388 dL_law_1373 (by decide) (fun c_2 => ?_) (fun c_2 => ?_)
      · refine g_goto 1739 dL_law_1388 (by decide) ?_
        exact KK _ _ _ _ _ _ _ _ ⟨pl, n0, f, P, L, day, car, err, 1, g, hC2, hR2, hw2, by omega, by omega, hpl⟩ (by (try dsimp only); omega) (by (try dsimp only); omega)
      · exact absurd c_2 (by decide)
    · exact absurd rfl c_1
set_option maxRecDepth 100000 in
set_option maxHeartbeats 4000000 in
theorem lc_echo {X : gX} {F : gF} {K : gKo} {b Ls i o k n z : Nat} {xs : Nat → Int32} {h : gH} {x5 x6 x7 x8 : Option Value} (hK : gCo X K) (hTh : gTh X) (hT : gTb X .int b Ls (fun j => .int (xs j))) (hLs : Ls ≤ 3072) (hi : i + 6 ≤ Ls) (hk : k + 12 ≤ 601024) (hn : n + 1806 ≤ 7293034) (hI : LwI X K o h z) (KK : ∀ (h' : gH) (z' k' n' : Nat) (a5 a6 a7 a8 : Option Value), LwI X K o h' z' → k' ≤ k + 12 → n' ≤ n + 1806 → G X F cL_law 9 RL lwR k' n' 1739 [some (.ref b), some (.ref o), some (.ref (o + 162)), some (.ref (o + 187)), some (.int (nI i)), a5, a6, a7, a8] [] h' z') : G X F cL_law 9 RL lwR k n 1391 [some (.ref b), some (.ref o), some (.ref (o + 162)), some (.ref (o + 187)), some (.int (nI i)), x5, x6, x7, x8] [] h z := by
  obtain ⟨pl, n0, f, P, L, day, car, err, t, g, hC, hR, hw, hz1, hz2, hpl⟩ := hI
  obtain ⟨fs, h0⟩ := hC.at
  obtain ⟨fr, hm⟩ := hR.at
  obtain ⟨hl40, hok, hn0⟩ := hC.len
  have h8 := hok.1.1
  obtain ⟨p, hp⟩ : ∃ p, xs (i + 1) = p := ⟨_, rfl⟩
  by_cases hc : nI 1 ≤ p ∧ p ≤ nI L.length
  · have hL1 : 1 ≤ L.length := by
      have a := hc.1
      have b := hc.2
      simp only [Int32.le_iff_toInt_le, nI_toInt (show 1 < 2 ^ 31 by decide), nI_toInt (show L.length < 2 ^ 31 by omega)] at a b
      omega
    obtain ⟨g1, g2, hx⟩ := i32_nat (by omega) hc.1 hc.2 hL1
    generalize hkk : p.toNatClampNeg = k0 at g1 g2 hx
    subst hx
    have hc2 := hc
    refine g_aload_n dL_law_1391 rfl ?_
    refine g_aload_n dL_law_1392 rfl ?_
    refine g_iload dL_law_1393 rfl ?_
    refine g_iconst (nI 1) dL_law_1395 (by decide) ?_
    first | refine g_iaddN dL_law_1396 ?_ | refine g_iadd dL_law_1396 ?_
    refine g_tald (j := i + 1) hT (by omega) (by omega) dL_law_1397 ?_
    rw [hp]
    refine g_aload_n dL_law_1398 rfl ?_
    refine g_callSH kw_echo (wL_echo (nI k0) h0 hw (Or.inr (by omega)) (m10_echo k0 g1 g2 hC)) rfl rfl (Nat.le_of_ble_eq_true rfl) (by decide) (by decide) (by (try dsimp only); omega) (by (try dsimp only); omega) dL_law_1399 ?_
    rintro v1 h1 z1 ⟨rfl, rfl, h9, hC9, hO9, e1⟩
    have hR1 : RefS X h1 (o + 162) pl n0 f P L day car err t := hR.eqm (fun x _ _ => by rw [e1, gset_ne (by omega)]; exact hO9 x (by omega)) (fun x _ _ => by rw [e1, gset_ne (by omega)]; exact hO9 x (by omega))
    have hC1 := hC9.eqo (h' := h1) (fun x _ _ => by rw [e1, gset_ne (by omega)])
    have hw1 := (congrFun e1 (o + 187)).trans gset_same
    obtain ⟨fr1, hm1⟩ := hR1.at
    have hM := fun z0 => mR_echo (z := z0) (nI k0) hR1
    rw [hkk] at hM
    refine g_istore dL_law_1402 (by decide) rfl ?_
    refine g_aload_n dL_law_1404 rfl ?_
    refine g_aload_n dL_law_1405 rfl ?_
    refine g_iload dL_law_1406 rfl ?_
    refine g_iconst (nI 1) dL_law_1408 (by decide) ?_
    first | refine g_iaddN dL_law_1409 ?_ | refine g_iadd dL_law_1409 ?_
    refine g_tald (j := i + 1) hT (by omega) (by omega) dL_law_1410 ?_
    rw [hp]
    refine g_callV0 kL_199 (hM _) hm1 rfl rfl rfl (Nat.le_of_ble_eq_true rfl) (by decide) (by decide) (by (try dsimp only); omega) (by (try dsimp only); omega) dL_law_1411 ?_
    rintro v1 h2 z1 ⟨rfl, rfl, hR2, hO2⟩
    rw [if_pos hc2]
    rw [if_pos hc2, if_pos hc2] at hR2
    have hC2 := hC1.eqo (fun x _ _ => hO2 x (by omega) (by omega) (by omega))
    have hw2 := (hO2 (o + 187) (by omega) (by omega) (by omega)).trans hw1
    obtain ⟨fr2, hm2⟩ := hR2.at
    refine g_istore dL_law_1414 (by decide) rfl ?_
    refine g_aload_n dL_law_1416 rfl ?_
    refine g_callV0 kL_95 (mR_thrown hR2) hm2 rfl rfl rfl (Nat.le_of_ble_eq_true rfl) (by decide) (by decide) (by (try dsimp only); omega) (by (try dsimp only); omega) dL_law_1417 ?_
    rintro v1 h3 z1 ⟨rfl, rfl, rfl⟩
    refine g_iload dL_law_1420 rfl ?_
    refine g_icmp_eq 1427 dL_law_1422 (by decide) (fun c_1 => ?_) (fun c_1 => ?_)
    · refine g_iload dL_law_1427 rfl ?_
      refine g_if_ne 1444 dL_law_1429 (by decide) (fun c_2 => ?_) (fun c_2 => ?_)
      · exact absurd rfl c_2
      · refine g_aload_n dL_law_1432 rfl ?_
        refine g_iconst (nI 0) dL_law_1433 (by decide) ?_
        refine g_laldN (j := 0) hw2 (by decide) (by decide) dL_law_1434 ?_
        rw [vpL_same]
        refine g_iload dL_law_1435 rfl ?_
        refine g_i2l dL_law_1437 ?_
        refine g_lcmp dL_law_1438 ?_
        rw [lcmp_self]
        refine g_if_eq 1444 dL_law_1439 (by decide) (fun c_3 => ?_) (fun c_3 => ?_)
        · refine g_goto 1739 dL_law_1444 (by decide) ?_
          exact KK _ _ _ _ _ _ _ _ ⟨pl, n0, f, P, _, day, car, err, 0, _, hC2, hR2, hw2, by omega, by omega, hpl⟩ (by (try dsimp only); omega) (by (try dsimp only); omega)
        · exact absurd rfl c_3
    · exact absurd rfl c_1
  · refine g_aload_n dL_law_1391 rfl ?_
    refine g_aload_n dL_law_1392 rfl ?_
    refine g_iload dL_law_1393 rfl ?_
    refine g_iconst (nI 1) dL_law_1395 (by decide) ?_
    first | refine g_iaddN dL_law_1396 ?_ | refine g_iadd dL_law_1396 ?_
    refine g_tald (j := i + 1) hT (by omega) (by omega) dL_law_1397 ?_
    rw [hp]
    refine g_aload_n dL_law_1398 rfl ?_
    refine g_callSH kw_echo (wX_echo p h0 (m10_echoX p hc hTh hC)) rfl rfl (Nat.le_of_ble_eq_true rfl) (by decide) (by decide) (by (try dsimp only); omega) (by (try dsimp only); omega) dL_law_1399 ?_
    rintro v1 h1 z1 ⟨rfl, rfl, hz9⟩
    have hM := fun z0 => mR_echo (z := z0) p hR
    refine g_istore dL_law_1402 (by decide) rfl ?_
    refine g_aload_n dL_law_1404 rfl ?_
    refine g_aload_n dL_law_1405 rfl ?_
    refine g_iload dL_law_1406 rfl ?_
    refine g_iconst (nI 1) dL_law_1408 (by decide) ?_
    first | refine g_iaddN dL_law_1409 ?_ | refine g_iadd dL_law_1409 ?_
    refine g_tald (j := i + 1) hT (by omega) (by omega) dL_law_1410 ?_
    rw [hp]
    refine g_callV0 kL_199 (hM _) hm rfl rfl rfl (Nat.le_of_ble_eq_true rfl) (by decide) (by decide) (by (try dsimp only); omega) (by (try dsimp only); omega) dL_law_1411 ?_
    rintro v1 h2 z1 ⟨rfl, rfl, hR2, hO2⟩
    rw [if_neg hc]
    rw [if_neg hc, if_neg hc] at hR2
    have hC2 := hC.eqo (fun x _ _ => hO2 x (by omega) (by omega) (by omega))
    have hw2 := (hO2 (o + 187) (by omega) (by omega) (by omega)).trans hw
    obtain ⟨fr2, hm2⟩ := hR2.at
    refine g_istore dL_law_1414 (by decide) rfl ?_
    refine g_aload_n dL_law_1416 rfl ?_
    refine g_callV0 kL_95 (mR_thrown hR2) hm2 rfl rfl rfl (Nat.le_of_ble_eq_true rfl) (by decide) (by decide) (by (try dsimp only); omega) (by (try dsimp only); omega) dL_law_1417 ?_
    rintro v1 h3 z1 ⟨rfl, rfl, rfl⟩
    refine g_iload dL_law_1420 rfl ?_
    refine g_icmp_eq 1427 dL_law_1422 (by decide) (fun c_1 => ?_) (fun c_1 => ?_)
    · refine g_iload dL_law_1427 rfl ?_
      refine g_if_ne 1444 dL_law_1429 (by decide) (fun c_2 => ?_) (fun c_2 => ?_)
      · refine g_goto 1739 dL_law_1444 (by decide) ?_
        exact KK _ _ _ _ _ _ _ _ ⟨pl, n0, f, P, L, day, car, err, 1, g, hC2, hR2, hw2, by omega, by omega, hpl⟩ (by (try dsimp only); omega) (by (try dsimp only); omega)
      · exact absurd c_2 (by decide)
    · exact absurd rfl c_1
set_option maxRecDepth 100000 in
set_option maxHeartbeats 4000000 in
theorem lc_forget {X : gX} {F : gF} {K : gKo} {b Ls i o k n z : Nat} {xs : Nat → Int32} {h : gH} {x5 x6 x7 x8 : Option Value} (hK : gCo X K) (hTh : gTh X) (hT : gTb X .int b Ls (fun j => .int (xs j))) (hLs : Ls ≤ 3072) (hi : i + 6 ≤ Ls) (hk : k + 12 ≤ 601024) (hn : n + 1806 ≤ 7293034) (hI : LwI X K o h z) (KK : ∀ (h' : gH) (z' k' n' : Nat) (a5 a6 a7 a8 : Option Value), LwI X K o h' z' → k' ≤ k + 12 → n' ≤ n + 1806 → G X F cL_law 9 RL lwR k' n' 1739 [some (.ref b), some (.ref o), some (.ref (o + 162)), some (.ref (o + 187)), some (.int (nI i)), a5, a6, a7, a8] [] h' z') : G X F cL_law 9 RL lwR k n 1447 [some (.ref b), some (.ref o), some (.ref (o + 162)), some (.ref (o + 187)), some (.int (nI i)), x5, x6, x7, x8] [] h z := by
  obtain ⟨pl, n0, f, P, L, day, car, err, t, g, hC, hR, hw, hz1, hz2, hpl⟩ := hI
  obtain ⟨fs, h0⟩ := hC.at
  obtain ⟨fr, hm⟩ := hR.at
  obtain ⟨hl40, hok, hn0⟩ := hC.len
  have h8 := hok.1.1
  obtain ⟨p, hp⟩ : ∃ p, xs (i + 1) = p := ⟨_, rfl⟩
  by_cases hc : nI 1 ≤ p ∧ p ≤ nI L.length
  · have hL1 : 1 ≤ L.length := by
      have a := hc.1
      have b := hc.2
      simp only [Int32.le_iff_toInt_le, nI_toInt (show 1 < 2 ^ 31 by decide), nI_toInt (show L.length < 2 ^ 31 by omega)] at a b
      omega
    obtain ⟨g1, g2, hx⟩ := i32_nat (by omega) hc.1 hc.2 hL1
    generalize hkk : p.toNatClampNeg = k0 at g1 g2 hx
    subst hx
    have hc2 := hc
    refine g_aload_n dL_law_1447 rfl ?_
    refine g_aload_n dL_law_1448 rfl ?_
    refine g_iload dL_law_1449 rfl ?_
    refine g_iconst (nI 1) dL_law_1451 (by decide) ?_
    first | refine g_iaddN dL_law_1452 ?_ | refine g_iadd dL_law_1452 ?_
    refine g_tald (j := i + 1) hT (by omega) (by omega) dL_law_1453 ?_
    rw [hp]
    refine g_aload_n dL_law_1454 rfl ?_
    refine g_callSH kw_forget (wL_forget (nI k0) h0 hw (Or.inr (by omega)) (m10_forget k0 g1 g2 hC)) rfl rfl (Nat.le_of_ble_eq_true rfl) (by decide) (by decide) (by (try dsimp only); omega) (by (try dsimp only); omega) dL_law_1455 ?_
    rintro v1 h1 z1 ⟨rfl, rfl, h9, hC9, hO9, e1⟩
    have hR1 : RefS X h1 (o + 162) pl n0 f P L day car err t := hR.eqm (fun x _ _ => by rw [e1, gset_ne (by omega)]; exact hO9 x (by omega)) (fun x _ _ => by rw [e1, gset_ne (by omega)]; exact hO9 x (by omega))
    have hC1 := hC9.eqo (h' := h1) (fun x _ _ => by rw [e1, gset_ne (by omega)])
    have hw1 := (congrFun e1 (o + 187)).trans gset_same
    obtain ⟨fr1, hm1⟩ := hR1.at
    have hM := fun z0 => mR_forget (z := z0) (nI k0) hR1
    rw [hkk] at hM
    refine g_istore dL_law_1458 (by decide) rfl ?_
    refine g_aload_n dL_law_1460 rfl ?_
    refine g_aload_n dL_law_1461 rfl ?_
    refine g_iload dL_law_1462 rfl ?_
    refine g_iconst (nI 1) dL_law_1464 (by decide) ?_
    first | refine g_iaddN dL_law_1465 ?_ | refine g_iadd dL_law_1465 ?_
    refine g_tald (j := i + 1) hT (by omega) (by omega) dL_law_1466 ?_
    rw [hp]
    refine g_callV0 kL_202 (hM _) hm1 rfl rfl rfl (Nat.le_of_ble_eq_true rfl) (by decide) (by decide) (by (try dsimp only); omega) (by (try dsimp only); omega) dL_law_1467 ?_
    rintro v1 h2 z1 ⟨rfl, rfl, hR2, hO2⟩
    rw [if_pos hc2]
    rw [if_pos hc2, if_pos hc2] at hR2
    have hC2 := hC1.eqo (fun x _ _ => hO2 x (by omega) (by omega) (by omega))
    have hw2 := (hO2 (o + 187) (by omega) (by omega) (by omega)).trans hw1
    obtain ⟨fr2, hm2⟩ := hR2.at
    refine g_istore dL_law_1470 (by decide) rfl ?_
    refine g_aload_n dL_law_1472 rfl ?_
    refine g_callV0 kL_95 (mR_thrown hR2) hm2 rfl rfl rfl (Nat.le_of_ble_eq_true rfl) (by decide) (by decide) (by (try dsimp only); omega) (by (try dsimp only); omega) dL_law_1473 ?_
    rintro v1 h3 z1 ⟨rfl, rfl, rfl⟩
    refine g_iload dL_law_1476 rfl ?_
    refine g_icmp_eq 1483 dL_law_1478 (by decide) (fun c_1 => ?_) (fun c_1 => ?_)
    · refine g_iload dL_law_1483 rfl ?_
      refine g_if_ne 1500 dL_law_1485 (by decide) (fun c_2 => ?_) (fun c_2 => ?_)
      · exact absurd rfl c_2
      · refine g_aload_n dL_law_1488 rfl ?_
        refine g_iconst (nI 0) dL_law_1489 (by decide) ?_
        refine g_laldN (j := 0) hw2 (by decide) (by decide) dL_law_1490 ?_
        rw [vpL_same]
        refine g_iload dL_law_1491 rfl ?_
        refine g_i2l dL_law_1493 ?_
        refine g_lcmp dL_law_1494 ?_
        rw [lcmp_self]
        refine g_if_eq 1500 dL_law_1495 (by decide) (fun c_3 => ?_) (fun c_3 => ?_)
        · refine g_goto 1739 dL_law_1500 (by decide) ?_
          exact KK _ _ _ _ _ _ _ _ ⟨pl, n0, f, P, _, day, car, err, 0, _, hC2, hR2, hw2, by omega, by omega, hpl⟩ (by (try dsimp only); omega) (by (try dsimp only); omega)
        · exact absurd rfl c_3
    · exact absurd rfl c_1
  · refine g_aload_n dL_law_1447 rfl ?_
    refine g_aload_n dL_law_1448 rfl ?_
    refine g_iload dL_law_1449 rfl ?_
    refine g_iconst (nI 1) dL_law_1451 (by decide) ?_
    first | refine g_iaddN dL_law_1452 ?_ | refine g_iadd dL_law_1452 ?_
    refine g_tald (j := i + 1) hT (by omega) (by omega) dL_law_1453 ?_
    rw [hp]
    refine g_aload_n dL_law_1454 rfl ?_
    refine g_callSH kw_forget (wX_forget p h0 (m10_forgetX p hc hTh hC)) rfl rfl (Nat.le_of_ble_eq_true rfl) (by decide) (by decide) (by (try dsimp only); omega) (by (try dsimp only); omega) dL_law_1455 ?_
    rintro v1 h1 z1 ⟨rfl, rfl, hz9⟩
    have hM := fun z0 => mR_forget (z := z0) p hR
    refine g_istore dL_law_1458 (by decide) rfl ?_
    refine g_aload_n dL_law_1460 rfl ?_
    refine g_aload_n dL_law_1461 rfl ?_
    refine g_iload dL_law_1462 rfl ?_
    refine g_iconst (nI 1) dL_law_1464 (by decide) ?_
    first | refine g_iaddN dL_law_1465 ?_ | refine g_iadd dL_law_1465 ?_
    refine g_tald (j := i + 1) hT (by omega) (by omega) dL_law_1466 ?_
    rw [hp]
    refine g_callV0 kL_202 (hM _) hm rfl rfl rfl (Nat.le_of_ble_eq_true rfl) (by decide) (by decide) (by (try dsimp only); omega) (by (try dsimp only); omega) dL_law_1467 ?_
    rintro v1 h2 z1 ⟨rfl, rfl, hR2, hO2⟩
    rw [if_neg hc]
    rw [if_neg hc, if_neg hc] at hR2
    have hC2 := hC.eqo (fun x _ _ => hO2 x (by omega) (by omega) (by omega))
    have hw2 := (hO2 (o + 187) (by omega) (by omega) (by omega)).trans hw
    obtain ⟨fr2, hm2⟩ := hR2.at
    refine g_istore dL_law_1470 (by decide) rfl ?_
    refine g_aload_n dL_law_1472 rfl ?_
    refine g_callV0 kL_95 (mR_thrown hR2) hm2 rfl rfl rfl (Nat.le_of_ble_eq_true rfl) (by decide) (by decide) (by (try dsimp only); omega) (by (try dsimp only); omega) dL_law_1473 ?_
    rintro v1 h3 z1 ⟨rfl, rfl, rfl⟩
    refine g_iload dL_law_1476 rfl ?_
    refine g_icmp_eq 1483 dL_law_1478 (by decide) (fun c_1 => ?_) (fun c_1 => ?_)
    · refine g_iload dL_law_1483 rfl ?_
      refine g_if_ne 1500 dL_law_1485 (by decide) (fun c_2 => ?_) (fun c_2 => ?_)
      · refine g_goto 1739 dL_law_1500 (by decide) ?_
        exact KK _ _ _ _ _ _ _ _ ⟨pl, n0, f, P, L, day, car, err, 1, g, hC2, hR2, hw2, by omega, by omega, hpl⟩ (by (try dsimp only); omega) (by (try dsimp only); omega)
      · exact absurd c_2 (by decide)
    · exact absurd rfl c_1
set_option maxRecDepth 100000 in
set_option maxHeartbeats 4000000 in
theorem lc_passDays {X : gX} {F : gF} {K : gKo} {b Ls i o k n z : Nat} {xs : Nat → Int32} {h : gH} {x5 x6 x7 x8 : Option Value} (hK : gCo X K) (hTh : gTh X) (hT : gTb X .int b Ls (fun j => .int (xs j))) (hLs : Ls ≤ 3072) (hi : i + 6 ≤ Ls) (hk : k + 12 ≤ 601024) (hn : n + 1806 ≤ 7293034) (hI : LwI X K o h z) (KK : ∀ (h' : gH) (z' k' n' : Nat) (a5 a6 a7 a8 : Option Value), LwI X K o h' z' → k' ≤ k + 12 → n' ≤ n + 1806 → G X F cL_law 9 RL lwR k' n' 1739 [some (.ref b), some (.ref o), some (.ref (o + 162)), some (.ref (o + 187)), some (.int (nI i)), a5, a6, a7, a8] [] h' z') : G X F cL_law 9 RL lwR k n 1503 [some (.ref b), some (.ref o), some (.ref (o + 162)), some (.ref (o + 187)), some (.int (nI i)), x5, x6, x7, x8] [] h z := by
  obtain ⟨pl, n0, f, P, L, day, car, err, t, g, hC, hR, hw, hz1, hz2, hpl⟩ := hI
  obtain ⟨fs, h0⟩ := hC.at
  obtain ⟨fr, hm⟩ := hR.at
  obtain ⟨hl40, hok, hn0⟩ := hC.len
  have h8 := hok.1.1
  obtain ⟨p, hp⟩ : ∃ p, xs (i + 1) = p := ⟨_, rfl⟩
  by_cases hc : nI 1 ≤ p ∧ p ≤ nI 30
  · obtain ⟨g1, g2, hx⟩ := i32_nat (by decide) hc.1 hc.2 (by decide)
    generalize hkk : p.toNatClampNeg = k0 at g1 g2 hx
    subst hx
    have hc2 := hc
    refine g_aload_n dL_law_1503 rfl ?_
    refine g_aload_n dL_law_1504 rfl ?_
    refine g_iload dL_law_1505 rfl ?_
    refine g_iconst (nI 1) dL_law_1507 (by decide) ?_
    first | refine g_iaddN dL_law_1508 ?_ | refine g_iadd dL_law_1508 ?_
    refine g_tald (j := i + 1) hT (by omega) (by omega) dL_law_1509 ?_
    rw [hp]
    refine g_aload_n dL_law_1510 rfl ?_
    refine g_callSH kw_passDays (wL_passDays (nI k0) h0 hw (Or.inr (by omega)) (m10_passDays hK k0 g1 g2 hC)) rfl rfl (Nat.le_of_ble_eq_true rfl) (by decide) (by decide) (by (try dsimp only); omega) (by (try dsimp only); omega) dL_law_1511 ?_
    rintro v1 h1 z1 ⟨rfl, rfl, h9, hC9, hO9, e1⟩
    have hR1 : RefS X h1 (o + 162) pl n0 f P L day car err t := hR.eqm (fun x _ _ => by rw [e1, gset_ne (by omega)]; exact hO9 x (by omega)) (fun x _ _ => by rw [e1, gset_ne (by omega)]; exact hO9 x (by omega))
    have hC1 := hC9.eqo (h' := h1) (fun x _ _ => by rw [e1, gset_ne (by omega)])
    have hw1 := (congrFun e1 (o + 187)).trans gset_same
    obtain ⟨fr1, hm1⟩ := hR1.at
    have hM := fun z0 => mR_passDays (z := z0) (nI k0) hR1
    rw [hkk] at hM
    refine g_istore dL_law_1514 (by decide) rfl ?_
    refine g_aload_n dL_law_1516 rfl ?_
    refine g_aload_n dL_law_1517 rfl ?_
    refine g_iload dL_law_1518 rfl ?_
    refine g_iconst (nI 1) dL_law_1520 (by decide) ?_
    first | refine g_iaddN dL_law_1521 ?_ | refine g_iadd dL_law_1521 ?_
    refine g_tald (j := i + 1) hT (by omega) (by omega) dL_law_1522 ?_
    rw [hp]
    refine g_callV0 kL_205 (hM _) hm1 rfl rfl rfl (Nat.le_of_ble_eq_true rfl) (by decide) (by decide) (by (try dsimp only); omega) (by (try dsimp only); omega) dL_law_1523 ?_
    rintro v1 h2 z1 ⟨rfl, rfl, hR2, hO2⟩
    rw [if_pos hc2]
    rw [if_pos hc2, if_pos hc2, if_pos hc2, if_pos hc2] at hR2
    have hC2 := hC1.eqo (fun x _ _ => hO2 x (by omega) (by omega) (by omega))
    have hw2 := (hO2 (o + 187) (by omega) (by omega) (by omega)).trans hw1
    obtain ⟨fr2, hm2⟩ := hR2.at
    refine g_istore dL_law_1526 (by decide) rfl ?_
    refine g_aload_n dL_law_1528 rfl ?_
    refine g_callV0 kL_95 (mR_thrown hR2) hm2 rfl rfl rfl (Nat.le_of_ble_eq_true rfl) (by decide) (by decide) (by (try dsimp only); omega) (by (try dsimp only); omega) dL_law_1529 ?_
    rintro v1 h3 z1 ⟨rfl, rfl, rfl⟩
    refine g_iload dL_law_1532 rfl ?_
    refine g_icmp_eq 1539 dL_law_1534 (by decide) (fun c_1 => ?_) (fun c_1 => ?_)
    · refine g_iload dL_law_1539 rfl ?_
      refine g_if_ne 1556 dL_law_1541 (by decide) (fun c_2 => ?_) (fun c_2 => ?_)
      · exact absurd rfl c_2
      · refine g_aload_n dL_law_1544 rfl ?_
        refine g_iconst (nI 0) dL_law_1545 (by decide) ?_
        refine g_laldN (j := 0) hw2 (by decide) (by decide) dL_law_1546 ?_
        rw [vpL_same]
        refine g_iload dL_law_1547 rfl ?_
        refine g_i2l dL_law_1549 ?_
        refine g_lcmp dL_law_1550 ?_
        rw [lcmp_self]
        refine g_if_eq 1556 dL_law_1551 (by decide) (fun c_3 => ?_) (fun c_3 => ?_)
        · refine g_goto 1739 dL_law_1556 (by decide) ?_
          exact KK _ _ _ _ _ _ _ _ ⟨pl, n0, f, P, _, _, _, err, 0, _, hC2, hR2, hw2, by omega, by omega, hpl⟩ (by (try dsimp only); omega) (by (try dsimp only); omega)
        · exact absurd rfl c_3
    · exact absurd rfl c_1
  · refine g_aload_n dL_law_1503 rfl ?_
    refine g_aload_n dL_law_1504 rfl ?_
    refine g_iload dL_law_1505 rfl ?_
    refine g_iconst (nI 1) dL_law_1507 (by decide) ?_
    first | refine g_iaddN dL_law_1508 ?_ | refine g_iadd dL_law_1508 ?_
    refine g_tald (j := i + 1) hT (by omega) (by omega) dL_law_1509 ?_
    rw [hp]
    refine g_aload_n dL_law_1510 rfl ?_
    refine g_callSH kw_passDays (wX_passDays p h0 (m10_passDaysX p hc hTh hC)) rfl rfl (Nat.le_of_ble_eq_true rfl) (by decide) (by decide) (by (try dsimp only); omega) (by (try dsimp only); omega) dL_law_1511 ?_
    rintro v1 h1 z1 ⟨rfl, rfl, hz9⟩
    have hM := fun z0 => mR_passDays (z := z0) p hR
    refine g_istore dL_law_1514 (by decide) rfl ?_
    refine g_aload_n dL_law_1516 rfl ?_
    refine g_aload_n dL_law_1517 rfl ?_
    refine g_iload dL_law_1518 rfl ?_
    refine g_iconst (nI 1) dL_law_1520 (by decide) ?_
    first | refine g_iaddN dL_law_1521 ?_ | refine g_iadd dL_law_1521 ?_
    refine g_tald (j := i + 1) hT (by omega) (by omega) dL_law_1522 ?_
    rw [hp]
    refine g_callV0 kL_205 (hM _) hm rfl rfl rfl (Nat.le_of_ble_eq_true rfl) (by decide) (by decide) (by (try dsimp only); omega) (by (try dsimp only); omega) dL_law_1523 ?_
    rintro v1 h2 z1 ⟨rfl, rfl, hR2, hO2⟩
    rw [if_neg hc]
    rw [if_neg hc, if_neg hc, if_neg hc, if_neg hc] at hR2
    have hC2 := hC.eqo (fun x _ _ => hO2 x (by omega) (by omega) (by omega))
    have hw2 := (hO2 (o + 187) (by omega) (by omega) (by omega)).trans hw
    obtain ⟨fr2, hm2⟩ := hR2.at
    refine g_istore dL_law_1526 (by decide) rfl ?_
    refine g_aload_n dL_law_1528 rfl ?_
    refine g_callV0 kL_95 (mR_thrown hR2) hm2 rfl rfl rfl (Nat.le_of_ble_eq_true rfl) (by decide) (by decide) (by (try dsimp only); omega) (by (try dsimp only); omega) dL_law_1529 ?_
    rintro v1 h3 z1 ⟨rfl, rfl, rfl⟩
    refine g_iload dL_law_1532 rfl ?_
    refine g_icmp_eq 1539 dL_law_1534 (by decide) (fun c_1 => ?_) (fun c_1 => ?_)
    · refine g_iload dL_law_1539 rfl ?_
      refine g_if_ne 1556 dL_law_1541 (by decide) (fun c_2 => ?_) (fun c_2 => ?_)
      · refine g_goto 1739 dL_law_1556 (by decide) ?_
        exact KK _ _ _ _ _ _ _ _ ⟨pl, n0, f, P, L, day, car, err, 1, g, hC2, hR2, hw2, by omega, by omega, hpl⟩ (by (try dsimp only); omega) (by (try dsimp only); omega)
      · exact absurd c_2 (by decide)
    · exact absurd rfl c_1
