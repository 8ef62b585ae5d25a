/-! Squawks: repeats, the end, words -/
/-- as sqR, and they are sorted behind it -/
abbrev sqRS (X : gX) (h : gH) (z a : Nat) (L : List Int32) (v : Int32) : Option Value → gH → Nat → Prop := fun r h' z' => r = some (.int v) ∧ z' = z ∧ SqS X h' a L ∧ OffB h h' a 5

set_option maxRecDepth 100000 in
set_option maxHeartbeats 4000000 in
theorem m5_firstRankOfRepeat {X : gX} {h : gH} {z a : Nat} {L : List Int32} (hL : SqL sqCa X h a L) : gM X yX5_firstRankOfRepeat cX5_firstRankOfRepeat 2 (some .int) (3, 0, 0) [.ref a] h z (sqRS X h z a L (oI (frr L))) gNoX := by
  obtain ⟨c, I, A, hS, hI⟩ := hL
  refine gM.of px5 (Nat.le_of_ble_eq_true rfl) ?_
  intro F hE
  have loop : ∀ (m j : Nat), j + m = max L.length 1 → 1 ≤ j → fstA (frP L) (L.length - 1) 1 = fstA (frP L) m j → ∀ (h1 : gH) (I : Nat → Int32) (A : Nat → Nat → Int32), SqB X h1 a L.length I A → L.length ≤ 40 → (∀ i, i < L.length → A 0 i = lt L i) → I 2 = 1 → sqCa L I A → OffB h h1 a 5 → G X F cX5_firstRankOfRepeat 2 yX5_firstRankOfRepeat.cls (3, 0, 0) 0 0 6 [some (.ref a), some (.int (nI j))] [] h1 z := by
    intro m
    induction m with
    | zero =>
      intro j hj hj1 hf h1 I A hS hn hA hI2 hC hO
      obtain ⟨hC1, hC2, hC3, hC4, hC5⟩ := hC
      have hv : frr L = none := by unfold frr; rw [hf]; rfl
      refine g_iload_n dX5_firstRankOfRepeat_6 rfl ?_
      refine g_aload_n dX5_firstRankOfRepeat_7 rfl ?_
      refine g_getf fl5_27 hS.1 rfl dX5_firstRankOfRepeat_8 ?_
      refine g_icmp_geN 44 dX5_firstRankOfRepeat_11 (by decide) (by omega) (by omega) (fun c_11 => ?_) (fun c_11 => ?_)
      · refine g_iconst (-1) dX5_firstRankOfRepeat_44 (by decide) ?_
        exact g_iret hE rfl (⟨by rw [hv]; rfl, rfl, ⟨_, _, hS, hn, hA, hI2, hC1, hC2, hC3, hC4, hC5⟩, hO⟩) dX5_firstRankOfRepeat_45
      · exact absurd c_11 (by omega)
    | succ m ih =>
      intro j hj hj1 hf h1 I A hS hn hA hI2 hC hO
      obtain ⟨hC1, hC2, hC3, hC4, hC5⟩ := id hC
      have hlo : lon L ≤ L.length := lonU_le (Nat.le_refl _)
      have hs1 := shr_le (L := L) (r := j) (by omega)
      have jf : frP L j = false → G X F cX5_firstRankOfRepeat 2 yX5_firstRankOfRepeat.cls (3, 0, 0) 0 0 38 [some (.ref a), some (.int (nI j))] [] h1 z := by
        intro ht
        refine g_iincN dX5_firstRankOfRepeat_38 rfl (by decide) rfl ?_
        refine g_goto 6 dX5_firstRankOfRepeat_41 (by decide) ?_
        exact ih (j + 1) (by omega) (by omega) (by rw [hf]; show (if frP L j = true then _ else _) = _; rw [if_neg (by rw [ht]; decide)]) h1 I A hS hn hA hI2 hC hO
      refine g_iload_n dX5_firstRankOfRepeat_6 rfl ?_
      refine g_aload_n dX5_firstRankOfRepeat_7 rfl ?_
      refine g_getf fl5_27 hS.1 rfl dX5_firstRankOfRepeat_8 ?_
      refine g_icmp_geN 44 dX5_firstRankOfRepeat_11 (by decide) (by omega) (by omega) (fun c_11 => ?_) (fun c_11 => ?_)
      · exact absurd c_11 (by omega)
      · refine g_aload_n dX5_firstRankOfRepeat_14 rfl ?_
        refine g_getf fl5_58 hS.1 rfl dX5_firstRankOfRepeat_15 ?_
        rw [hC4]
        refine g_if_leN 38 dX5_firstRankOfRepeat_18 (by decide) (by omega) (fun c_18 => ?_) (fun c_18 => ?_)
        · exact jf (by unfold frP; simp; omega)
        · refine g_aload_n dX5_firstRankOfRepeat_21 rfl ?_
          refine g_getf fl5_21 hS.1 rfl dX5_firstRankOfRepeat_22 ?_
          refine g_iload_n dX5_firstRankOfRepeat_25 rfl ?_
          refine g_ialdN (hS.2 3 (by decide)) (by omega) (by decide) dX5_firstRankOfRepeat_26 ?_
          refine g_aload_n dX5_firstRankOfRepeat_27 rfl ?_
          refine g_getf fl5_58 hS.1 rfl dX5_firstRankOfRepeat_28 ?_
          rw [hC3 j (by omega), hC4]
          refine g_icmp_neN 38 dX5_firstRankOfRepeat_31 (by decide) (by omega) (by omega) (fun c_31 => ?_) (fun c_31 => ?_)
          · exact jf (by unfold frP; simp; omega)
          · refine g_iload_n dX5_firstRankOfRepeat_34 rfl ?_
            refine g_iconst (nI 1) dX5_firstRankOfRepeat_35 (by decide) ?_
            first | refine g_isubN dX5_firstRankOfRepeat_36 (by omega) ?_ | refine g_isub dX5_firstRankOfRepeat_36 ?_
            exact g_iret hE rfl (⟨by rw [show frr L = some (j - 1) from by unfold frr; rw [hf]; show Option.map _ (if frP L j = true then _ else _) = _; rw [if_pos (by unfold frP; simp; omega)]; rfl]; rfl, rfl, ⟨_, _, hS, hn, hA, hI2, hC1, hC2, hC3, hC4, hC5⟩, hO⟩) dX5_firstRankOfRepeat_37
  refine g_aload_n dX5_firstRankOfRepeat_0 rfl ?_
  refine g_callV0 kX5_55 (m5_sort ⟨_, _, _, hS, hI⟩) hS.1 rfl rfl rfl (Nat.le_of_ble_eq_true rfl) (by decide) (by decide) (by decide) (by decide) dX5_firstRankOfRepeat_1 ?_
  rintro v1 h1 z1 ⟨rfl, rfl, ⟨I, A, hS, hn, hA, hI2, hC1, hC2, hC3, hC4, hC5⟩, hO⟩
  refine g_iconst (nI 1) dX5_firstRankOfRepeat_4 (by decide) ?_
  refine g_istore_n dX5_firstRankOfRepeat_5 (by decide) rfl ?_
  exact loop (max L.length 1 - 1) 1 (by omega) (Nat.le_refl _) (by rw [show max L.length 1 - 1 = L.length - 1 by omega]) h1 I A hS hn hA hI2 ⟨hC1, hC2, hC3, hC4, hC5⟩ hO
theorem frr_some {L : List Int32} {r : Nat} (h : frr L = some r) : r + 1 < L.length ∧ shr L (r + 1) = lon L ∧ 0 < lon L := by
  unfold frr at h
  cases hf : fstA (frP L) (L.length - 1) 1 with
  | none => rw [hf] at h; cases h
  | some k =>
    rw [hf] at h
    cases h
    obtain ⟨h1, h2, h3, -⟩ := fstA_some.mp hf
    unfold frP at h3
    simp only [decide_eq_true_eq] at h3
    dsimp only
    rw [show k - 1 + 1 = k by omega]
    exact ⟨by omega, h3.2, h3.1⟩
set_option maxRecDepth 100000 in
set_option maxHeartbeats 4000000 in
theorem m5_firstPlaceOfRepeat {X : gX} {h : gH} {z a : Nat} {L : List Int32} (hL : SqL sqCa X h a L) : gM X yX5_firstPlaceOfRepeat cX5_firstPlaceOfRepeat 4 (some .int) (4, 0, 0) [.ref a] h z (sqR X h z a L (rpI L)) gNoX := by
  obtain ⟨c, I, A, hS, hI⟩ := hL
  refine gM.of px5 (Nat.le_of_ble_eq_true rfl) ?_
  intro F hE
  have loop : ∀ (r0 m j x : Nat), j + m = L.length → x < 2 ^ 30 → x ≤ 40 + j → rpA L (L.length - (r0 + 1)) (r0 + 1) (plc L r0) = rpA L m j x → frr L = some r0 → ∀ (h1 : gH) (I : Nat → Int32) (A : Nat → Nat → Int32), SqB X h1 a L.length I A → L.length ≤ 40 → (∀ i, i < L.length → A 0 i = lt L i) → I 2 = 1 → sqCa L I A → OffB h h1 a 5 → G X F cX5_firstPlaceOfRepeat 4 yX5_firstPlaceOfRepeat.cls (4, 0, 0) 0 0 22 [some (.ref a), some (.int (nI r0)), some (.int (nI x)), some (.int (nI j))] [] h1 z := by
    intro r0 m
    induction m with
    | zero =>
      intro j x hj hx hx2 hf hr0 h1 I A hS hn hA hI2 hC hO
      obtain ⟨hC1, hC2, hC3, hC4, hC5⟩ := hC
      refine g_iload_n dX5_firstPlaceOfRepeat_22 rfl ?_
      refine g_aload_n dX5_firstPlaceOfRepeat_23 rfl ?_
      refine g_getf fl5_27 hS.1 rfl dX5_firstPlaceOfRepeat_24 ?_
      refine g_icmp_geN 60 dX5_firstPlaceOfRepeat_27 (by decide) (by omega) (by omega) (fun c_27 => ?_) (fun c_27 => ?_)
      · refine g_iload_n dX5_firstPlaceOfRepeat_60 rfl ?_
        exact g_iret hE rfl (⟨by rw [show rpI L = nI x from by unfold rpI; rw [hr0]; show nI (rpA L (L.length - (r0 + 1)) (r0 + 1) (plc L r0)) = _; rw [hf]; rfl], rfl, SqS.toL ⟨_, _, hS, hn, hA, hI2, hC1, hC2, hC3, hC4, hC5⟩, hO⟩) dX5_firstPlaceOfRepeat_61
      · exact absurd c_27 (by omega)
    | succ m ih =>
      intro j x hj hx hx2 hf hr0 h1 I A hS hn hA hI2 hC hO
      obtain ⟨hC1, hC2, hC3, hC4, hC5⟩ := id hC
      have hlo : lon L ≤ L.length := lonU_le (Nat.le_refl _)
      have hs1 := shr_le (L := L) (r := j) (by omega)
      have hpl := (plc_spec (L := L) (r := j) (by omega)).1
      refine g_iload_n dX5_firstPlaceOfRepeat_22 rfl ?_
      refine g_aload_n dX5_firstPlaceOfRepeat_23 rfl ?_
      refine g_getf fl5_27 hS.1 rfl dX5_firstPlaceOfRepeat_24 ?_
      refine g_icmp_geN 60 dX5_firstPlaceOfRepeat_27 (by decide) (by omega) (by omega) (fun c_27 => ?_) (fun c_27 => ?_)
      · exact absurd c_27 (by omega)
      · refine g_aload_n dX5_firstPlaceOfRepeat_30 rfl ?_
        refine g_getf fl5_21 hS.1 rfl dX5_firstPlaceOfRepeat_31 ?_
        refine g_iload_n dX5_firstPlaceOfRepeat_34 rfl ?_
        refine g_ialdN (hS.2 3 (by decide)) (by omega) (by decide) dX5_firstPlaceOfRepeat_35 ?_
        refine g_aload_n dX5_firstPlaceOfRepeat_36 rfl ?_
        refine g_getf fl5_58 hS.1 rfl dX5_firstPlaceOfRepeat_37 ?_
        rw [hC3 j (by omega), hC4]
        refine g_icmp_ltN 60 dX5_firstPlaceOfRepeat_40 (by decide) (by omega) (by omega) (fun c_40 => ?_) (fun c_40 => ?_)
        · refine g_iload_n dX5_firstPlaceOfRepeat_60 rfl ?_
          exact g_iret hE rfl (⟨by rw [show rpI L = nI x from by unfold rpI; rw [hr0]; show nI (rpA L (L.length - (r0 + 1)) (r0 + 1) (plc L r0)) = _; rw [hf]; show nI (if lon L ≤ shr L j then _ else _) = _; rw [if_neg (by omega)]], rfl, SqS.toL ⟨_, _, hS, hn, hA, hI2, hC1, hC2, hC3, hC4, hC5⟩, hO⟩) dX5_firstPlaceOfRepeat_61
        · refine g_iload_n dX5_firstPlaceOfRepeat_43 rfl ?_
          refine g_aload_n dX5_firstPlaceOfRepeat_44 rfl ?_
          refine g_getf fl5_18 hS.1 rfl dX5_firstPlaceOfRepeat_45 ?_
          refine g_iload_n dX5_firstPlaceOfRepeat_48 rfl ?_
          refine g_ialdN (hS.2 2 (by decide)) (by omega) (by decide) dX5_firstPlaceOfRepeat_49 ?_
          rw [hC2 j (by omega)]
          refine gmin wmath_min wlX5_46 (by decide) (by decide) (by decide) (by decide) dX5_firstPlaceOfRepeat_50 ?_
          rw [nI_min (by omega) (by omega)]
          refine g_istore_n dX5_firstPlaceOfRepeat_53 (by decide) rfl ?_
          refine g_iincN dX5_firstPlaceOfRepeat_54 rfl (by decide) rfl ?_
          refine g_goto 22 dX5_firstPlaceOfRepeat_57 (by decide) ?_
          refine ih (j + 1) (min x (plc L j)) (by omega) (by omega) (by omega) (by rw [hf]; show (if lon L ≤ shr L j then _ else _) = _; rw [if_pos (by omega)]) hr0 h1 I A hS hn hA hI2 hC hO
  refine g_aload_n dX5_firstPlaceOfRepeat_0 rfl ?_
  refine g_callV0 kX5_64 (m5_firstRankOfRepeat ⟨_, _, _, hS, hI⟩) hS.1 rfl rfl rfl (Nat.le_of_ble_eq_true rfl) (by decide) (by decide) (by decide) (by decide) dX5_firstPlaceOfRepeat_1 ?_
  rintro v1 h1 z1 ⟨rfl, rfl, ⟨I, A, hS, hn, hA, hI2, hC1, hC2, hC3, hC4, hC5⟩, hO⟩
  cases hr : frr L with
  | none =>
    show G X F _ _ _ _ _ _ _ _ (.int (-1) :: []) _ _
    refine g_istore_n dX5_firstPlaceOfRepeat_4 (by decide) rfl ?_
    refine g_iload_n dX5_firstPlaceOfRepeat_5 rfl ?_
    refine g_if_ge 11 dX5_firstPlaceOfRepeat_6 (by decide) (fun c_6 => absurd c_6 (by decide)) (fun c_6 => ?_)
    refine g_iconst (-1) dX5_firstPlaceOfRepeat_9 (by decide) ?_
    exact g_iret hE rfl (⟨by rw [show rpI L = -1 from by unfold rpI; rw [hr]], rfl, SqS.toL ⟨_, _, hS, hn, hA, hI2, hC1, hC2, hC3, hC4, hC5⟩, hO⟩) dX5_firstPlaceOfRepeat_10
  | some r0 =>
    have hr0 := frr_some hr
    have hpl := (plc_spec (L := L) (r := r0) (by omega)).1
    show G X F _ _ _ _ _ _ _ _ (.int (nI r0) :: []) _ _
    refine g_istore_n dX5_firstPlaceOfRepeat_4 (by decide) rfl ?_
    refine g_iload_n dX5_firstPlaceOfRepeat_5 rfl ?_
    refine g_if_geN 11 dX5_firstPlaceOfRepeat_6 (by decide) (by omega) ?_
    refine g_aload_n dX5_firstPlaceOfRepeat_11 rfl ?_
    refine g_getf fl5_18 hS.1 rfl dX5_firstPlaceOfRepeat_12 ?_
    refine g_iload_n dX5_firstPlaceOfRepeat_15 rfl ?_
    refine g_ialdN (hS.2 2 (by decide)) (by omega) (by decide) dX5_firstPlaceOfRepeat_16 ?_
    rw [hC2 r0 (by omega)]
    refine g_istore_n dX5_firstPlaceOfRepeat_17 (by decide) rfl ?_
    refine g_iload_n dX5_firstPlaceOfRepeat_18 rfl ?_
    refine g_iconst (nI 1) dX5_firstPlaceOfRepeat_19 (by decide) ?_
    first | refine g_iaddN dX5_firstPlaceOfRepeat_20 ?_ | refine g_iadd dX5_firstPlaceOfRepeat_20 ?_
    refine g_istore_n dX5_firstPlaceOfRepeat_21 (by decide) rfl ?_
    exact loop r0 (L.length - (r0 + 1)) (r0 + 1) (plc L r0) (by omega) (by omega) (by omega) rfl hr h1 I A hS hn hA hI2 ⟨hC1, hC2, hC3, hC4, hC5⟩ hO
set_option maxRecDepth 100000 in
set_option maxHeartbeats 4000000 in
theorem m5_placesOfRepeat {X : gX} {h : gH} {z a : Nat} {L : List Int32} (hL : SqL sqCa X h a L) : gM X yX5_placesOfRepeat cX5_placesOfRepeat 4 (some .int) (4, 0, 0) [.ref a] h z (sqR X h z a L (nI (rcI L))) gNoX := by
  obtain ⟨c, I, A, hS, hI⟩ := hL
  refine gM.of px5 (Nat.le_of_ble_eq_true rfl) ?_
  intro F hE
  have loop : ∀ (r0 m j x : Nat), j + m = L.length → x < 2 ^ 30 → x ≤ 40 + j → rcA L (L.length - (r0 + 1)) (r0 + 1) (1) = rcA L m j x → frr L = some r0 → ∀ (h1 : gH) (I : Nat → Int32) (A : Nat → Nat → Int32), SqB X h1 a L.length I A → L.length ≤ 40 → (∀ i, i < L.length → A 0 i = lt L i) → I 2 = 1 → sqCa L I A → OffB h h1 a 5 → G X F cX5_placesOfRepeat 4 yX5_placesOfRepeat.cls (4, 0, 0) 0 0 17 [some (.ref a), some (.int (nI r0)), some (.int (nI x)), some (.int (nI j))] [] h1 z := by
    intro r0 m
    induction m with
    | zero =>
      intro j x hj hx hx2 hf hr0 h1 I A hS hn hA hI2 hC hO
      obtain ⟨hC1, hC2, hC3, hC4, hC5⟩ := hC
      refine g_iload_n dX5_placesOfRepeat_17 rfl ?_
      refine g_aload_n dX5_placesOfRepeat_18 rfl ?_
      refine g_getf fl5_27 hS.1 rfl dX5_placesOfRepeat_19 ?_
      refine g_icmp_geN 47 dX5_placesOfRepeat_22 (by decide) (by omega) (by omega) (fun c_22 => ?_) (fun c_22 => ?_)
      · refine g_iload_n dX5_placesOfRepeat_47 rfl ?_
        exact g_iret hE rfl (⟨by rw [show rcI L = x from by unfold rcI; rw [hr0]; show rcA L (L.length - (r0 + 1)) (r0 + 1) 1 = _; rw [hf]; rfl], rfl, SqS.toL ⟨_, _, hS, hn, hA, hI2, hC1, hC2, hC3, hC4, hC5⟩, hO⟩) dX5_placesOfRepeat_48
      · exact absurd c_22 (by omega)
    | succ m ih =>
      intro j x hj hx hx2 hf hr0 h1 I A hS hn hA hI2 hC hO
      obtain ⟨hC1, hC2, hC3, hC4, hC5⟩ := id hC
      have hlo : lon L ≤ L.length := lonU_le (Nat.le_refl _)
      have hs1 := shr_le (L := L) (r := j) (by omega)
      have hpl := (plc_spec (L := L) (r := j) (by omega)).1
      refine g_iload_n dX5_placesOfRepeat_17 rfl ?_
      refine g_aload_n dX5_placesOfRepeat_18 rfl ?_
      refine g_getf fl5_27 hS.1 rfl dX5_placesOfRepeat_19 ?_
      refine g_icmp_geN 47 dX5_placesOfRepeat_22 (by decide) (by omega) (by omega) (fun c_22 => ?_) (fun c_22 => ?_)
      · exact absurd c_22 (by omega)
      · refine g_aload_n dX5_placesOfRepeat_25 rfl ?_
        refine g_getf fl5_21 hS.1 rfl dX5_placesOfRepeat_26 ?_
        refine g_iload_n dX5_placesOfRepeat_29 rfl ?_
        refine g_ialdN (hS.2 3 (by decide)) (by omega) (by decide) dX5_placesOfRepeat_30 ?_
        refine g_aload_n dX5_placesOfRepeat_31 rfl ?_
        refine g_getf fl5_58 hS.1 rfl dX5_placesOfRepeat_32 ?_
        rw [hC3 j (by omega), hC4]
        refine g_icmp_ltN 47 dX5_placesOfRepeat_35 (by decide) (by omega) (by omega) (fun c_35 => ?_) (fun c_35 => ?_)
        · refine g_iload_n dX5_placesOfRepeat_47 rfl ?_
          exact g_iret hE rfl (⟨by rw [show rcI L = x from by unfold rcI; rw [hr0]; show rcA L (L.length - (r0 + 1)) (r0 + 1) 1 = _; rw [hf]; show (if lon L ≤ shr L j then _ else _) = _; rw [if_neg (by omega)]], rfl, SqS.toL ⟨_, _, hS, hn, hA, hI2, hC1, hC2, hC3, hC4, hC5⟩, hO⟩) dX5_placesOfRepeat_48
        · refine g_iincN dX5_placesOfRepeat_38 rfl (by decide) rfl ?_
          refine g_iincN dX5_placesOfRepeat_41 rfl (by decide) rfl ?_
          refine g_goto 17 dX5_placesOfRepeat_44 (by decide) ?_
          refine ih (j + 1) (x + 1) (by omega) (by omega) (by omega) (by rw [hf]; show (if lon L ≤ shr L j then _ else _) = _; rw [if_pos (by omega)]) hr0 h1 I A hS hn hA hI2 hC hO
  refine g_aload_n dX5_placesOfRepeat_0 rfl ?_
  refine g_callV0 kX5_64 (m5_firstRankOfRepeat ⟨_, _, _, hS, hI⟩) hS.1 rfl rfl rfl (Nat.le_of_ble_eq_true rfl) (by decide) (by decide) (by decide) (by decide) dX5_placesOfRepeat_1 ?_
  rintro v1 h1 z1 ⟨rfl, rfl, ⟨I, A, hS, hn, hA, hI2, hC1, hC2, hC3, hC4, hC5⟩, hO⟩
  cases hr : frr L with
  | none =>
    show G X F _ _ _ _ _ _ _ _ (.int (-1) :: []) _ _
    refine g_istore_n dX5_placesOfRepeat_4 (by decide) rfl ?_
    refine g_iload_n dX5_placesOfRepeat_5 rfl ?_
    refine g_if_ge 11 dX5_placesOfRepeat_6 (by decide) (fun c_6 => absurd c_6 (by decide)) (fun c_6 => ?_)
    refine g_iconst (nI 0) dX5_placesOfRepeat_9 (by decide) ?_
    exact g_iret hE rfl (⟨by rw [show rcI L = 0 from by unfold rcI; rw [hr]], rfl, SqS.toL ⟨_, _, hS, hn, hA, hI2, hC1, hC2, hC3, hC4, hC5⟩, hO⟩) dX5_placesOfRepeat_10
  | some r0 =>
    have hr0 := frr_some hr
    have hpl := (plc_spec (L := L) (r := r0) (by omega)).1
    show G X F _ _ _ _ _ _ _ _ (.int (nI r0) :: []) _ _
    refine g_istore_n dX5_placesOfRepeat_4 (by decide) rfl ?_
    refine g_iload_n dX5_placesOfRepeat_5 rfl ?_
    refine g_if_geN 11 dX5_placesOfRepeat_6 (by decide) (by omega) ?_
    refine g_iconst (nI 1) dX5_placesOfRepeat_11 (by decide) ?_
    refine g_istore_n dX5_placesOfRepeat_12 (by decide) rfl ?_
    refine g_iload_n dX5_placesOfRepeat_13 rfl ?_
    refine g_iconst (nI 1) dX5_placesOfRepeat_14 (by decide) ?_
    first | refine g_iaddN dX5_placesOfRepeat_15 ?_ | refine g_iadd dX5_placesOfRepeat_15 ?_
    refine g_istore_n dX5_placesOfRepeat_16 (by decide) rfl ?_
    exact loop r0 (L.length - (r0 + 1)) (r0 + 1) (1) (by omega) (by omega) (by omega) rfl hr h1 I A hS hn hA hI2 ⟨hC1, hC2, hC3, hC4, hC5⟩ hO
