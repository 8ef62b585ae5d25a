/-! Squawks: the end, words in them, halving -/

set_option maxRecDepth 100000 in
set_option maxHeartbeats 4000000 in
theorem m5_standsAt {X : gX} {h : gH} {z a w : Nat} {C : sqC} {L W : List Int32} (p : Nat) (hp : p ≤ L.length) (hL : SqL C X h a L) (hW : WdL X h w W) : gM X yX5_standsAt cX5_standsAt 4 (some .boolean) (1, 0, 0) [.ref a, .ref w, .int (nI p)] h z (pR h z (b2i (stands L W p))) gNoX := by
  obtain ⟨c, I, A, hS, rfl, hn, hA, -⟩ := hL
  obtain ⟨f, hWB, hw10, hf⟩ := hW
  refine gM.of px5 (Nat.le_of_ble_eq_true rfl) ?_
  intro F hE
  have loop : ∀ (m j : Nat), j + m = W.length → p + W.length ≤ L.length → (∀ i, i < j → lt L (p + i) = lt W i) → G X F cX5_standsAt 4 yX5_standsAt.cls (1, 0, 0) 0 0 21 [some (.ref a), some (.ref w), some (.int (nI p)), some (.int (nI j))] [] h z := by
    intro m
    induction m with
    | zero =>
      intro j hj hpw hm
      refine g_iload_n dX5_standsAt_21 rfl ?_
      refine g_aload_n dX5_standsAt_22 rfl ?_
      refine g_getf fl5_39 hWB.1 rfl dX5_standsAt_23 ?_
      refine g_icmp_geN 54 dX5_standsAt_26 (by decide) (by omega) (by omega) (fun c_26 => ?_) (fun c_26 => ?_)
      · refine g_iconst (nI 1) dX5_standsAt_54 (by decide) ?_
        exact g_iret hE rfl (⟨by rw [b2i_t (show stands L W p = true from decide_eq_true ⟨hpw, fun i hi => hm i (by omega)⟩)]; rfl, rfl, rfl⟩) dX5_standsAt_55
      · exact absurd c_26 (by omega)
    | succ m ih =>
      intro j hj hpw hm
      refine g_iload_n dX5_standsAt_21 rfl ?_
      refine g_aload_n dX5_standsAt_22 rfl ?_
      refine g_getf fl5_39 hWB.1 rfl dX5_standsAt_23 ?_
      refine g_icmp_geN 54 dX5_standsAt_26 (by decide) (by omega) (by omega) (fun c_26 => ?_) (fun c_26 => ?_)
      · exact absurd c_26 (by omega)
      · refine g_aload_n dX5_standsAt_29 rfl ?_
        refine g_getf fl5_9 hS.1 rfl dX5_standsAt_30 ?_
        refine g_iload_n dX5_standsAt_33 rfl ?_
        refine g_iload_n dX5_standsAt_34 rfl ?_
        first | refine g_iaddN dX5_standsAt_35 ?_ | refine g_iadd dX5_standsAt_35 ?_
        refine g_ialdN (hS.2 0 (by decide)) (by omega) (by decide) dX5_standsAt_36 ?_
        refine g_aload_n dX5_standsAt_37 rfl ?_
        refine g_getf fl5_42 hWB.1 rfl dX5_standsAt_38 ?_
        refine g_iload_n dX5_standsAt_41 rfl ?_
        refine g_ialdN (hWB.2) (by omega) (by decide) dX5_standsAt_42 ?_
        rw [hA _ (by omega), hf _ (by omega)]
        refine g_icmp_eq 48 dX5_standsAt_43 (by decide) (fun c_43 => ?_) (fun c_43 => ?_)
        · refine g_iincN dX5_standsAt_48 rfl (by decide) rfl ?_
          refine g_goto 21 dX5_standsAt_51 (by decide) ?_
          refine ih (j + 1) (by omega) hpw (fun i hi => ?_)
          by_cases e : i = j
          · subst e; exact c_43
          · exact hm i (by omega)
        · refine g_iconst (nI 0) dX5_standsAt_46 (by decide) ?_
          exact g_iret hE rfl (⟨by rw [b2i_f (show stands L W p = false from decide_eq_false (fun x => c_43 (x.2 j (by omega))))]; rfl, rfl, rfl⟩) dX5_standsAt_47
  refine g_iload_n dX5_standsAt_0 rfl ?_
  refine g_if_ltN 17 dX5_standsAt_1 (by decide) (by omega) ?_
  refine g_iload_n dX5_standsAt_4 rfl ?_
  refine g_aload_n dX5_standsAt_5 rfl ?_
  refine g_getf fl5_39 hWB.1 rfl dX5_standsAt_6 ?_
  first | refine g_iaddN dX5_standsAt_9 ?_ | refine g_iadd dX5_standsAt_9 ?_
  refine g_aload_n dX5_standsAt_10 rfl ?_
  refine g_getf fl5_27 hS.1 rfl dX5_standsAt_11 ?_
  refine g_icmp_leN 19 dX5_standsAt_14 (by decide) (by omega) (by omega) (fun c_14 => ?_) (fun c_14 => ?_)
  · refine g_iconst (nI 0) dX5_standsAt_19 (by decide) ?_
    refine g_istore_n dX5_standsAt_20 (by decide) rfl ?_
    exact loop W.length 0 (by omega) c_14 (fun i hi => absurd hi (Nat.not_lt_zero _))
  · refine g_iconst (nI 0) dX5_standsAt_17 (by decide) ?_
    exact g_iret hE rfl (⟨by rw [b2i_f (show stands L W p = false from decide_eq_false (fun x => c_14 x.1))]; rfl, rfl, rfl⟩) dX5_standsAt_18
set_option maxRecDepth 100000 in
set_option maxHeartbeats 4000000 in
theorem m5_isAheadOf {X : gX} {h : gH} {z a w : Nat} {C : sqC} {L W : List Int32} (p : Nat) (hp : p ≤ L.length) (hL : SqL C X h a L) (hW : WdL X h w W) : gM X yX5_isAheadOf cX5_isAheadOf 4 (some .boolean) (1, 0, 0) [.ref a, .ref w, .int (nI p)] h z (pR h z (b2i (abf L W p))) gNoX := by
  obtain ⟨c, I, A, hS, rfl, hn, hA, -⟩ := hL
  obtain ⟨f, hWB, hw10, hf⟩ := hW
  refine gM.of px5 (Nat.le_of_ble_eq_true rfl) ?_
  intro F hE
  have loop : ∀ (m j : Nat), j + m = W.length → abf L W p = abfA L W p m j → G X F cX5_isAheadOf 4 yX5_isAheadOf.cls (1, 0, 0) 0 0 2 [some (.ref a), some (.ref w), some (.int (nI p)), some (.int (nI j))] [] h z := by
    intro m
    induction m with
    | zero =>
      intro j hj hm
      refine g_iload_n dX5_isAheadOf_2 rfl ?_
      refine g_aload_n dX5_isAheadOf_3 rfl ?_
      refine g_getf fl5_39 hWB.1 rfl dX5_isAheadOf_4 ?_
      refine g_icmp_geN 68 dX5_isAheadOf_7 (by decide) (by omega) (by omega) (fun c_7 => ?_) (fun c_7 => ?_)
      · refine g_iconst (nI 0) dX5_isAheadOf_68 (by decide) ?_
        exact g_iret hE rfl (⟨by rw [b2i_f (show abf L W p = false from hm)]; rfl, rfl, rfl⟩) dX5_isAheadOf_69
      · exact absurd c_7 (by omega)
    | succ m ih =>
      intro j hj hm
      have hm2 : abf L W p = if L.length ≤ p + j then true else if lt L (p + j) = lt W j then abfA L W p m (j + 1) else decide (lt L (p + j) < lt W j) := hm
      refine g_iload_n dX5_isAheadOf_2 rfl ?_
      refine g_aload_n dX5_isAheadOf_3 rfl ?_
      refine g_getf fl5_39 hWB.1 rfl dX5_isAheadOf_4 ?_
      refine g_icmp_geN 68 dX5_isAheadOf_7 (by decide) (by omega) (by omega) (fun c_7 => ?_) (fun c_7 => ?_)
      · exact absurd c_7 (by omega)
      · refine g_iload_n dX5_isAheadOf_10 rfl ?_
        refine g_iload_n dX5_isAheadOf_11 rfl ?_
        first | refine g_iaddN dX5_isAheadOf_12 ?_ | refine g_iadd dX5_isAheadOf_12 ?_
        refine g_aload_n dX5_isAheadOf_13 rfl ?_
        refine g_getf fl5_27 hS.1 rfl dX5_isAheadOf_14 ?_
        refine g_icmp_ltN 22 dX5_isAheadOf_17 (by decide) (by omega) (by omega) (fun c_17 => ?_) (fun c_17 => ?_)
        · refine g_aload_n dX5_isAheadOf_22 rfl ?_
          refine g_getf fl5_9 hS.1 rfl dX5_isAheadOf_23 ?_
          refine g_iload_n dX5_isAheadOf_26 rfl ?_
          refine g_iload_n dX5_isAheadOf_27 rfl ?_
          first | refine g_iaddN dX5_isAheadOf_28 ?_ | refine g_iadd dX5_isAheadOf_28 ?_
          refine g_ialdN (hS.2 0 (by decide)) (by omega) (by decide) dX5_isAheadOf_29 ?_
          refine g_aload_n dX5_isAheadOf_30 rfl ?_
          refine g_getf fl5_42 hWB.1 rfl dX5_isAheadOf_31 ?_
          refine g_iload_n dX5_isAheadOf_34 rfl ?_
          refine g_ialdN (hWB.2) (by omega) (by decide) dX5_isAheadOf_35 ?_
          rw [hA _ (by omega), hf _ (by omega)]
          refine g_icmp_eq 62 dX5_isAheadOf_36 (by decide) (fun c_36 => ?_) (fun c_36 => ?_)
          · refine g_iincN dX5_isAheadOf_62 rfl (by decide) rfl ?_
            refine g_goto 2 dX5_isAheadOf_65 (by decide) ?_
            exact ih (j + 1) (by omega) (by rw [hm2, if_neg (by omega), if_pos c_36])
          · refine g_aload_n dX5_isAheadOf_39 rfl ?_
            refine g_getf fl5_9 hS.1 rfl dX5_isAheadOf_40 ?_
            refine g_iload_n dX5_isAheadOf_43 rfl ?_
            refine g_iload_n dX5_isAheadOf_44 rfl ?_
            first | refine g_iaddN dX5_isAheadOf_45 ?_ | refine g_iadd dX5_isAheadOf_45 ?_
            refine g_ialdN (hS.2 0 (by decide)) (by omega) (by decide) dX5_isAheadOf_46 ?_
            refine g_aload_n dX5_isAheadOf_47 rfl ?_
            refine g_getf fl5_42 hWB.1 rfl dX5_isAheadOf_48 ?_
            refine g_iload_n dX5_isAheadOf_51 rfl ?_
            refine g_ialdN (hWB.2) (by omega) (by decide) dX5_isAheadOf_52 ?_
            rw [hA _ (by omega), hf _ (by omega)]
            refine g_icmp_ge 60 dX5_isAheadOf_53 (by decide) (fun c_53 => ?_) (fun c_53 => ?_)
            · refine g_iconst (nI 0) dX5_isAheadOf_60 (by decide) ?_
              exact g_iret hE rfl (⟨by rw [b2i_f (show abf L W p = false from by rw [hm2, if_neg (by omega), if_neg c_36]; exact decide_eq_false (by simp only [Int32.lt_iff_toInt_lt, Int32.le_iff_toInt_le] at *; omega))]; rfl, rfl, rfl⟩) dX5_isAheadOf_61
            · refine g_iconst (nI 1) dX5_isAheadOf_56 (by decide) ?_
              refine g_goto 61 dX5_isAheadOf_57 (by decide) ?_
              exact g_iret hE rfl (⟨by rw [b2i_t (show abf L W p = true from by rw [hm2, if_neg (by omega), if_neg c_36]; exact decide_eq_true (by simp only [Int32.lt_iff_toInt_lt, Int32.le_iff_toInt_le] at *; omega))]; rfl, rfl, rfl⟩) dX5_isAheadOf_61
        · refine g_iconst (nI 1) dX5_isAheadOf_20 (by decide) ?_
          exact g_iret hE rfl (⟨by rw [b2i_t (show abf L W p = true from by rw [hm2, if_pos (by omega)])]; rfl, rfl, rfl⟩) dX5_isAheadOf_21
  refine g_iconst (nI 0) dX5_isAheadOf_0 (by decide) ?_
  refine g_istore_n dX5_isAheadOf_1 (by decide) rfl ?_
  exact loop W.length 0 (by omega) rfl
set_option maxRecDepth 100000 in
set_option maxHeartbeats 4000000 in
theorem m5_firstPlaceWith {X : gX} {h : gH} {z a w : Nat} {C : sqC} {L W : List Int32} (hL : SqL C X h a L) (hW : WdL X h w W) : gM X yX5_firstPlaceWith cX5_firstPlaceWith 3 (some .int) (2, 0, 0) [.ref a, .ref w] h z (pR h z (oI (fstA (stands L W) L.length 0))) gNoX := by
  have hL0 := id hL
  have hW0 := id hW
  obtain ⟨c, I, A, hS, rfl, hn, hA, -⟩ := hL
  obtain ⟨f, hWB, hw10, hf⟩ := hW
  refine gM.of px5 (Nat.le_of_ble_eq_true rfl) ?_
  intro F hE
  have loop : ∀ (m j : Nat), j + m = L.length → fstA (stands L W) L.length 0 = fstA (stands L W) m j → G X F cX5_firstPlaceWith 3 yX5_firstPlaceWith.cls (2, 0, 0) 0 0 2 [some (.ref a), some (.ref w), some (.int (nI j))] [] h z := by
    intro m
    induction m with
    | zero =>
      intro j hj hm
      refine g_iload_n dX5_firstPlaceWith_2 rfl ?_
      refine g_aload_n dX5_firstPlaceWith_3 rfl ?_
      refine g_getf fl5_27 hS.1 rfl dX5_firstPlaceWith_4 ?_
      refine g_icmp_geN 27 dX5_firstPlaceWith_7 (by decide) (by omega) (by omega) (fun c_7 => ?_) (fun c_7 => ?_)
      · refine g_iconst (-1) dX5_firstPlaceWith_27 (by decide) ?_
        exact g_iret hE rfl (⟨by rw [hm]; rfl, rfl, rfl⟩) dX5_firstPlaceWith_28
      · exact absurd c_7 (by omega)
    | succ m ih =>
      intro j hj hm
      have hm2 : fstA (stands L W) L.length 0 = if stands L W j = true then some j else fstA (stands L W) m (j + 1) := hm
      refine g_iload_n dX5_firstPlaceWith_2 rfl ?_
      refine g_aload_n dX5_firstPlaceWith_3 rfl ?_
      refine g_getf fl5_27 hS.1 rfl dX5_firstPlaceWith_4 ?_
      refine g_icmp_geN 27 dX5_firstPlaceWith_7 (by decide) (by omega) (by omega) (fun c_7 => ?_) (fun c_7 => ?_)
      · exact absurd c_7 (by omega)
      · refine g_aload_n dX5_firstPlaceWith_10 rfl ?_
        refine g_aload_n dX5_firstPlaceWith_11 rfl ?_
        refine g_iload_n dX5_firstPlaceWith_12 rfl ?_
        refine g_callV0 kX5_72 (m5_standsAt j (by omega) hL0 hW0) hS.1 rfl rfl rfl (Nat.le_of_ble_eq_true rfl) (by decide) (by decide) (by decide) (by decide) dX5_firstPlaceWith_13 ?_
        rintro v2 h2 z2 ⟨rfl, rfl, rfl⟩
        refine g_if_eqB 21 dX5_firstPlaceWith_16 (by decide) (fun c_16 => ?_) (fun c_16 => ?_)
        · refine g_iincN dX5_firstPlaceWith_21 rfl (by decide) rfl ?_
          refine g_goto 2 dX5_firstPlaceWith_24 (by decide) ?_
          exact ih (j + 1) (by omega) (by rw [hm2, if_neg (by rw [c_16]; decide)])
        · refine g_iload_n dX5_firstPlaceWith_19 rfl ?_
          exact g_iret hE rfl (⟨by rw [hm2, if_pos c_16]; rfl, rfl, rfl⟩) dX5_firstPlaceWith_20
  refine g_iconst (nI 0) dX5_firstPlaceWith_0 (by decide) ?_
  refine g_istore_n dX5_firstPlaceWith_1 (by decide) rfl ?_
  exact loop L.length 0 (by omega) rfl
set_option maxRecDepth 100000 in
set_option maxHeartbeats 4000000 in
theorem m5_placesWith {X : gX} {h : gH} {z a w : Nat} {C : sqC} {L W : List Int32} (hL : SqL C X h a L) (hW : WdL X h w W) : gM X yX5_placesWith cX5_placesWith 4 (some .int) (2, 0, 0) [.ref a, .ref w] h z (pR h z (nI (cnt (stands L W) L.length))) gNoX := by
  have hL0 := id hL
  have hW0 := id hW
  obtain ⟨c, I, A, hS, rfl, hn, hA, -⟩ := hL
  obtain ⟨f, hWB, hw10, hf⟩ := hW
  refine gM.of px5 (Nat.le_of_ble_eq_true rfl) ?_
  intro F hE
  have loop : ∀ (m j : Nat), j + m = L.length → G X F cX5_placesWith 4 yX5_placesWith.cls (2, 0, 0) 0 0 4 [some (.ref a), some (.ref w), some (.int (nI (cnt (stands L W) j))), some (.int (nI j))] [] h z := by
    intro m
    induction m with
    | zero =>
      intro j hj
      refine g_iload_n dX5_placesWith_4 rfl ?_
      refine g_aload_n dX5_placesWith_5 rfl ?_
      refine g_getf fl5_27 hS.1 rfl dX5_placesWith_6 ?_
      refine g_icmp_geN 30 dX5_placesWith_9 (by decide) (by omega) (by omega) (fun c_9 => ?_) (fun c_9 => ?_)
      · refine g_iload_n dX5_placesWith_30 rfl ?_
        exact g_iret hE rfl (⟨by rw [show j = L.length by omega], rfl, rfl⟩) dX5_placesWith_31
      · exact absurd c_9 (by omega)
    | succ m ih =>
      intro j hj
      have hb := cnt_le (stands L W) j
      have hstep : cnt (stands L W) (j + 1) = cnt (stands L W) j + if stands L W j = true then 1 else 0 := rfl
      refine g_iload_n dX5_placesWith_4 rfl ?_
      refine g_aload_n dX5_placesWith_5 rfl ?_
      refine g_getf fl5_27 hS.1 rfl dX5_placesWith_6 ?_
      refine g_icmp_geN 30 dX5_placesWith_9 (by decide) (by omega) (by omega) (fun c_9 => ?_) (fun c_9 => ?_)
      · exact absurd c_9 (by omega)
      · refine g_aload_n dX5_placesWith_12 rfl ?_
        refine g_aload_n dX5_placesWith_13 rfl ?_
        refine g_iload_n dX5_placesWith_14 rfl ?_
        refine g_callV0 kX5_72 (m5_standsAt j (by omega) hL0 hW0) hS.1 rfl rfl rfl (Nat.le_of_ble_eq_true rfl) (by decide) (by decide) (by decide) (by decide) dX5_placesWith_15 ?_
        rintro v2 h2 z2 ⟨rfl, rfl, rfl⟩
        refine g_if_eqB 24 dX5_placesWith_18 (by decide) (fun c_18 => ?_) (fun c_18 => ?_)
        · refine g_iincN dX5_placesWith_24 rfl (by decide) rfl ?_
          refine g_goto 4 dX5_placesWith_27 (by decide) ?_
          refine G.eql (lv' := [some (.ref a), some (.ref w), some (.int (nI (cnt (stands L W) (j + 1)))), some (.int (nI (j + 1)))]) (by rw [hstep, c_18]; rfl) ?_
          exact ih (j + 1) (by omega)
        · refine g_iincN dX5_placesWith_21 rfl (by decide) rfl ?_
          refine g_iincN dX5_placesWith_24 rfl (by decide) rfl ?_
          refine g_goto 4 dX5_placesWith_27 (by decide) ?_
          refine G.eql (lv' := [some (.ref a), some (.ref w), some (.int (nI (cnt (stands L W) (j + 1)))), some (.int (nI (j + 1)))]) (by rw [hstep, c_18]; rfl) ?_
          exact ih (j + 1) (by omega)
  refine g_iconst (nI 0) dX5_placesWith_0 (by decide) ?_
  refine g_istore_n dX5_placesWith_1 (by decide) rfl ?_
  refine g_iconst (nI 0) dX5_placesWith_2 (by decide) ?_
  refine g_istore_n dX5_placesWith_3 (by decide) rfl ?_
  exact loop L.length 0 (by omega)
set_option maxRecDepth 100000 in
set_option maxHeartbeats 4000000 in
theorem m5_lastPlaceWith {X : gX} {h : gH} {z a w : Nat} {C : sqC} {L W : List Int32} (hL : SqL C X h a L) (hW : WdL X h w W) : gM X yX5_lastPlaceWith cX5_lastPlaceWith 3 (some .int) (2, 0, 0) [.ref a, .ref w] h z (pR h z (oI (lstA (stands L W) L.length))) gNoX := by
  have hL0 := id hL
  have hW0 := id hW
  obtain ⟨c, I, A, hS, rfl, hn, hA, -⟩ := hL
  obtain ⟨f, hWB, hw10, hf⟩ := hW
  refine gM.of px5 (Nat.le_of_ble_eq_true rfl) ?_
  intro F hE
  have loop : ∀ (m : Nat), m ≤ L.length → lstA (stands L W) L.length = lstA (stands L W) m → G X F cX5_lastPlaceWith 3 yX5_lastPlaceWith.cls (2, 0, 0) 0 0 7 [some (.ref a), some (.ref w), some (.int (nI m + -1))] [] h z := by
    intro m
    induction m with
    | zero =>
      intro hj hm
      refine g_iload_n dX5_lastPlaceWith_7 rfl ?_
      refine g_if_lt 28 dX5_lastPlaceWith_8 (by decide) (fun c_8 => ?_) (fun c_8 => ?_)
      · refine g_iconst (-1) dX5_lastPlaceWith_28 (by decide) ?_
        exact g_iret hE rfl (⟨by rw [hm]; rfl, rfl, rfl⟩) dX5_lastPlaceWith_29
      · exact absurd (by decide) c_8
    | succ j ih =>
      intro hj hm
      have hm2 : lstA (stands L W) L.length = if stands L W j = true then some j else lstA (stands L W) j := hm
      rw [pk_m1]
      refine g_iload_n dX5_lastPlaceWith_7 rfl ?_
      refine g_if_ltN 28 dX5_lastPlaceWith_8 (by decide) (by omega) ?_
      refine g_aload_n dX5_lastPlaceWith_11 rfl ?_
      refine g_aload_n dX5_lastPlaceWith_12 rfl ?_
      refine g_iload_n dX5_lastPlaceWith_13 rfl ?_
      refine g_callV0 kX5_72 (m5_standsAt j (by omega) hL0 hW0) hS.1 rfl rfl rfl (Nat.le_of_ble_eq_true rfl) (by decide) (by decide) (by decide) (by decide) dX5_lastPlaceWith_14 ?_
      rintro v2 h2 z2 ⟨rfl, rfl, rfl⟩
      refine g_if_eqB 22 dX5_lastPlaceWith_17 (by decide) (fun c_17 => ?_) (fun c_17 => ?_)
      · refine g_iinc (nI j + -1) dX5_lastPlaceWith_22 rfl rfl (by decide) rfl ?_
        refine g_goto 7 dX5_lastPlaceWith_25 (by decide) ?_
        exact ih (by omega) (by rw [hm2, if_neg (by rw [c_17]; decide)])
      · refine g_iload_n dX5_lastPlaceWith_20 rfl ?_
        exact g_iret hE rfl (⟨by rw [hm2, if_pos c_17]; rfl, rfl, rfl⟩) dX5_lastPlaceWith_21
  refine g_aload_n dX5_lastPlaceWith_0 rfl ?_
  refine g_getf fl5_27 hS.1 rfl dX5_lastPlaceWith_1 ?_
  refine g_iconst (nI 1) dX5_lastPlaceWith_4 (by decide) ?_
  refine g_isub dX5_lastPlaceWith_5 ?_
  rw [show nI L.length - nI 1 = nI L.length + -1 from Int32.sub_eq_add_neg (nI L.length) (nI 1)]
  refine g_istore_n dX5_lastPlaceWith_6 (by decide) rfl ?_
  exact loop L.length (Nat.le_refl _) rfl
set_option maxRecDepth 100000 in
set_option maxHeartbeats 4000000 in
theorem m5_isKnown {X : gX} {h : gH} {z a w : Nat} {C : sqC} {L W : List Int32} (hL : SqL C X h a L) (hW : WdL X h w W) : gM X yX5_isKnown cX5_isKnown 2 (some .boolean) (3, 0, 0) [.ref a, .ref w] h z (pR h z (b2i (fstA (stands L W) L.length 0).isSome)) gNoX := by
  have hL0 := id hL
  have hW0 := id hW
  obtain ⟨c, I, A, hS, rfl, hn, hA, -⟩ := hL
  obtain ⟨f, hWB, hw10, hf⟩ := hW
  refine gM.of px5 (Nat.le_of_ble_eq_true rfl) ?_
  intro F hE
  refine g_aload_n dX5_isKnown_0 rfl ?_
  refine g_aload_n dX5_isKnown_1 rfl ?_
  refine g_callV0 kX5_68 (m5_firstPlaceWith hL0 hW0) hS.1 rfl rfl rfl (Nat.le_of_ble_eq_true rfl) (by decide) (by decide) (by decide) (by decide) dX5_isKnown_2 ?_
  rintro v2 h2 z2 ⟨rfl, rfl, rfl⟩
  cases hr : fstA (stands L W) L.length 0 with
  | none =>
    show G X F _ _ _ _ _ _ _ _ (.int (-1) :: []) _ _
    refine g_if_lt 12 dX5_isKnown_5 (by decide) (fun c_5 => ?_) (fun c_5 => absurd (by decide) c_5)
    refine g_iconst (nI 0) dX5_isKnown_12 (by decide) ?_
    exact g_iret hE rfl (⟨by rw [hr]; rfl, rfl, rfl⟩) dX5_isKnown_13
  | some r =>
    have hr2 := (fstA_some.mp hr).2.1
    show G X F _ _ _ _ _ _ _ _ (.int (nI r) :: []) _ _
    refine g_if_ltN 12 dX5_isKnown_5 (by decide) (by omega) ?_
    refine g_iconst (nI 1) dX5_isKnown_8 (by decide) ?_
    refine g_goto 13 dX5_isKnown_9 (by decide) ?_
    exact g_iret hE rfl (⟨by rw [hr]; rfl, rfl, rfl⟩) dX5_isKnown_13
