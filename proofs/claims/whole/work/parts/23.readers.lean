/-! Squawks: what is read -/
/-- a call on the Squawks at a that answers v, and may have sorted them -/
abbrev sqR (X : gX) (h : gH) (z a : Nat) (L : List Int32) (v : Int32) : Option Value → gH → Nat → Prop := fun r h' z' => r = some (.int v) ∧ z' = z ∧ SqL sqCa X h' a L ∧ OffB h h' a 5
/-- a call that answers v and writes nothing -/
abbrev pR (h : gH) (z : Nat) (v : Int32) : Option Value → gH → Nat → Prop := fun r h' z' => r = some (.int v) ∧ h' = h ∧ z' = z

set_option maxRecDepth 100000 in
set_option maxHeartbeats 4000000 in
theorem m5_longestRepeated {X : gX} {h : gH} {z a : Nat} {L : List Int32} (hL : SqL sqCa X h a L) : gM X yX5_longestRepeated cX5_longestRepeated 1 (some .int) (3, 0, 0) [.ref a] h z (sqR X h z a L (nI (lon L))) gNoX := by
  obtain ⟨c, I, A, hS, hI⟩ := hL
  refine gM.of px5 (Nat.le_of_ble_eq_true rfl) ?_
  intro F hE
  refine g_aload_n dX5_longestRepeated_0 rfl ?_
  refine g_callV0 kX5_55 (m5_sort ⟨_, _, _, hS, hI⟩) hS.1 rfl rfl rfl (Nat.le_of_ble_eq_true rfl) (by decide) (by decide) (by decide) (by decide) dX5_longestRepeated_1 ?_
  rintro v1 h1 z1 ⟨rfl, rfl, ⟨I, A, hS, hn, hA, hI2, hC1, hC2, hC3, hC4, hC5⟩, hO⟩
  refine g_aload_n dX5_longestRepeated_4 rfl ?_
  refine g_getf fl5_58 hS.1 rfl dX5_longestRepeated_5 ?_
  exact g_iret hE rfl (⟨by rw [hC4], rfl, SqS.toL ⟨_, _, hS, hn, hA, hI2, hC1, hC2, hC3, hC4, hC5⟩, hO⟩) dX5_longestRepeated_8
set_option maxRecDepth 100000 in
set_option maxHeartbeats 4000000 in
theorem m5_sumOfAllShared {X : gX} {h : gH} {z a : Nat} {L : List Int32} (hL : SqL sqCa X h a L) : gM X yX5_sumOfAllShared cX5_sumOfAllShared 1 (some .int) (3, 0, 0) [.ref a] h z (sqR X h z a L (nI (sms L))) gNoX := by
  obtain ⟨c, I, A, hS, hI⟩ := hL
  refine gM.of px5 (Nat.le_of_ble_eq_true rfl) ?_
  intro F hE
  refine g_aload_n dX5_sumOfAllShared_0 rfl ?_
  refine g_callV0 kX5_55 (m5_sort ⟨_, _, _, hS, hI⟩) hS.1 rfl rfl rfl (Nat.le_of_ble_eq_true rfl) (by decide) (by decide) (by decide) (by decide) dX5_sumOfAllShared_1 ?_
  rintro v1 h1 z1 ⟨rfl, rfl, ⟨I, A, hS, hn, hA, hI2, hC1, hC2, hC3, hC4, hC5⟩, hO⟩
  refine g_aload_n dX5_sumOfAllShared_4 rfl ?_
  refine g_getf fl5_61 hS.1 rfl dX5_sumOfAllShared_5 ?_
  exact g_iret hE rfl (⟨by rw [hC5], rfl, SqS.toL ⟨_, _, hS, hn, hA, hI2, hC1, hC2, hC3, hC4, hC5⟩, hO⟩) dX5_sumOfAllShared_8
set_option maxRecDepth 100000 in
set_option maxHeartbeats 4000000 in
theorem m5_rankAt {X : gX} {h : gH} {z a : Nat} {L : List Int32} (p : Nat) (hp : p < L.length) (hL : SqL sqCa X h a L) : gM X yX5_rankAt cX5_rankAt 2 (some .int) (3, 0, 0) [.ref a, .int (nI p)] h z (sqR X h z a L (nI (rk L p))) gNoX := by
  obtain ⟨c, I, A, hS, hI⟩ := hL
  refine gM.of px5 (Nat.le_of_ble_eq_true rfl) ?_
  intro F hE
  refine g_aload_n dX5_rankAt_0 rfl ?_
  refine g_callV0 kX5_55 (m5_sort ⟨_, _, _, hS, hI⟩) hS.1 rfl rfl rfl (Nat.le_of_ble_eq_true rfl) (by decide) (by decide) (by decide) (by decide) dX5_rankAt_1 ?_
  rintro v1 h1 z1 ⟨rfl, rfl, ⟨I, A, hS, hn, hA, hI2, hC1, hC2, hC3, hC4, hC5⟩, hO⟩
  refine g_iload_n dX5_rankAt_4 rfl ?_
  refine g_if_ltN 25 dX5_rankAt_5 (by decide) (by omega) ?_
  refine g_iload_n dX5_rankAt_8 rfl ?_
  refine g_aload_n dX5_rankAt_9 rfl ?_
  refine g_getf fl5_27 hS.1 rfl dX5_rankAt_10 ?_
  refine g_icmp_geN 25 dX5_rankAt_13 (by decide) (by omega) (by omega) (fun c_13 => ?_) (fun c_13 => ?_)
  · exact absurd c_13 (by omega)
  · refine g_aload_n dX5_rankAt_16 rfl ?_
    refine g_getf fl5_15 hS.1 rfl dX5_rankAt_17 ?_
    refine g_iload_n dX5_rankAt_20 rfl ?_
    refine g_ialdN (hS.2 1 (by decide)) (by omega) (by decide) dX5_rankAt_21 ?_
    refine g_goto 26 dX5_rankAt_22 (by decide) ?_
    exact g_iret hE rfl (⟨by rw [hC1 _ hp], rfl, SqS.toL ⟨_, _, hS, hn, hA, hI2, hC1, hC2, hC3, hC4, hC5⟩, hO⟩) dX5_rankAt_26
set_option maxRecDepth 100000 in
set_option maxHeartbeats 4000000 in
theorem m5_placeOfRank {X : gX} {h : gH} {z a : Nat} {L : List Int32} (p : Nat) (hp : p < L.length) (hL : SqL sqCa X h a L) : gM X yX5_placeOfRank cX5_placeOfRank 2 (some .int) (3, 0, 0) [.ref a, .int (nI p)] h z (sqR X h z a L (nI (plc L p))) gNoX := by
  obtain ⟨c, I, A, hS, hI⟩ := hL
  refine gM.of px5 (Nat.le_of_ble_eq_true rfl) ?_
  intro F hE
  refine g_aload_n dX5_placeOfRank_0 rfl ?_
  refine g_callV0 kX5_55 (m5_sort ⟨_, _, _, hS, hI⟩) hS.1 rfl rfl rfl (Nat.le_of_ble_eq_true rfl) (by decide) (by decide) (by decide) (by decide) dX5_placeOfRank_1 ?_
  rintro v1 h1 z1 ⟨rfl, rfl, ⟨I, A, hS, hn, hA, hI2, hC1, hC2, hC3, hC4, hC5⟩, hO⟩
  refine g_iload_n dX5_placeOfRank_4 rfl ?_
  refine g_if_ltN 25 dX5_placeOfRank_5 (by decide) (by omega) ?_
  refine g_iload_n dX5_placeOfRank_8 rfl ?_
  refine g_aload_n dX5_placeOfRank_9 rfl ?_
  refine g_getf fl5_27 hS.1 rfl dX5_placeOfRank_10 ?_
  refine g_icmp_geN 25 dX5_placeOfRank_13 (by decide) (by omega) (by omega) (fun c_13 => ?_) (fun c_13 => ?_)
  · exact absurd c_13 (by omega)
  · refine g_aload_n dX5_placeOfRank_16 rfl ?_
    refine g_getf fl5_18 hS.1 rfl dX5_placeOfRank_17 ?_
    refine g_iload_n dX5_placeOfRank_20 rfl ?_
    refine g_ialdN (hS.2 2 (by decide)) (by omega) (by decide) dX5_placeOfRank_21 ?_
    refine g_goto 26 dX5_placeOfRank_22 (by decide) ?_
    exact g_iret hE rfl (⟨by rw [hC2 _ hp], rfl, SqS.toL ⟨_, _, hS, hn, hA, hI2, hC1, hC2, hC3, hC4, hC5⟩, hO⟩) dX5_placeOfRank_26
set_option maxRecDepth 100000 in
set_option maxHeartbeats 4000000 in
theorem m5_sharedWithRankAhead {X : gX} {h : gH} {z a : Nat} {L : List Int32} (p : Nat) (hp : p < L.length) (hL : SqL sqCa X h a L) : gM X yX5_sharedWithRankAhead cX5_sharedWithRankAhead 2 (some .int) (3, 0, 0) [.ref a, .int (nI p)] h z (sqR X h z a L (nI (shr L p))) gNoX := by
  obtain ⟨c, I, A, hS, hI⟩ := hL
  refine gM.of px5 (Nat.le_of_ble_eq_true rfl) ?_
  intro F hE
  refine g_aload_n dX5_sharedWithRankAhead_0 rfl ?_
  refine g_callV0 kX5_55 (m5_sort ⟨_, _, _, hS, hI⟩) hS.1 rfl rfl rfl (Nat.le_of_ble_eq_true rfl) (by decide) (by decide) (by decide) (by decide) dX5_sharedWithRankAhead_1 ?_
  rintro v1 h1 z1 ⟨rfl, rfl, ⟨I, A, hS, hn, hA, hI2, hC1, hC2, hC3, hC4, hC5⟩, hO⟩
  refine g_iload_n dX5_sharedWithRankAhead_4 rfl ?_
  refine g_if_ltN 25 dX5_sharedWithRankAhead_5 (by decide) (by omega) ?_
  refine g_iload_n dX5_sharedWithRankAhead_8 rfl ?_
  refine g_aload_n dX5_sharedWithRankAhead_9 rfl ?_
  refine g_getf fl5_27 hS.1 rfl dX5_sharedWithRankAhead_10 ?_
  refine g_icmp_geN 25 dX5_sharedWithRankAhead_13 (by decide) (by omega) (by omega) (fun c_13 => ?_) (fun c_13 => ?_)
  · exact absurd c_13 (by omega)
  · refine g_aload_n dX5_sharedWithRankAhead_16 rfl ?_
    refine g_getf fl5_21 hS.1 rfl dX5_sharedWithRankAhead_17 ?_
    refine g_iload_n dX5_sharedWithRankAhead_20 rfl ?_
    refine g_ialdN (hS.2 3 (by decide)) (by omega) (by decide) dX5_sharedWithRankAhead_21 ?_
    refine g_goto 26 dX5_sharedWithRankAhead_22 (by decide) ?_
    exact g_iret hE rfl (⟨by rw [hC3 _ hp], rfl, SqS.toL ⟨_, _, hS, hn, hA, hI2, hC1, hC2, hC3, hC4, hC5⟩, hO⟩) dX5_sharedWithRankAhead_26
set_option maxRecDepth 100000 in
set_option maxHeartbeats 4000000 in
theorem m5_differentPhrases {X : gX} {h : gH} {z a : Nat} {L : List Int32} (hL : SqL sqCa X h a L) : gM X yX5_differentPhrases cX5_differentPhrases 1 (some .int) (3, 0, 0) [.ref a] h z (sqR X h z a L (nI (L.length * (L.length + 1) / 2) - nI (sms L))) gNoX := by
  obtain ⟨c, I, A, hS, hI⟩ := hL
  refine gM.of px5 (Nat.le_of_ble_eq_true rfl) ?_
  intro F hE
  refine g_aload_n dX5_differentPhrases_0 rfl ?_
  refine g_callV0 kX5_55 (m5_sort ⟨_, _, _, hS, hI⟩) hS.1 rfl rfl rfl (Nat.le_of_ble_eq_true rfl) (by decide) (by decide) (by decide) (by decide) dX5_differentPhrases_1 ?_
  rintro v1 h1 z1 ⟨rfl, rfl, ⟨I, A, hS, hn, hA, hI2, hC1, hC2, hC3, hC4, hC5⟩, hO⟩
  refine g_aload_n dX5_differentPhrases_4 rfl ?_
  refine g_getf fl5_27 hS.1 rfl dX5_differentPhrases_5 ?_
  refine g_aload_n dX5_differentPhrases_8 rfl ?_
  refine g_getf fl5_27 hS.1 rfl dX5_differentPhrases_9 ?_
  refine g_iconst (nI 1) dX5_differentPhrases_12 (by decide) ?_
  first | refine g_iaddN dX5_differentPhrases_13 ?_ | refine g_iadd dX5_differentPhrases_13 ?_
  first | refine g_imulN dX5_differentPhrases_14 ?_ | refine g_imul dX5_differentPhrases_14 ?_
  refine g_iconst (nI 2) dX5_differentPhrases_15 (by decide) ?_
  refine g_idivN dX5_differentPhrases_16 (by have := Nat.mul_le_mul hn (show L.length + 1 ≤ 41 by omega); omega) (by decide) (by decide) ?_
  refine g_aload_n dX5_differentPhrases_17 rfl ?_
  refine g_getf fl5_61 hS.1 rfl dX5_differentPhrases_18 ?_
  rw [hC5]
  refine g_isub dX5_differentPhrases_21 ?_
  exact g_iret hE rfl (⟨rfl, rfl, SqS.toL ⟨_, _, hS, hn, hA, hI2, hC1, hC2, hC3, hC4, hC5⟩, hO⟩) dX5_differentPhrases_22
/-- counts that begin at 1 -/
theorem cnt_one {P : Nat → Bool} (h : P 0 = false) : cnt P 1 = 0 := by unfold cnt; rw [h]; rfl

set_option maxRecDepth 100000 in
set_option maxHeartbeats 4000000 in
theorem m5_differentPhrasesWith {X : gX} {h : gH} {z a : Nat} {L : List Int32} (k : Nat) (hk : k ≤ 40) (hL : SqL sqCa X h a L) : gM X yX5_differentPhrasesWith cX5_differentPhrasesWith 4 (some .int) (3, 0, 0) [.ref a, .int (nI k)] h z (sqR X h z a L (nI (cnt (dpP L k) L.length))) gNoX := by
  obtain ⟨c, I, A, hS, hI⟩ := hL
  refine gM.of px5 (Nat.le_of_ble_eq_true rfl) ?_
  intro F hE
  have loop : ∀ (m j : Nat), j + m = max L.length 0 → ∀ (h1 : gH) (I : Nat → Int32) (A : Nat → Nat → Int32), SqB X h1 a L.length I A → L.length ≤ 40 → (∀ i, i < L.length → A 0 i = lt L i) → I 2 = 1 → sqCa L I A → OffB h h1 a 5 → 0 ≤ j → G X F cX5_differentPhrasesWith 4 yX5_differentPhrasesWith.cls (3, 0, 0) 0 0 8 [some (.ref a), some (.int (nI k)), some (.int (nI (cnt (dpP L k) j))), some (.int (nI j))] [] h1 z := by
    intro m
    induction m with
    | zero =>
      intro j hj h1 I A hS hn hA hI2 hC hO hj1
      obtain ⟨hC1, hC2, hC3, hC4, hC5⟩ := hC
      refine g_iload_n dX5_differentPhrasesWith_8 rfl ?_
      refine g_aload_n dX5_differentPhrasesWith_9 rfl ?_
      refine g_getf fl5_27 hS.1 rfl dX5_differentPhrasesWith_10 ?_
      refine g_icmp_geN 50 dX5_differentPhrasesWith_13 (by decide) (by omega) (by omega) (fun c_13 => ?_) (fun c_13 => ?_)
      · refine g_iload_n dX5_differentPhrasesWith_50 rfl ?_
        exact g_iret hE rfl (⟨by rw [show j = L.length by omega], rfl, SqS.toL ⟨_, _, hS, hn, hA, hI2, hC1, hC2, hC3, hC4, hC5⟩, hO⟩) dX5_differentPhrasesWith_51
      · exact absurd c_13 (by omega)
    | succ m ih =>
      intro j hj h1 I A hS hn hA hI2 hC hO hj1
      obtain ⟨hC1, hC2, hC3, hC4, hC5⟩ := id hC
      have hbnd := cnt_le (dpP L k) j
      have hstep : cnt (dpP L k) (j + 1) = cnt (dpP L k) j + if dpP L k j = true then 1 else 0 := rfl
      have hplc := (plc_spec (L := L) (r := j) (by omega)).1
      have hs1 := shr_le (L := L) (r := j) (by omega)
      have hs2 := shr_le (L := L) (r := j - 1) (by omega)
      have jt : dpP L k j = true → G X F cX5_differentPhrasesWith 4 yX5_differentPhrasesWith.cls (3, 0, 0) 0 0 41 [some (.ref a), some (.int (nI k)), some (.int (nI (cnt (dpP L k) j))), some (.int (nI j))] [] h1 z := by
        intro ht
        rw [if_pos ht] at hstep
        refine g_iincN dX5_differentPhrasesWith_41 rfl (by decide) rfl ?_
        refine g_iincN dX5_differentPhrasesWith_44 rfl (by decide) rfl ?_
        refine g_goto 8 dX5_differentPhrasesWith_47 (by decide) ?_
        rw [← hstep]
        exact ih (j + 1) (by omega) h1 I A hS hn hA hI2 hC hO (by omega)
      have jf : dpP L k j = false → G X F cX5_differentPhrasesWith 4 yX5_differentPhrasesWith.cls (3, 0, 0) 0 0 44 [some (.ref a), some (.int (nI k)), some (.int (nI (cnt (dpP L k) j))), some (.int (nI j))] [] h1 z := by
        intro ht
        rw [ht] at hstep
        refine g_iincN dX5_differentPhrasesWith_44 rfl (by decide) rfl ?_
        refine g_goto 8 dX5_differentPhrasesWith_47 (by decide) ?_
        refine G.eql (lv' := [some (.ref a), some (.int (nI k)), some (.int (nI (cnt (dpP L k) (j + 1)))), some (.int (nI (j + 1)))]) (by rw [hstep]; rfl) ?_
        exact ih (j + 1) (by omega) h1 I A hS hn hA hI2 hC hO (by omega)
      refine g_iload_n dX5_differentPhrasesWith_8 rfl ?_
      refine g_aload_n dX5_differentPhrasesWith_9 rfl ?_
      refine g_getf fl5_27 hS.1 rfl dX5_differentPhrasesWith_10 ?_
      refine g_icmp_geN 50 dX5_differentPhrasesWith_13 (by decide) (by omega) (by omega) (fun c_13 => ?_) (fun c_13 => ?_)
      · exact absurd c_13 (by omega)
      · refine g_aload_n dX5_differentPhrasesWith_16 rfl ?_
        refine g_getf fl5_27 hS.1 rfl dX5_differentPhrasesWith_17 ?_
        refine g_aload_n dX5_differentPhrasesWith_20 rfl ?_
        refine g_getf fl5_18 hS.1 rfl dX5_differentPhrasesWith_21 ?_
        refine g_iload_n dX5_differentPhrasesWith_24 rfl ?_
        refine g_ialdN (hS.2 2 (by decide)) (by omega) (by decide) dX5_differentPhrasesWith_25 ?_
        rw [hC2 j (by omega)]
        first | refine g_isubN dX5_differentPhrasesWith_26 (by omega) ?_ | refine g_isub dX5_differentPhrasesWith_26 ?_
        refine g_iload_n dX5_differentPhrasesWith_27 rfl ?_
        refine g_icmp_ltN 44 dX5_differentPhrasesWith_28 (by decide) (by omega) (by omega) (fun c_28 => ?_) (fun c_28 => ?_)
        · exact jf (by unfold dpP; simp; omega)
        · refine g_aload_n dX5_differentPhrasesWith_31 rfl ?_
          refine g_getf fl5_21 hS.1 rfl dX5_differentPhrasesWith_32 ?_
          refine g_iload_n dX5_differentPhrasesWith_35 rfl ?_
          refine g_ialdN (hS.2 3 (by decide)) (by omega) (by decide) dX5_differentPhrasesWith_36 ?_
          rw [hC3 j (by omega)]
          refine g_iload_n dX5_differentPhrasesWith_37 rfl ?_
          refine g_icmp_geN 44 dX5_differentPhrasesWith_38 (by decide) (by omega) (by omega) (fun c_38 => ?_) (fun c_38 => ?_)
          · exact jf (by unfold dpP; simp; omega)
          · exact jt (by unfold dpP; simp; omega)
  refine g_aload_n dX5_differentPhrasesWith_0 rfl ?_
  refine g_callV0 kX5_55 (m5_sort ⟨_, _, _, hS, hI⟩) hS.1 rfl rfl rfl (Nat.le_of_ble_eq_true rfl) (by decide) (by decide) (by decide) (by decide) dX5_differentPhrasesWith_1 ?_
  rintro v1 h1 z1 ⟨rfl, rfl, ⟨I, A, hS, hn, hA, hI2, hC1, hC2, hC3, hC4, hC5⟩, hO⟩
  refine g_iconst (nI 0) dX5_differentPhrasesWith_4 (by decide) ?_
  refine g_istore_n dX5_differentPhrasesWith_5 (by decide) rfl ?_
  refine g_iconst (nI 0) dX5_differentPhrasesWith_6 (by decide) ?_
  refine g_istore_n dX5_differentPhrasesWith_7 (by decide) rfl ?_
  exact loop (max L.length 0 - 0) 0 (by omega) h1 I A hS hn hA hI2 ⟨hC1, hC2, hC3, hC4, hC5⟩ hO (Nat.le_refl _)
set_option maxRecDepth 100000 in
set_option maxHeartbeats 4000000 in
theorem m5_repeatedPhrasesWith {X : gX} {h : gH} {z a : Nat} {L : List Int32} (k : Nat) (hk : k ≤ 40) (hL : SqL sqCa X h a L) : gM X yX5_repeatedPhrasesWith cX5_repeatedPhrasesWith 4 (some .int) (3, 0, 0) [.ref a, .int (nI k)] h z (sqR X h z a L (nI (cnt (rwP L k) L.length))) gNoX := by
  obtain ⟨c, I, A, hS, hI⟩ := hL
  refine gM.of px5 (Nat.le_of_ble_eq_true rfl) ?_
  intro F hE
  have loop : ∀ (m j : Nat), j + m = max L.length 1 → ∀ (h1 : gH) (I : Nat → Int32) (A : Nat → Nat → Int32), SqB X h1 a L.length I A → L.length ≤ 40 → (∀ i, i < L.length → A 0 i = lt L i) → I 2 = 1 → sqCa L I A → OffB h h1 a 5 → 1 ≤ j → G X F cX5_repeatedPhrasesWith 4 yX5_repeatedPhrasesWith.cls (3, 0, 0) 0 0 8 [some (.ref a), some (.int (nI k)), some (.int (nI (cnt (rwP L k) j))), some (.int (nI j))] [] h1 z := by
    intro m
    induction m with
    | zero =>
      intro j hj h1 I A hS hn hA hI2 hC hO hj1
      obtain ⟨hC1, hC2, hC3, hC4, hC5⟩ := hC
      have hfin : cnt (rwP L k) j = cnt (rwP L k) L.length := by
        by_cases e : L.length = 0
        · rw [e, show j = 1 by omega, cnt_one (by unfold rwP; simp)]; rfl
        · rw [show j = L.length by omega]
      refine g_iload_n dX5_repeatedPhrasesWith_8 rfl ?_
      refine g_aload_n dX5_repeatedPhrasesWith_9 rfl ?_
      refine g_getf fl5_27 hS.1 rfl dX5_repeatedPhrasesWith_10 ?_
      refine g_icmp_geN 47 dX5_repeatedPhrasesWith_13 (by decide) (by omega) (by omega) (fun c_13 => ?_) (fun c_13 => ?_)
      · refine g_iload_n dX5_repeatedPhrasesWith_47 rfl ?_
        exact g_iret hE rfl (⟨by rw [hfin], rfl, SqS.toL ⟨_, _, hS, hn, hA, hI2, hC1, hC2, hC3, hC4, hC5⟩, hO⟩) dX5_repeatedPhrasesWith_48
      · exact absurd c_13 (by omega)
    | succ m ih =>
      intro j hj h1 I A hS hn hA hI2 hC hO hj1
      obtain ⟨hC1, hC2, hC3, hC4, hC5⟩ := id hC
      have hbnd := cnt_le (rwP L k) j
      have hstep : cnt (rwP L k) (j + 1) = cnt (rwP L k) j + if rwP L k j = true then 1 else 0 := rfl
      have hplc := (plc_spec (L := L) (r := j) (by omega)).1
      have hs1 := shr_le (L := L) (r := j) (by omega)
      have hs2 := shr_le (L := L) (r := j - 1) (by omega)
      have jt : rwP L k j = true → G X F cX5_repeatedPhrasesWith 4 yX5_repeatedPhrasesWith.cls (3, 0, 0) 0 0 38 [some (.ref a), some (.int (nI k)), some (.int (nI (cnt (rwP L k) j))), some (.int (nI j))] [] h1 z := by
        intro ht
        rw [if_pos ht] at hstep
        refine g_iincN dX5_repeatedPhrasesWith_38 rfl (by decide) rfl ?_
        refine g_iincN dX5_repeatedPhrasesWith_41 rfl (by decide) rfl ?_
        refine g_goto 8 dX5_repeatedPhrasesWith_44 (by decide) ?_
        rw [← hstep]
        exact ih (j + 1) (by omega) h1 I A hS hn hA hI2 hC hO (by omega)
      have jf : rwP L k j = false → G X F cX5_repeatedPhrasesWith 4 yX5_repeatedPhrasesWith.cls (3, 0, 0) 0 0 41 [some (.ref a), some (.int (nI k)), some (.int (nI (cnt (rwP L k) j))), some (.int (nI j))] [] h1 z := by
        intro ht
        rw [ht] at hstep
        refine g_iincN dX5_repeatedPhrasesWith_41 rfl (by decide) rfl ?_
        refine g_goto 8 dX5_repeatedPhrasesWith_44 (by decide) ?_
        refine G.eql (lv' := [some (.ref a), some (.int (nI k)), some (.int (nI (cnt (rwP L k) (j + 1)))), some (.int (nI (j + 1)))]) (by rw [hstep]; rfl) ?_
        exact ih (j + 1) (by omega) h1 I A hS hn hA hI2 hC hO (by omega)
      refine g_iload_n dX5_repeatedPhrasesWith_8 rfl ?_
      refine g_aload_n dX5_repeatedPhrasesWith_9 rfl ?_
      refine g_getf fl5_27 hS.1 rfl dX5_repeatedPhrasesWith_10 ?_
      refine g_icmp_geN 47 dX5_repeatedPhrasesWith_13 (by decide) (by omega) (by omega) (fun c_13 => ?_) (fun c_13 => ?_)
      · exact absurd c_13 (by omega)
      · refine g_aload_n dX5_repeatedPhrasesWith_16 rfl ?_
        refine g_getf fl5_21 hS.1 rfl dX5_repeatedPhrasesWith_17 ?_
        refine g_iload_n dX5_repeatedPhrasesWith_20 rfl ?_
        refine g_ialdN (hS.2 3 (by decide)) (by omega) (by decide) dX5_repeatedPhrasesWith_21 ?_
        rw [hC3 j (by omega)]
        refine g_iload_n dX5_repeatedPhrasesWith_22 rfl ?_
        refine g_icmp_ltN 41 dX5_repeatedPhrasesWith_23 (by decide) (by omega) (by omega) (fun c_23 => ?_) (fun c_23 => ?_)
        · exact jf (by unfold rwP; simp; omega)
        · refine g_aload_n dX5_repeatedPhrasesWith_26 rfl ?_
          refine g_getf fl5_21 hS.1 rfl dX5_repeatedPhrasesWith_27 ?_
          refine g_iload_n dX5_repeatedPhrasesWith_30 rfl ?_
          refine g_iconst (nI 1) dX5_repeatedPhrasesWith_31 (by decide) ?_
          first | refine g_isubN dX5_repeatedPhrasesWith_32 (by omega) ?_ | refine g_isub dX5_repeatedPhrasesWith_32 ?_
          refine g_ialdN (hS.2 3 (by decide)) (by omega) (by decide) dX5_repeatedPhrasesWith_33 ?_
          rw [hC3 _ (by omega)]
          refine g_iload_n dX5_repeatedPhrasesWith_34 rfl ?_
          refine g_icmp_geN 41 dX5_repeatedPhrasesWith_35 (by decide) (by omega) (by omega) (fun c_35 => ?_) (fun c_35 => ?_)
          · exact jf (by unfold rwP; simp; omega)
          · exact jt (by unfold rwP; simp; omega)
  refine g_aload_n dX5_repeatedPhrasesWith_0 rfl ?_
  refine g_callV0 kX5_55 (m5_sort ⟨_, _, _, hS, hI⟩) hS.1 rfl rfl rfl (Nat.le_of_ble_eq_true rfl) (by decide) (by decide) (by decide) (by decide) dX5_repeatedPhrasesWith_1 ?_
  rintro v1 h1 z1 ⟨rfl, rfl, ⟨I, A, hS, hn, hA, hI2, hC1, hC2, hC3, hC4, hC5⟩, hO⟩
  refine g_iconst (nI 0) dX5_repeatedPhrasesWith_4 (by decide) ?_
  refine g_istore_n dX5_repeatedPhrasesWith_5 (by decide) rfl ?_
  refine g_iconst (nI 1) dX5_repeatedPhrasesWith_6 (by decide) ?_
  refine g_istore_n dX5_repeatedPhrasesWith_7 (by decide) rfl ?_
  refine G.eql (lv' := [some (.ref a), some (.int (nI k)), some (.int (nI (cnt (rwP L k) 1))), some (.int (nI 1))]) (by rw [cnt_one (by unfold rwP; simp)]; rfl) ?_
  exact loop (max L.length 1 - 1) 1 (by omega) h1 I A hS hn hA hI2 ⟨hC1, hC2, hC3, hC4, hC5⟩ hO (Nat.le_refl _)
