/-! the parrot: days lived -/
/-- the parrot at q, whatever its stack holds -/
def PaT (X : gX) (h : gH) (q : Nat) (L : List Int32) (day car : Int32) : Prop := ∃ st, PaS X h q L day car st
/-- apart: the plan at p and the parrot at q -/
abbrev ApP (p q : Nat) : Prop := p + 69 ≤ q ∨ q + 8 ≤ p
set_option maxRecDepth 100000 in
set_option maxHeartbeats 4000000 in
theorem m3_reckon {X : gX} {h : gH} {z q p : Nat} {L : List Int32} {day car : Int32} {K : gKo} {P : PlM} (s t : Nat) (v : Int32) (hst : s ≤ t) (ht : t ≤ P.2.2.1) (hok : OkP P) (hr : rn (atm L day P.1.2) P.2.2.2 (t - s) s [] = some [v]) (hK : gCo X K) (hP : PlC X K h p P) (hd : ApP p q) (hS : PaT X h q L day car) : gM X yX3_reckon cX3_reckon 5 (some .int) (6, 0, 0) [.ref q, .int (nI s), .int (nI t), .ref p] h z (fun r h' z' => r = some (.int v) ∧ z' = z ∧ PaT X h' q L day car ∧ OffB h h' q 8) gNoX := by
  obtain ⟨-, -, h400, hx⟩ := id hok
  obtain ⟨st, f, hB, hk, hl2, hL⟩ := hS
  refine gM.of px3 (Nat.le_of_ble_eq_true rfl) ?_
  intro F hE
  have loop : ∀ (r j : Nat) (st : List Int32) (h1 : gH), j + r = t → s ≤ j → rn (atm L day P.1.2) P.2.2.2 r j st = some [v] → PaS X h1 q L day car st → OffB h h1 q 8 → G X F cX3_reckon 5 yX3_reckon.cls (6, 0, 0) 0 0 8 [some (.ref q), some (.int (nI s)), some (.int (nI t)), some (.ref p), some (.int (nI j))] [] h1 z := by
    intro r
    induction r with
    | zero =>
      intro j st h1 hj hsj hr hS hO
      cases hr
      obtain ⟨f, hB, hk, hl2, hL⟩ := id hS
      refine g_iload dX3_reckon_8 rfl ?_
      refine g_if_ltN 52 dX3_reckon_10 (by decide) (by omega) ?_
      refine g_iload dX3_reckon_13 rfl ?_
      refine g_iload_n dX3_reckon_15 rfl ?_
      refine g_icmp_geN 52 dX3_reckon_16 (by decide) (by omega) (by omega) (fun c_16 => ?_) (fun c_16 => ?_)
      · refine g_aload_n dX3_reckon_52 rfl ?_
        refine g_callV0 kX3_128 (m3_pop v hS) hB.1 rfl rfl rfl (Nat.le_of_ble_eq_true rfl) (by decide) (by decide) (by decide) (by decide) dX3_reckon_53 ?_
        rintro v1 h2 z1 ⟨rfl, rfl, hS, hO2⟩
        exact g_iret hE rfl (⟨rfl, rfl, ⟨_, hS⟩, hO.trans hO2⟩) dX3_reckon_56
      · exact absurd c_16 (by omega)
    | succ r ih =>
      intro j st h1 hj hsj hr hS hO
      obtain ⟨f, hB, hk, hl2, hL⟩ := id hS
      obtain ⟨st1, e1, e2⟩ := rn_last hr
      have hP1 := hP.off hO (by unfold ApP at hd; omega)
      obtain ⟨S1, g1, wn1, wf1, oA1, oJ1, hPB, hPR⟩ := id hP1
      have hSj := hPR.2.2 j (by omega)
      refine g_iload dX3_reckon_8 rfl ?_
      refine g_if_ltN 52 dX3_reckon_10 (by decide) (by omega) ?_
      refine g_iload dX3_reckon_13 rfl ?_
      refine g_iload_n dX3_reckon_15 rfl ?_
      refine g_icmp_geN 52 dX3_reckon_16 (by decide) (by omega) (by omega) (fun c_16 => ?_) (fun c_16 => ?_)
      · exact absurd c_16 (by omega)
      · refine g_iload dX3_reckon_19 rfl ?_
        refine g_sipush (nI 400) dX3_reckon_21 (by decide) ?_
        refine g_icmp_geN 52 dX3_reckon_24 (by decide) (by omega) (by omega) (fun c_24 => ?_) (fun c_24 => ?_)
        · exact absurd c_24 (by omega)
        · refine g_aload_n dX3_reckon_27 rfl ?_
          refine g_aload_n dX3_reckon_28 rfl ?_
          refine g_getf fl3_117 hPB.1 rfl dX3_reckon_29 ?_
          refine g_iload dX3_reckon_32 rfl ?_
          refine g_aaldN hPB.2.2.1 rfl (by omega) (by decide) hSj.1 dX3_reckon_34 ?_
          refine g_aload_n dX3_reckon_35 rfl ?_
          refine g_getf fl3_121 hPB.1 rfl dX3_reckon_36 ?_
          refine g_iload dX3_reckon_39 rfl ?_
          refine g_ialdN hPB.2.2.2.1 (by omega) (by decide) dX3_reckon_41 ?_
          rw [hSj.2]
          refine g_aload_n dX3_reckon_42 rfl ?_
          refine g_callV0 kX3_124 (m3_doStep _ _ hK hok hP1 (hx j (by omega)) e1 hS) hB.1 rfl rfl rfl (Nat.le_of_ble_eq_true rfl) (by decide) (by decide) (by decide) (by decide) dX3_reckon_43 ?_
          rintro v1 h2 z1 ⟨rfl, rfl, hS, hO2⟩
          refine g_iincN dX3_reckon_46 rfl (by decide) rfl ?_
          refine g_goto 8 dX3_reckon_49 (by decide) ?_
          exact ih (j + 1) st1 h2 (by omega) (by omega) e2 hS (hO.trans hO2)
  refine g_aload_n dX3_reckon_0 rfl ?_
  refine g_iconst (nI 0) dX3_reckon_1 (by decide) ?_
  refine g_putf fl3_114 hB.1 rfl rfl rfl (Nat.le_of_ble_eq_true rfl) dX3_reckon_2 ?_
  refine g_iload_n dX3_reckon_5 rfl ?_
  refine g_istore dX3_reckon_6 (by decide) rfl ?_
  exact loop (t - s) s [] _ (by omega) (Nat.le_refl _) hr ⟨f, ⟨gset_same, (gset_ne (by omega)).trans hB.2⟩, trivial, Nat.zero_le _, hL.putp (by omega)⟩ (OffB.rf.put (by omega) (by omega))
set_option maxRecDepth 100000 in
set_option maxHeartbeats 4000000 in
theorem m3_holds {X : gX} {h : gH} {z q p : Nat} {L : List Int32} {day car : Int32} {K : gKo} {P : PlM} (k : Nat) (hk : k < P.2.1.1) (hok : OkP P) (hK : gCo X K) (hP : PlC X K h p P) (hd : ApP p q) (hS : PaT X h q L day car) : gM X yX3_holds cX3_holds 3 (some .boolean) (7, 0, 0) [.ref q, .ref (p + 21 + 3 * k), .ref p] h z (fun r h' z' => r = some (.int (b2i (hld P (P.2.1.2 k) L day))) ∧ z' = z ∧ PaT X h' q L day car ∧ OffB h h' q 8) gNoX := by
  obtain ⟨⟨h8, hW8⟩, ⟨h16, hoo⟩, h400, hx⟩ := id hok
  obtain ⟨⟨g1, g2, g3⟩, gt, -⟩ := hoo k hk
  obtain ⟨S1, gg, wn1, wf1, oA1, oJ1, hPB, hPR⟩ := id hP
  obtain ⟨o1, o2, o3, o4, o5, o6⟩ := hPR.2.1 k hk
  have ho := (hPB.2.2.2.2.2.2 k (by omega)).1
  rw [o5, o6] at ho
  refine gM.of px3 (Nat.le_of_ble_eq_true rfl) ?_
  intro F hE
  refine g_aload_n dX3_holds_0 rfl ?_
  refine g_getf fl3_52 ho rfl dX3_holds_1 ?_
  refine g_aload_n dX3_holds_4 rfl ?_
  refine g_getf fl3_57 ho rfl dX3_holds_5 ?_
  refine g_icmp_eqN 27 dX3_holds_8 (by decide) (by omega) (by omega) (fun c_8 => ?_) (fun c_8 => ?_)
  · refine g_iconst (nI 1) dX3_holds_27 (by decide) ?_
    refine g_goto 32 dX3_holds_28 (by decide) ?_
    exact g_iret hE rfl (⟨by unfold hld; rw [decide_eq_true c_8]; rfl, rfl, hS, OffB.rf⟩) dX3_holds_32
  · obtain ⟨st, f, hB, hkk, hl2, hL⟩ := id hS
    refine g_aload_n dX3_holds_11 rfl ?_
    refine g_aload_n dX3_holds_12 rfl ?_
    refine g_getf fl3_52 ho rfl dX3_holds_13 ?_
    refine g_aload_n dX3_holds_16 rfl ?_
    refine g_getf fl3_57 ho rfl dX3_holds_17 ?_
    refine g_aload_n dX3_holds_20 rfl ?_
    refine g_callV0 kX3_60 (m3_reckon _ _ _ g2 (by omega) hok (vl_of (gt (by omega)) L day).1 hK hP hd hS) hB.1 rfl rfl rfl (Nat.le_of_ble_eq_true rfl) (by decide) (by decide) (by decide) (by decide) dX3_holds_21 ?_
    rintro v1 h2 z1 ⟨rfl, rfl, hS2, hO2⟩
    refine g_if_eq 31 dX3_holds_24 (by decide) (fun c_24 => ?_) (fun c_24 => ?_)
    · refine g_iconst (nI 0) dX3_holds_31 (by decide) ?_
      exact g_iret hE rfl (⟨by unfold hld; rw [decide_eq_false c_8, decide_eq_false (show ¬ vl P L day _ _ = 1 from by rw [c_24]; decide)]; rfl, rfl, hS2, hO2⟩) dX3_holds_32
    · refine g_iconst (nI 1) dX3_holds_27 (by decide) ?_
      refine g_goto 32 dX3_holds_28 (by decide) ?_
      exact g_iret hE rfl (⟨by unfold hld; rw [decide_eq_true (show vl P L day _ _ = 1 from ((vl_of (gt (by omega)) L day).2 rfl).resolve_left c_24), Bool.or_true]; rfl, rfl, hS2, hO2⟩) dX3_holds_32
set_option maxRecDepth 100000 in
set_option maxHeartbeats 4000000 in
theorem m3_echoSum {X : gX} {h : gH} {z q : Nat} {L : List Int32} {day car : Int32} (x : Int32) (hS : PaT X h q L day car) : gM X yX3_echoSum cX3_echoSum 3 (some .boolean) (5, 0, 0) [.ref q, .int x] h z (fun r h' z' => r = some (.int (b2i (decide (clampN x L.length ≠ 0)))) ∧ z' = z ∧ PaT X h' q ((L.drop (L.length - clampN x L.length)).foldl hearL L) day car ∧ OffB h h' q 8) gNoX := by
  obtain ⟨st, f, hB, hk, hl2, hL⟩ := hS
  have hn := hL.len
  have hcn := clamp_ne (x := x) (n := L.length) (by omega)
  refine gM.of px3 (Nat.le_of_ble_eq_true rfl) ?_
  intro F hE
  have fin : ∀ b : Bool, b = decide (clampN x L.length ≠ 0) → G X F cX3_echoSum 3 yX3_echoSum.cls (5, 0, 0) 0 0 19 [some (.ref q), some (.int x), none] [.int (b2i b)] h z := by
    intro b hb
    obtain ⟨n9, I9, A9, hq, hi9⟩ := id hL
    refine g_istore_n dX3_echoSum_19 (by decide) rfl ?_
    refine g_aload_n dX3_echoSum_20 rfl ?_
    refine g_getf fl3_12 hB.1 rfl dX3_echoSum_21 ?_
    refine g_iload_n dX3_echoSum_24 rfl ?_
    refine g_callV0 kX3_107 (m5_hearLastAgain x sqCa_k hL) hq.1 rfl rfl rfl (Nat.le_of_ble_eq_true rfl) (by decide) (by decide) (by decide) (by decide) dX3_echoSum_25 ?_
    rintro v1 h2 z1 ⟨rfl, rfl, hL2, hO3⟩
    refine g_iload_n dX3_echoSum_28 rfl ?_
    exact g_iret hE (nrB _) ⟨by rw [hb], rfl, ⟨st, f, hB.off hO3 (by omega), hk, hl2, hL2⟩, hO3.wide (by omega) (by omega)⟩ dX3_echoSum_29
  obtain ⟨n9, I9, A9, hq, hi9⟩ := id hL
  refine g_iload_n dX3_echoSum_0 rfl ?_
  refine g_if_le 18 dX3_echoSum_1 (by decide) (fun c_1 => ?_) (fun c_1 => ?_)
  · refine g_iconst (nI 0) dX3_echoSum_18 (by decide) ?_
    exact fin false (decide_eq_false (fun q => by have := hcn.mp q; simp only [Int32.lt_iff_toInt_lt, Int32.le_iff_toInt_le] at *; omega)).symm
  · refine g_aload_n dX3_echoSum_4 rfl ?_
    refine g_getf fl3_12 hB.1 rfl dX3_echoSum_5 ?_
    refine g_getf fl3_104 hq.1 rfl dX3_echoSum_8 ?_
    rw [hi9.1]
    refine g_if_leN 18 dX3_echoSum_11 (by decide) (by omega) (fun c_11 => ?_) (fun c_11 => ?_)
    · refine g_iconst (nI 0) dX3_echoSum_18 (by decide) ?_
      exact fin false (decide_eq_false (fun q => by have := hcn.mp q; simp only [Int32.lt_iff_toInt_lt, Int32.le_iff_toInt_le] at *; omega)).symm
    · refine g_iconst (nI 1) dX3_echoSum_14 (by decide) ?_
      refine g_goto 19 dX3_echoSum_15 (by decide) ?_
      exact fin true (decide_eq_true (hcn.mpr ⟨by simp only [Int32.lt_iff_toInt_lt, Int32.le_iff_toInt_le] at *; omega, by omega⟩)).symm
set_option maxRecDepth 100000 in
set_option maxHeartbeats 4000000 in
theorem m3_forgetSum {X : gX} {h : gH} {z q : Nat} {L : List Int32} {day car : Int32} (x : Int32) (hS : PaT X h q L day car) : gM X yX3_forgetSum cX3_forgetSum 3 (some .boolean) (5, 0, 0) [.ref q, .int x] h z (fun r h' z' => r = some (.int (b2i (decide (clampN x L.length ≠ 0)))) ∧ z' = z ∧ PaT X h' q (L.drop (clampN x L.length)) day car ∧ OffB h h' q 8) gNoX := by
  obtain ⟨st, f, hB, hk, hl2, hL⟩ := hS
  have hn := hL.len
  have hcn := clamp_ne (x := x) (n := L.length) (by omega)
  refine gM.of px3 (Nat.le_of_ble_eq_true rfl) ?_
  intro F hE
  have fin : ∀ b : Bool, b = decide (clampN x L.length ≠ 0) → G X F cX3_forgetSum 3 yX3_forgetSum.cls (5, 0, 0) 0 0 19 [some (.ref q), some (.int x), none] [.int (b2i b)] h z := by
    intro b hb
    obtain ⟨n9, I9, A9, hq, hi9⟩ := id hL
    refine g_istore_n dX3_forgetSum_19 (by decide) rfl ?_
    refine g_aload_n dX3_forgetSum_20 rfl ?_
    refine g_getf fl3_12 hB.1 rfl dX3_forgetSum_21 ?_
    refine g_iload_n dX3_forgetSum_24 rfl ?_
    refine g_callV0 kX3_111 (m5_forgetFirst x hL) hq.1 rfl rfl rfl (Nat.le_of_ble_eq_true rfl) (by decide) (by decide) (by decide) (by decide) dX3_forgetSum_25 ?_
    rintro v1 h2 z1 ⟨rfl, rfl, hL2, hO3⟩
    refine g_iload_n dX3_forgetSum_28 rfl ?_
    exact g_iret hE (nrB _) ⟨by rw [hb], rfl, ⟨st, f, hB.off hO3 (by omega), hk, hl2, hL2⟩, hO3.wide (by omega) (by omega)⟩ dX3_forgetSum_29
  obtain ⟨n9, I9, A9, hq, hi9⟩ := id hL
  refine g_iload_n dX3_forgetSum_0 rfl ?_
  refine g_if_le 18 dX3_forgetSum_1 (by decide) (fun c_1 => ?_) (fun c_1 => ?_)
  · refine g_iconst (nI 0) dX3_forgetSum_18 (by decide) ?_
    exact fin false (decide_eq_false (fun q => by have := hcn.mp q; simp only [Int32.lt_iff_toInt_lt, Int32.le_iff_toInt_le] at *; omega)).symm
  · refine g_aload_n dX3_forgetSum_4 rfl ?_
    refine g_getf fl3_12 hB.1 rfl dX3_forgetSum_5 ?_
    refine g_getf fl3_104 hq.1 rfl dX3_forgetSum_8 ?_
    rw [hi9.1]
    refine g_if_leN 18 dX3_forgetSum_11 (by decide) (by omega) (fun c_11 => ?_) (fun c_11 => ?_)
    · refine g_iconst (nI 0) dX3_forgetSum_18 (by decide) ?_
      exact fin false (decide_eq_false (fun q => by have := hcn.mp q; simp only [Int32.lt_iff_toInt_lt, Int32.le_iff_toInt_le] at *; omega)).symm
    · refine g_iconst (nI 1) dX3_forgetSum_14 (by decide) ?_
      refine g_goto 19 dX3_forgetSum_15 (by decide) ?_
      exact fin true (decide_eq_true (hcn.mpr ⟨by simp only [Int32.lt_iff_toInt_lt, Int32.le_iff_toInt_le] at *; omega, by omega⟩)).symm
set_option maxRecDepth 100000 in
set_option maxHeartbeats 4000000 in
theorem m3_carryOut {X : gX} {h : gH} {z q p : Nat} {L : List Int32} {day car : Int32} {K : gKo} {P : PlM} (k : Nat) (hk : k < P.2.1.1) (hok : OkP P) (hK : gCo X K) (hP : PlC X K h p P) (hd : ApP p q) (hS : PaT X h q L day car) : gM X yX3_carryOut cX3_carryOut 3 (some .boolean) (7, 0, 0) [.ref q, .ref (p + 21 + 3 * k), .ref p] h z (fun r h' z' => r = some (.int (b2i (dos P (P.2.1.2 k) L day).1)) ∧ z' = z ∧ PaT X h' q (dos P (P.2.1.2 k) L day).2 day car ∧ OffB h h' q 8) gNoX := by
  obtain ⟨⟨h8, hW8⟩, ⟨h16, hoo⟩, h400, hx⟩ := id hok
  have hO0 := hoo k hk
  obtain ⟨S1, gg, wn1, wf1, oA1, oJ1, hPB, hPR⟩ := id hP
  have hOk := hPR.2.1 k hk
  obtain ⟨ho, hw⟩ := hPB.2.2.2.2.2.2 k (by omega)
  obtain ⟨st, f, hB, hkk, hl2, hL⟩ := id hS
  unfold ApP at hd
  refine gM.of px3 (Nat.le_of_ble_eq_true rfl) ?_
  intro F hE
  generalize P.2.1.2 k = o at hE hOk hO0
  obtain ⟨⟨act, ins, hrd⟩, s, t, e⟩ := o
  simp only [OkO] at hO0 hOk
  obtain ⟨⟨g1, g2, g3⟩, -, hc⟩ := hO0
  obtain ⟨o1, o2, o3, o4, o5, o6⟩ := hOk
  rw [o1, o4, o5] at ho
  obtain ⟨n9, I9, A9, hq, hi9⟩ := id hL
  rcases hc with ⟨rfl, a1, a2, a3⟩ | ⟨rfl, a1⟩ | ⟨a0, a1⟩
  · refine g_gets hK.2.2.2.1.1 wgX3_64 dX3_carryOut_0 ?_
    refine g_aload_n dX3_carryOut_3 rfl ?_
    refine g_getf fl3_69 ho rfl dX3_carryOut_4 ?_
    refine g_ord kX3_73 hK (c := 6) (by omega) (Nat.le_of_ble_eq_true rfl) (by decide) (by decide) (by decide) dX3_carryOut_7 ?_
    refine g_tald hK.2.2.2.1.2 (by omega) (by omega) dX3_carryOut_10 ?_
    refine g_switch (29) 40 dX3_carryOut_11 (by decide) (by decide) (by decide) (by decide) ?_
    refine g_aload_n dX3_carryOut_40 rfl ?_
    refine g_getf fl3_12 hB.1 rfl dX3_carryOut_41 ?_
    refine g_aload_n dX3_carryOut_44 rfl ?_
    refine g_getf fl3_79 ho rfl dX3_carryOut_45 ?_
    refine g_callV0 kX3_83 (m5_hearWord hL (w := p + 22 + 3 * k) (W := wl hrd) ⟨_, by rw [(o2 rfl).1] at hw; exact hw, by rw [wl_len]; exact a2, (o2 rfl).2⟩ (by omega)) hq.1 rfl rfl rfl (Nat.le_of_ble_eq_true rfl) (by decide) (by decide) (by decide) (by decide) dX3_carryOut_48 ?_
    rintro v1 h2 z1 ⟨rfl, rfl, hL2, hO3⟩
    refine g_iconst (nI 1) dX3_carryOut_51 (by decide) ?_
    exact g_iret hE rfl (⟨rfl, rfl, ⟨st, f, hB.off hO3 (by omega), hkk, hl2, hL2⟩, hO3.wide (by omega) (by omega)⟩) dX3_carryOut_52
  · refine g_gets hK.2.2.2.1.1 wgX3_64 dX3_carryOut_0 ?_
    refine g_aload_n dX3_carryOut_3 rfl ?_
    refine g_getf fl3_69 ho rfl dX3_carryOut_4 ?_
    refine g_ord kX3_73 hK (c := 7) (by omega) (Nat.le_of_ble_eq_true rfl) (by decide) (by decide) (by decide) dX3_carryOut_7 ?_
    refine g_tald hK.2.2.2.1.2 (by omega) (by omega) dX3_carryOut_10 ?_
    refine g_switch (42) 53 dX3_carryOut_11 (by decide) (by decide) (by decide) (by decide) ?_
    refine g_aload_n dX3_carryOut_53 rfl ?_
    refine g_getf fl3_12 hB.1 rfl dX3_carryOut_54 ?_
    refine g_aload_n dX3_carryOut_57 rfl ?_
    refine g_aload_n dX3_carryOut_58 rfl ?_
    refine g_getf fl3_87 ho rfl dX3_carryOut_59 ?_
    rw [show oJ1 k 0 = nI ins from o3 rfl]
    refine g_callV0 kX3_90 (m4_insultAt ins (by omega) hPB) hPB.1 rfl rfl rfl (Nat.le_of_ble_eq_true rfl) (by decide) (by decide) (by decide) (by decide) dX3_carryOut_62 ?_
    rintro v1 h2 z1 ⟨rfl, rfl, rfl⟩
    refine g_callV0 kX3_83 (m5_hearWord hL (hP.word hok a1) (by omega)) hq.1 rfl rfl rfl (Nat.le_of_ble_eq_true rfl) (by decide) (by decide) (by decide) (by decide) dX3_carryOut_65 ?_
    rintro v1 h2 z1 ⟨rfl, rfl, hL2, hO3⟩
    refine g_iconst (nI 1) dX3_carryOut_68 (by decide) ?_
    exact g_iret hE rfl (⟨rfl, rfl, ⟨st, f, hB.off hO3 (by omega), hkk, hl2, hL2⟩, hO3.wide (by omega) (by omega)⟩) dX3_carryOut_69
  · have hA : ApP p q := hd
    rcases a0 with rfl | rfl
    · refine g_gets hK.2.2.2.1.1 wgX3_64 dX3_carryOut_0 ?_
      refine g_aload_n dX3_carryOut_3 rfl ?_
      refine g_getf fl3_69 ho rfl dX3_carryOut_4 ?_
      refine g_ord kX3_73 hK (c := 8) (by omega) (Nat.le_of_ble_eq_true rfl) (by decide) (by decide) (by decide) dX3_carryOut_7 ?_
      refine g_tald hK.2.2.2.1.2 (by omega) (by omega) dX3_carryOut_10 ?_
      refine g_switch (59) 70 dX3_carryOut_11 (by decide) (by decide) (by decide) (by decide) ?_
      refine g_aload_n dX3_carryOut_70 rfl ?_
      refine g_aload_n dX3_carryOut_71 rfl ?_
      refine g_aload_n dX3_carryOut_72 rfl ?_
      refine g_getf fl3_94 ho rfl dX3_carryOut_73 ?_
      refine g_aload_n dX3_carryOut_76 rfl ?_
      refine g_getf fl3_52 ho rfl dX3_carryOut_77 ?_
      refine g_aload_n dX3_carryOut_80 rfl ?_
      refine g_callV0 kX3_60 (m3_reckon s t _ g1 (by omega) hok (vl_of a1 L day).1 hK hP hA hS) hB.1 rfl rfl rfl (Nat.le_of_ble_eq_true rfl) (by decide) (by decide) (by decide) (by decide) dX3_carryOut_81 ?_
      rintro v1 h2 z1 ⟨rfl, rfl, hS2, hO2⟩
      obtain ⟨st2, f2, hB2, hkk2, hl3, hL3⟩ := id hS2
      refine g_callV0 kX3_97 (m3_echoSum _ hS2) hB2.1 rfl rfl rfl (Nat.le_of_ble_eq_true rfl) (by decide) (by decide) (by decide) (by decide) dX3_carryOut_84 ?_
      rintro v1 h3 z1 ⟨rfl, rfl, hS3, hO3⟩
      exact g_iret hE (nrB _) ⟨rfl, rfl, hS3, hO2.trans hO3⟩ dX3_carryOut_87
    · refine g_gets hK.2.2.2.1.1 wgX3_64 dX3_carryOut_0 ?_
      refine g_aload_n dX3_carryOut_3 rfl ?_
      refine g_getf fl3_69 ho rfl dX3_carryOut_4 ?_
      refine g_ord kX3_73 hK (c := 9) (by omega) (Nat.le_of_ble_eq_true rfl) (by decide) (by decide) (by decide) dX3_carryOut_7 ?_
      refine g_tald hK.2.2.2.1.2 (by omega) (by omega) dX3_carryOut_10 ?_
      refine g_switch (77) 88 dX3_carryOut_11 (by decide) (by decide) (by decide) (by decide) ?_
      refine g_aload_n dX3_carryOut_88 rfl ?_
      refine g_aload_n dX3_carryOut_89 rfl ?_
      refine g_aload_n dX3_carryOut_90 rfl ?_
      refine g_getf fl3_94 ho rfl dX3_carryOut_91 ?_
      refine g_aload_n dX3_carryOut_94 rfl ?_
      refine g_getf fl3_52 ho rfl dX3_carryOut_95 ?_
      refine g_aload_n dX3_carryOut_98 rfl ?_
      refine g_callV0 kX3_60 (m3_reckon s t _ g1 (by omega) hok (vl_of a1 L day).1 hK hP hA hS) hB.1 rfl rfl rfl (Nat.le_of_ble_eq_true rfl) (by decide) (by decide) (by decide) (by decide) dX3_carryOut_99 ?_
      rintro v1 h2 z1 ⟨rfl, rfl, hS2, hO2⟩
      obtain ⟨st2, f2, hB2, hkk2, hl3, hL3⟩ := id hS2
      refine g_callV0 kX3_101 (m3_forgetSum _ hS2) hB2.1 rfl rfl rfl (Nat.le_of_ble_eq_true rfl) (by decide) (by decide) (by decide) (by decide) dX3_carryOut_102 ?_
      rintro v1 h3 z1 ⟨rfl, rfl, hS3, hO3⟩
      exact g_iret hE (nrB _) ⟨rfl, rfl, hS3, hO2.trans hO3⟩ dX3_carryOut_105
set_option maxRecDepth 100000 in
set_option maxHeartbeats 4000000 in
theorem m3_liveDays {X : gX} {h : gH} {z q p : Nat} {L : List Int32} {day car : Int32} {K : gKo} {P : PlM} (d : Nat) (hdd : d ≤ 30) (hok : OkP P) (hK : gCo X K) (hP : PlC X K h p P) (hd : ApP p q) (hS : PaT X h q L day car) : gM X yX3_liveDays cX3_liveDays 6 none (8, 0, 0) [.ref q, .int (nI d), .ref p] h z (fun r h' z' => r = none ∧ z' = z ∧ PaT X h' q (dyU P ((L, car), day) d).1.1 (dyU P ((L, car), day) d).2 (dyU P ((L, car), day) d).1.2 ∧ OffB h h' q 8) gNoX := by
  obtain ⟨⟨h8, hW8⟩, ⟨h16, hoo⟩, h400, hx⟩ := id hok
  refine gM.of px3 (Nat.le_of_ble_eq_true rfl) ?_
  intro F hE
  have inner : ∀ (r j k : Nat) (o : Option Value) (L0 : List Int32) (c0 dy : Int32) (h1 : gH), j + r = P.2.1.1 → PaT X h1 q (odU P dy (L0, c0) j).1 dy (odU P dy (L0, c0) j).2 → OffB h h1 q 8 → (∀ (o : Option Value) (h2 : gH), PaT X h2 q (odU P dy (L0, c0) P.2.1.1).1 dy (odU P dy (L0, c0) P.2.1.1).2 → OffB h h2 q 8 → G X F cX3_liveDays 6 yX3_liveDays.cls (8, 0, 0) 0 0 64 [some (.ref q), some (.int (nI d)), some (.ref p), some (.int (nI k)), some (.int (nI P.2.1.1)), o] [] h2 z) → G X F cX3_liveDays 6 yX3_liveDays.cls (8, 0, 0) 0 0 10 [some (.ref q), some (.int (nI d)), some (.ref p), some (.int (nI k)), some (.int (nI j)), o] [] h1 z := by
    intro r
    induction r with
    | zero =>
      intro j k o L0 c0 dy h1 hj hS hO KK
      obtain ⟨S1, gg, wn1, wf1, oA1, oJ1, hPB, hPR⟩ := hP.off hO (by unfold ApP at hd; omega)
      have hj2 : j = P.2.1.1 := by omega
      subst hj2
      refine g_iload dX3_liveDays_10 rfl ?_
      refine g_aload_n dX3_liveDays_12 rfl ?_
      refine g_getf fl3_36 hPB.1 rfl dX3_liveDays_13 ?_
      refine g_icmp_geN 64 dX3_liveDays_16 (by decide) (by omega) (by omega) (fun c_16 => ?_) (fun c_16 => ?_)
      · exact KK o h1 hS hO
      · exact absurd c_16 (by omega)
    | succ r ih =>
      intro j k o L0 c0 dy h1 hj hS hO KK
      have hP1 := hP.off hO (by unfold ApP at hd; omega)
      obtain ⟨S1, gg, wn1, wf1, oA1, oJ1, hPB, hPR⟩ := id hP1
      obtain ⟨f1, e1, g1⟩ := hPB.2.1
      have hu : odU P dy (L0, c0) (j + 1) = od1 P (P.2.1.2 j) dy (odU P dy (L0, c0) j) := rfl
      generalize odU P dy (L0, c0) j = sj at hS hu
      have no : ∀ (o : Option Value) (h2 : gH), odU P dy (L0, c0) (j + 1) = sj → PaT X h2 q sj.1 dy sj.2 → OffB h h2 q 8 → G X F cX3_liveDays 6 yX3_liveDays.cls (8, 0, 0) 0 0 58 [some (.ref q), some (.int (nI d)), some (.ref p), some (.int (nI k)), some (.int (nI j)), o] [] h2 z := by
        intro o h2 e hS hO
        refine g_iincN dX3_liveDays_58 rfl (by decide) rfl ?_
        refine g_goto 10 dX3_liveDays_61 (by decide) ?_
        exact ih (j + 1) k o L0 c0 dy h2 (by omega) (by rw [e]; exact hS) hO KK
      have nxt : ∀ (o : Option Value) (h2 : gH) (b : Bool), odU P dy (L0, c0) (j + 1) = ((dos P (P.2.1.2 j) sj.1 dy).2, sj.2 + b2i b) → PaT X h2 q (dos P (P.2.1.2 j) sj.1 dy).2 dy (sj.2 + b2i b) → OffB h h2 q 8 → G X F cX3_liveDays 6 yX3_liveDays.cls (8, 0, 0) 0 0 58 [some (.ref q), some (.int (nI d)), some (.ref p), some (.int (nI k)), some (.int (nI j)), o] [] h2 z := by
        intro o h2 b e hS hO
        refine g_iincN dX3_liveDays_58 rfl (by decide) rfl ?_
        refine g_goto 10 dX3_liveDays_61 (by decide) ?_
        exact ih (j + 1) k o L0 c0 dy h2 (by omega) (by rw [e]; exact hS) hO KK
      obtain ⟨st, f, hB, hkk, hl2, hL⟩ := id hS
      refine g_iload dX3_liveDays_10 rfl ?_
      refine g_aload_n dX3_liveDays_12 rfl ?_
      refine g_getf fl3_36 hPB.1 rfl dX3_liveDays_13 ?_
      refine g_icmp_geN 64 dX3_liveDays_16 (by decide) (by omega) (by omega) (fun c_16 => ?_) (fun c_16 => ?_)
      · exact absurd c_16 (by omega)
      · refine g_aload_n dX3_liveDays_19 rfl ?_
        refine g_getf fl3_41 hPB.1 rfl dX3_liveDays_20 ?_
        refine g_iload dX3_liveDays_23 rfl ?_
        refine g_aaldN e1 rfl (by omega) (by decide) (g1 j (by omega)) dX3_liveDays_25 ?_
        refine g_astore dX3_liveDays_26 (by decide) rfl ?_
        refine g_aload_n dX3_liveDays_28 rfl ?_
        refine g_aload dX3_liveDays_29 rfl ?_
        refine g_aload_n dX3_liveDays_31 rfl ?_
        refine g_callV0 kX3_45 (m3_holds j (by omega) hok hK hP1 hd hS) hB.1 rfl rfl rfl (Nat.le_of_ble_eq_true rfl) (by decide) (by decide) (by decide) (by decide) dX3_liveDays_32 ?_
        rintro v1 h2 z1 ⟨rfl, rfl, hS2, hO2⟩
        obtain ⟨st2, f2, hB2, hkk2, hl3, hL3⟩ := id hS2
        refine g_if_eqB 58 dX3_liveDays_35 (by decide) (fun c_35 => ?_) (fun c_35 => ?_)
        · exact no _ h2 (by rw [hu]; unfold od1; rw [if_neg (by rw [c_35]; decide)]) hS2 (hO.trans hO2)
        · refine g_aload_n dX3_liveDays_38 rfl ?_
          refine g_aload dX3_liveDays_39 rfl ?_
          refine g_aload_n dX3_liveDays_41 rfl ?_
          refine g_callV0 kX3_49 (m3_carryOut j (by omega) hok hK (hP.off (hO.trans hO2) (by unfold ApP at hd; omega)) hd hS2) hB2.1 rfl rfl rfl (Nat.le_of_ble_eq_true rfl) (by decide) (by decide) (by decide) (by decide) dX3_liveDays_42 ?_
          rintro v1 h3 z1 ⟨rfl, rfl, hS3, hO3⟩
          obtain ⟨st4, f4, hB4, hkk4, hl4, hL4⟩ := id hS3
          refine g_if_eqB 58 dX3_liveDays_45 (by decide) (fun c_45 => ?_) (fun c_45 => ?_)
          · exact nxt _ h3 false (by rw [hu]; unfold od1; rw [if_pos c_35, c_45]) (by rw [show sj.2 + b2i false = sj.2 from Int32.add_zero _]; exact hS3) ((hO.trans hO2).trans hO3)
          · refine g_aload_n dX3_liveDays_48 rfl ?_
            refine g_dup dX3_liveDays_49 rfl ?_
            refine g_getf fl3_29 hB4.1 rfl dX3_liveDays_50 ?_
            refine g_iconst (nI 1) dX3_liveDays_53 (by decide) ?_
            refine g_iadd dX3_liveDays_54 ?_
            refine g_putf fl3_29 hB4.1 rfl rfl rfl (Nat.le_of_ble_eq_true rfl) dX3_liveDays_55 ?_
            exact nxt _ _ true (by rw [hu]; unfold od1; rw [if_pos c_35, c_45]) ⟨st4, f4, ⟨gset_same, (gset_ne (by omega)).trans hB4.2⟩, hkk4, hl4, hL4.putp (by omega)⟩ (((hO.trans hO2).trans hO3).put (by omega) (by omega))
  have outer : ∀ (r k : Nat) (oa ob : Option Value) (h1 : gH), k + r = d → PaT X h1 q (dyU P ((L, car), day) k).1.1 (dyU P ((L, car), day) k).2 (dyU P ((L, car), day) k).1.2 → OffB h h1 q 8 → G X F cX3_liveDays 6 yX3_liveDays.cls (8, 0, 0) 0 0 2 [some (.ref q), some (.int (nI d)), some (.ref p), some (.int (nI k)), oa, ob] [] h1 z := by
    intro r
    induction r with
    | zero =>
      intro k oa ob h1 hk hS hO
      have hkd : k = d := by omega
      subst hkd
      refine g_iload_n dX3_liveDays_2 rfl ?_
      refine g_iload_n dX3_liveDays_3 rfl ?_
      refine g_icmp_geN 80 dX3_liveDays_4 (by decide) (by omega) (by omega) (fun c_4 => ?_) (fun c_4 => ?_)
      · exact g_vret hE (⟨rfl, rfl, hS, hO⟩) dX3_liveDays_80
      · exact absurd c_4 (by omega)
    | succ r ih =>
      intro k oa ob h1 hk hS hO
      refine g_iload_n dX3_liveDays_2 rfl ?_
      refine g_iload_n dX3_liveDays_3 rfl ?_
      refine g_icmp_geN 80 dX3_liveDays_4 (by decide) (by omega) (by omega) (fun c_4 => ?_) (fun c_4 => ?_)
      · exact absurd c_4 (by omega)
      · refine g_iconst (nI 0) dX3_liveDays_7 (by decide) ?_
        refine g_istore dX3_liveDays_8 (by decide) rfl ?_
        refine inner P.2.1.1 0 k ob (dyU P ((L, car), day) k).1.1 (dyU P ((L, car), day) k).1.2 (dyU P ((L, car), day) k).2 h1 (by omega) hS hO ?_
        clear hS hO
        intro o2 h2 hS hO
        obtain ⟨st, f, hB, hkk, hl2, hL⟩ := hS
        refine g_aload_n dX3_liveDays_64 rfl ?_
        refine g_dup dX3_liveDays_65 rfl ?_
        refine g_getf fl3_25 hB.1 rfl dX3_liveDays_66 ?_
        refine g_iconst (nI 1) dX3_liveDays_69 (by decide) ?_
        refine g_iadd dX3_liveDays_70 ?_
        refine g_putf fl3_25 hB.1 rfl rfl rfl (Nat.le_of_ble_eq_true rfl) dX3_liveDays_71 ?_
        refine g_iincN dX3_liveDays_74 rfl (by decide) rfl ?_
        refine g_goto 2 dX3_liveDays_77 (by decide) ?_
        exact ih (k + 1) _ _ _ (by omega) ⟨st, f, ⟨gset_same, (gset_ne (by omega)).trans hB.2⟩, hkk, hl2, hL.putp (by omega)⟩ (hO.put (by omega) (by omega))
  refine g_iconst (nI 0) dX3_liveDays_0 (by decide) ?_
  refine g_istore_n dX3_liveDays_1 (by decide) rfl ?_
  exact outer d 0 _ _ h (by omega) hS OffB.rf
set_option maxRecDepth 100000 in
set_option maxHeartbeats 4000000 in
theorem m3_beginAnew {X : gX} {h : gH} {z q : Nat} {L : List Int32} {day car : Int32} (hS : PaT X h q L day car) : gM X yX3_beginAnew cX3_beginAnew 1 none (2, 0, 0) [.ref q] h z (fun r h' z' => r = none ∧ z' = z ∧ PaT X h' q [] 0 0 ∧ OffB h h' q 8) gNoX := by
  obtain ⟨st, f, hB, hkk, hl2, hL⟩ := hS
  obtain ⟨n9, I9, A9, hq, hi9⟩ := id hL
  refine gM.of px3 (Nat.le_of_ble_eq_true rfl) ?_
  intro F hE
  refine g_aload_n dX3_beginAnew_0 rfl ?_
  refine g_getf fl3_12 hB.1 rfl dX3_beginAnew_1 ?_
  refine g_callV0 kX3_22 (m5_forgetAll hL) hq.1 rfl rfl rfl (Nat.le_of_ble_eq_true rfl) (by decide) (by decide) (by decide) (by decide) dX3_beginAnew_4 ?_
  rintro v1 h2 z1 ⟨rfl, rfl, hL2, hO3⟩
  have hB2 := hB.off hO3 (by omega)
  refine g_aload_n dX3_beginAnew_7 rfl ?_
  refine g_iconst (nI 0) dX3_beginAnew_8 (by decide) ?_
  refine g_putf fl3_25 hB2.1 rfl rfl rfl (Nat.le_of_ble_eq_true rfl) dX3_beginAnew_9 ?_
  refine g_aload_n dX3_beginAnew_12 rfl ?_
  refine g_iconst (nI 0) dX3_beginAnew_13 (by decide) ?_
  refine g_putf fl3_29 gset_same rfl rfl rfl (Nat.le_of_ble_eq_true rfl) dX3_beginAnew_14 ?_
  exact g_vret hE (⟨rfl, rfl, ⟨st, f, ⟨gset_same, (gset_ne (by omega)).trans ((gset_ne (by omega)).trans hB2.2)⟩, hkk, hl2, (hL2.putp (by omega)).putp (by omega)⟩, ((hO3.wide (by omega) (by omega)).put (by omega) (by omega)).put (by omega) (by omega)⟩) dX3_beginAnew_17
set_option maxRecDepth 100000 in
set_option maxHeartbeats 4000000 in
theorem m3_becomeLike {X : gX} {h : gH} {z q q2 : Nat} {L L2 : List Int32} {day car day2 car2 : Int32} (hS : PaT X h q L day car) (hS2 : PaT X h q2 L2 day2 car2) (hd : q + 8 ≤ q2 ∨ q2 + 8 ≤ q) : gM X yX3_becomeLike cX3_becomeLike 2 none (2, 0, 0) [.ref q, .ref q2] h z (fun r h' z' => r = none ∧ z' = z ∧ PaT X h' q L2 day2 car2 ∧ OffB h h' q 8) gNoX := by
  obtain ⟨st, f, hB, hkk, hl2, hL⟩ := hS
  obtain ⟨st2, f2, hB2, hkk2, hl3, hL2⟩ := hS2
  obtain ⟨n9, I9, A9, hq, hi9⟩ := id hL
  refine gM.of px3 (Nat.le_of_ble_eq_true rfl) ?_
  intro F hE
  refine g_aload_n dX3_becomeLike_0 rfl ?_
  refine g_getf fl3_12 hB.1 rfl dX3_becomeLike_1 ?_
  refine g_aload_n dX3_becomeLike_4 rfl ?_
  refine g_getf fl3_12 hB2.1 rfl dX3_becomeLike_5 ?_
  refine g_callV0 kX3_32 (m5_becomeLike hL hL2 (by omega)) hq.1 rfl rfl rfl (Nat.le_of_ble_eq_true rfl) (by decide) (by decide) (by decide) (by decide) dX3_becomeLike_8 ?_
  rintro v1 h2 z1 ⟨rfl, rfl, hL9, hO3⟩
  have hB2 := hB2.off hO3 (by omega)
  have hB4 := hB.off hO3 (by omega)
  have hB3 := hB2
  refine g_aload_n dX3_becomeLike_11 rfl ?_
  refine g_aload_n dX3_becomeLike_12 rfl ?_
  refine g_getf fl3_25 hB3.1 rfl dX3_becomeLike_13 ?_
  refine g_putf fl3_25 hB4.1 rfl rfl rfl (Nat.le_of_ble_eq_true rfl) dX3_becomeLike_16 ?_
  refine g_aload_n dX3_becomeLike_19 rfl ?_
  refine g_aload_n dX3_becomeLike_20 rfl ?_
  refine g_getf fl3_29 ((gset_ne (by omega)).trans hB3.1) rfl dX3_becomeLike_21 ?_
  refine g_putf fl3_29 gset_same rfl rfl rfl (Nat.le_of_ble_eq_true rfl) dX3_becomeLike_24 ?_
  exact g_vret hE (⟨rfl, rfl, ⟨st, f, ⟨gset_same, (gset_ne (by omega)).trans ((gset_ne (by omega)).trans hB4.2)⟩, hkk, hl2, (hL9.putp (by omega)).putp (by omega)⟩, ((hO3.wide (by omega) (by omega)).put (by omega) (by omega)).put (by omega) (by omega)⟩) dX3_becomeLike_27
