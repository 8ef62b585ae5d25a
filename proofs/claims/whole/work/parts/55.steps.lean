/-! the plan that is lived by; one step of a sum or a test -/
/-- the plan at p: nw insults, no orders, ns steps; S: the steps, g: the operands, wn and wf: the words (8 insults, then those heard), oA: what orders do, oJ: their numbers -/
def PlB (X : gX) (h : gH) (p nw no ns : Nat) (S : Nat → Option Nat) (g : Nat → Int32) (wn : Nat → Nat) (wf : Nat → Nat → Int32) (oA : Nat → Nat) (oJ : Nat → Nat → Int32) : Prop :=
  h p = some (.inr (3, [.ref (p + 1), .ref (p + 2), .ref (p + 3), .int (nI nw), .int (nI no), .int (nI ns), .ref (p + 4)])) ∧
  (∃ f, h (p + 1) = some (gRA X 4 16 f) ∧ ∀ i, i < 16 → f i = some (p + 21 + 3 * i)) ∧
  h (p + 2) = some (gRA X 2 400 S) ∧ h (p + 3) = some (gIA X 400 g) ∧
  (∃ f, h (p + 4) = some (gRA X 3 8 f) ∧ ∀ i, i < 8 → f i = some (p + 5 + 2 * i)) ∧
  (∀ i, i < 8 → WdB X h (p + 5 + 2 * i) (wn i) (wf i)) ∧
  ∀ k, k < 16 → h (p + 21 + 3 * k) = some (.inr (1, [.ref (p + 22 + 3 * k), .ref (oA k), .int (oJ k 0), .int (oJ k 1), .int (oJ k 2), .int (oJ k 3)])) ∧ WdB X h (p + 22 + 3 * k) (wn (8 + k)) (wf (8 + k))
theorem PlB.off {X : gX} {h h' : gH} {p nw no ns b m : Nat} {S : Nat → Option Nat} {g : Nat → Int32} {wn : Nat → Nat} {wf : Nat → Nat → Int32} {oA : Nat → Nat} {oJ : Nat → Nat → Int32} (hP : PlB X h p nw no ns S g wn wf oA oJ) (hO : OffB h h' b m) (hd : p + 69 ≤ b ∨ b + m ≤ p) : PlB X h' p nw no ns S g wn wf oA oJ := by
  obtain ⟨h1, ⟨f2, h2, g2⟩, h3, h4, ⟨f5, h5, g5⟩, h6, h7⟩ := hP
  exact ⟨(hO _ (by omega)).trans h1, ⟨f2, (hO _ (by omega)).trans h2, g2⟩, (hO _ (by omega)).trans h3, (hO _ (by omega)).trans h4, ⟨f5, (hO _ (by omega)).trans h5, g5⟩, fun i hi => (h6 i hi).off hO (by omega), fun k hk => ⟨(hO _ (by omega)).trans (h7 k hk).1, (h7 k hk).2.off hO (by omega)⟩⟩
/-- the word W in letters f -/
abbrev wdf (n : Nat) (f : Nat → Int32) (W : List Nat) : Prop := n = (wl W).length ∧ ∀ j, j < (wl W).length → f j = lt (wl W) j
def PlR (K : gKo) (P : PlM) (S : Nat → Option Nat) (g : Nat → Int32) (wn : Nat → Nat) (wf : Nat → Nat → Int32) (oA : Nat → Nat) (oJ : Nat → Nat → Int32) : Prop :=
  (∀ i, i < P.1.1 → wdf (wn i) (wf i) (P.1.2 i)) ∧
  (∀ k, k < P.2.1.1 → oA k = K.1 (P.2.1.2 k).1.1 ∧ ((P.2.1.2 k).1.1 = 6 → wdf (wn (8 + k)) (wf (8 + k)) (P.2.1.2 k).1.2.2) ∧ ((P.2.1.2 k).1.1 = 7 → oJ k 0 = nI (P.2.1.2 k).1.2.1) ∧ oJ k 1 = nI (P.2.1.2 k).2.1 ∧ oJ k 2 = nI (P.2.1.2 k).2.2.1 ∧ oJ k 3 = nI (P.2.1.2 k).2.2.2) ∧
  ∀ j, j < P.2.2.1 → S j = some (K.1 (P.2.2.2 j).1) ∧ g j = (P.2.2.2 j).2
/-- the plan P at p -/
def PlC (X : gX) (K : gKo) (h : gH) (p : Nat) (P : PlM) : Prop := ∃ S g wn wf oA oJ, PlB X h p P.1.1 P.2.1.1 P.2.2.1 S g wn wf oA oJ ∧ PlR K P S g wn wf oA oJ
theorem PlC.off {X : gX} {K : gKo} {h h' : gH} {p b m : Nat} {P : PlM} (hP : PlC X K h p P) (hO : OffB h h' b m) (hd : p + 69 ≤ b ∨ b + m ≤ p) : PlC X K h' p P := by
  obtain ⟨S, g, wn, wf, oA, oJ, h1, h2⟩ := hP
  exact ⟨S, g, wn, wf, oA, oJ, h1.off hO hd, h2⟩
theorem PlC.word {X : gX} {K : gKo} {h : gH} {p i : Nat} {P : PlM} (hP : PlC X K h p P) (hok : OkP P) (hi : i < P.1.1) : WdL X h (p + 5 + 2 * i) (wl (P.1.2 i)) := by
  obtain ⟨S, g, wn, wf, oA, oJ, h1, h2⟩ := hP
  obtain ⟨e1, e2⟩ := h2.1 i hi
  have hw := hok.1.2 i hi
  have := h1.2.2.2.2.2.1 i (by have := hok.1.1; omega)
  rw [e1] at this
  exact ⟨_, this, by rw [wl_len]; exact hw.2.1, e2⟩
theorem nI_diff {L : List Int32} : nI (L.length * (L.length + 1) / 2) - nI (sms L) = nI (akU L L.length) := by
  have h := kinds_all L
  rw [← h, pk_sub (by omega), Nat.add_sub_cancel]
theorem clamp_ne {x : Int32} {n : Nat} (hn : n < 2 ^ 31) : clampN x n ≠ 0 ↔ 0 < x ∧ 0 < n := by
  have e0 : (nI 0).toInt = 0 := rfl
  have e1 : (0 : Int32).toInt = 0 := rfl
  have en : (nI n).toInt = (n : Int) := nI_toInt hn
  unfold clampN
  split
  · rename_i h; simp only [Int32.lt_iff_toInt_lt] at *; constructor
    · intro q; exact absurd rfl q
    · intro q; omega
  · split
    · rename_i h1 h2; simp only [Int32.lt_iff_toInt_lt] at *; constructor
      · intro q; omega
      · intro q; omega
    · rename_i h1 h2
      have h3 : x.toNatClampNeg = x.toInt.toNat := rfl
      simp only [Int32.lt_iff_toInt_lt] at *
      rw [h3]
      omega
set_option maxRecDepth 100000 in
set_option maxHeartbeats 4000000 in
theorem m4_insultAt {X : gX} {h : gH} {z p nw no ns : Nat} {S : Nat → Option Nat} {g : Nat → Int32} {wn : Nat → Nat} {wf : Nat → Nat → Int32} {oA : Nat → Nat} {oJ : Nat → Nat → Int32} (i : Nat) (hi : i < 8) (hP : PlB X h p nw no ns S g wn wf oA oJ) : gM X yX4_insultAt cX4_insultAt 2 (some (.object "ParrotSquawks$Word")) (0, 0, 0) [.ref p, .int (nI i)] h z (fun r h' z' => r = some (.ref (p + 5 + 2 * i)) ∧ h' = h ∧ z' = z) gNoX := by
  obtain ⟨h1, -, -, -, ⟨f5, h5, g5⟩, -⟩ := hP
  refine gM.of px4 (Nat.le_of_ble_eq_true rfl) ?_
  intro F hE
  refine g_aload_n dX4_insultAt_0 rfl ?_
  refine g_getf fl4_29 h1 rfl dX4_insultAt_1 ?_
  refine g_iload_n dX4_insultAt_4 rfl ?_
  refine g_if_ltN 18 dX4_insultAt_5 (by decide) (by omega) ?_
  refine g_iload_n dX4_insultAt_8 rfl ?_
  refine g_bipush (nI 8) dX4_insultAt_9 (by decide) ?_
  refine g_icmp_geN 18 dX4_insultAt_11 (by decide) (by omega) (by omega) (fun c_11 => ?_) (fun c_11 => ?_)
  · exact absurd c_11 (by omega)
  · refine g_iload_n dX4_insultAt_14 rfl ?_
    refine g_goto 19 dX4_insultAt_15 (by decide) ?_
    refine g_aaldN h5 rfl (by omega) (by decide) (g5 i hi) dX4_insultAt_19 ?_
    exact g_aret (C := "ParrotSquawks$Word") hE (⟨rfl, rfl, rfl⟩) dX4_insultAt_20
set_option maxRecDepth 100000 in
set_option maxHeartbeats 4000000 in
theorem m3_doStep_3 {X : gX} {h : gH} {z q p : Nat} {L : List Int32} {day car : Int32} {st : List Int32} {K : gKo} {P : PlM} (x : Int32) (hK : gCo X K) (hl : st.length < 64) (hS : PaS X h q L day car st) : gM X yX3_doStep cX3_doStep 4 none (5, 0, 0) [.ref q, .ref (K.1 3), .int x, .ref p] h z (fun r h' z' => r = none ∧ z' = z ∧ PaS X h' q L day car (atm L day P.1.2 3 x :: st) ∧ OffB h h' q 8) gNoX := by
  refine gM.of px3 (Nat.le_of_ble_eq_true rfl) ?_
  intro F hE
  have hO : OffB h h q 8 := OffB.rf
  obtain ⟨f, hB, hk, hl2, hL⟩ := id hS
  obtain ⟨n9, I9, A9, hq, hi9⟩ := id hL
  refine g_gets hK.2.2.2.1.1 wgX3_64 dX3_doStep_0 ?_
  refine g_aload_n dX3_doStep_3 rfl ?_
  refine g_ord kX3_73 hK (c := 3) (by omega) (Nat.le_of_ble_eq_true rfl) (by decide) (by decide) (by decide) dX3_doStep_4 ?_
  refine g_tald hK.2.2.2.1.2 (by omega) (by omega) dX3_doStep_7 ?_
  refine g_switch (92) 100 dX3_doStep_8 (by decide) (by decide) (by decide) (by decide) ?_
  refine g_aload_n dX3_doStep_100 rfl ?_
  refine g_iload_n dX3_doStep_101 rfl ?_
  refine g_callV0 kX3_131 (m3_push x (hl) hS) hB.1 rfl rfl rfl (Nat.le_of_ble_eq_true rfl) (by decide) (by decide) (by decide) (by decide) dX3_doStep_102 ?_
  rintro v1 h2 z1 ⟨rfl, rfl, hS, hO2⟩
  have hO := hO.trans hO2
  refine g_goto 260 dX3_doStep_105 (by decide) ?_
  exact g_vret hE (⟨rfl, rfl, hS, hO⟩) dX3_doStep_260
set_option maxRecDepth 100000 in
set_option maxHeartbeats 4000000 in
theorem m3_doStep_11 {X : gX} {h : gH} {z q p : Nat} {L : List Int32} {day car : Int32} {st : List Int32} {K : gKo} {P : PlM} (x : Int32) (hK : gCo X K) (hl : st.length < 64) (hS : PaS X h q L day car st) : gM X yX3_doStep cX3_doStep 4 none (5, 0, 0) [.ref q, .ref (K.1 11), .int x, .ref p] h z (fun r h' z' => r = none ∧ z' = z ∧ PaS X h' q L day car (atm L day P.1.2 11 x :: st) ∧ OffB h h' q 8) gNoX := by
  refine gM.of px3 (Nat.le_of_ble_eq_true rfl) ?_
  intro F hE
  have hO : OffB h h q 8 := OffB.rf
  obtain ⟨f, hB, hk, hl2, hL⟩ := id hS
  obtain ⟨n9, I9, A9, hq, hi9⟩ := id hL
  refine g_gets hK.2.2.2.1.1 wgX3_64 dX3_doStep_0 ?_
  refine g_aload_n dX3_doStep_3 rfl ?_
  refine g_ord kX3_73 hK (c := 11) (by omega) (Nat.le_of_ble_eq_true rfl) (by decide) (by decide) (by decide) dX3_doStep_4 ?_
  refine g_tald hK.2.2.2.1.2 (by omega) (by omega) dX3_doStep_7 ?_
  refine g_switch (100) 108 dX3_doStep_8 (by decide) (by decide) (by decide) (by decide) ?_
  refine g_aload_n dX3_doStep_108 rfl ?_
  refine g_aload_n dX3_doStep_109 rfl ?_
  refine g_getf fl3_25 hB.1 rfl dX3_doStep_110 ?_
  refine g_callV0 kX3_131 (m3_push day (hl) hS) hB.1 rfl rfl rfl (Nat.le_of_ble_eq_true rfl) (by decide) (by decide) (by decide) (by decide) dX3_doStep_113 ?_
  rintro v1 h2 z1 ⟨rfl, rfl, hS, hO2⟩
  have hO := hO.trans hO2
  refine g_goto 260 dX3_doStep_116 (by decide) ?_
  exact g_vret hE (⟨rfl, rfl, hS, hO⟩) dX3_doStep_260
set_option maxRecDepth 100000 in
set_option maxHeartbeats 4000000 in
theorem m3_doStep_12 {X : gX} {h : gH} {z q p : Nat} {L : List Int32} {day car : Int32} {st : List Int32} {K : gKo} {P : PlM} (x : Int32) (hK : gCo X K) (hl : st.length < 64) (hS : PaS X h q L day car st) : gM X yX3_doStep cX3_doStep 4 none (5, 0, 0) [.ref q, .ref (K.1 12), .int x, .ref p] h z (fun r h' z' => r = none ∧ z' = z ∧ PaS X h' q L day car (atm L day P.1.2 12 x :: st) ∧ OffB h h' q 8) gNoX := by
  refine gM.of px3 (Nat.le_of_ble_eq_true rfl) ?_
  intro F hE
  have hO : OffB h h q 8 := OffB.rf
  obtain ⟨f, hB, hk, hl2, hL⟩ := id hS
  obtain ⟨n9, I9, A9, hq, hi9⟩ := id hL
  refine g_gets hK.2.2.2.1.1 wgX3_64 dX3_doStep_0 ?_
  refine g_aload_n dX3_doStep_3 rfl ?_
  refine g_ord kX3_73 hK (c := 12) (by omega) (Nat.le_of_ble_eq_true rfl) (by decide) (by decide) (by decide) dX3_doStep_4 ?_
  refine g_tald hK.2.2.2.1.2 (by omega) (by omega) dX3_doStep_7 ?_
  refine g_switch (111) 119 dX3_doStep_8 (by decide) (by decide) (by decide) (by decide) ?_
  refine g_aload_n dX3_doStep_119 rfl ?_
  refine g_aload_n dX3_doStep_120 rfl ?_
  refine g_getf fl3_12 hB.1 rfl dX3_doStep_121 ?_
  refine g_getf fl3_104 hq.1 rfl dX3_doStep_124 ?_
  rw [hi9.1]
  refine g_callV0 kX3_131 (m3_push (nI L.length) (hl) hS) hB.1 rfl rfl rfl (Nat.le_of_ble_eq_true rfl) (by decide) (by decide) (by decide) (by decide) dX3_doStep_127 ?_
  rintro v1 h2 z1 ⟨rfl, rfl, hS, hO2⟩
  have hO := hO.trans hO2
  refine g_goto 260 dX3_doStep_130 (by decide) ?_
  exact g_vret hE (⟨rfl, rfl, hS, hO⟩) dX3_doStep_260
set_option maxRecDepth 100000 in
set_option maxHeartbeats 4000000 in
theorem m3_doStep_13 {X : gX} {h : gH} {z q p : Nat} {L : List Int32} {day car : Int32} {st : List Int32} {K : gKo} {P : PlM} (x : Int32) (hK : gCo X K) (hl : st.length < 64) (hS : PaS X h q L day car st) : gM X yX3_doStep cX3_doStep 4 none (5, 0, 0) [.ref q, .ref (K.1 13), .int x, .ref p] h z (fun r h' z' => r = none ∧ z' = z ∧ PaS X h' q L day car (atm L day P.1.2 13 x :: st) ∧ OffB h h' q 8) gNoX := by
  refine gM.of px3 (Nat.le_of_ble_eq_true rfl) ?_
  intro F hE
  have hO : OffB h h q 8 := OffB.rf
  obtain ⟨f, hB, hk, hl2, hL⟩ := id hS
  obtain ⟨n9, I9, A9, hq, hi9⟩ := id hL
  refine g_gets hK.2.2.2.1.1 wgX3_64 dX3_doStep_0 ?_
  refine g_aload_n dX3_doStep_3 rfl ?_
  refine g_ord kX3_73 hK (c := 13) (by omega) (Nat.le_of_ble_eq_true rfl) (by decide) (by decide) (by decide) dX3_doStep_4 ?_
  refine g_tald hK.2.2.2.1.2 (by omega) (by omega) dX3_doStep_7 ?_
  refine g_switch (125) 133 dX3_doStep_8 (by decide) (by decide) (by decide) (by decide) ?_
  refine g_aload_n dX3_doStep_133 rfl ?_
  refine g_aload_n dX3_doStep_134 rfl ?_
  refine g_getf fl3_12 hB.1 rfl dX3_doStep_135 ?_
  refine g_callV0 kX3_134 (m5_longestRepeated hL) hq.1 rfl rfl rfl (Nat.le_of_ble_eq_true rfl) (by decide) (by decide) (by decide) (by decide) dX3_doStep_138 ?_
  rintro v1 h2 z1 ⟨rfl, rfl, hL2, hO3⟩
  have hB2 := hB.off hO3 (by omega)
  have hS : PaS X h2 q L day car st := ⟨f, hB2, hk, hl2, hL2⟩
  have hO := hO.trans (hO3.wide (by omega) (by omega))
  refine g_callV0 kX3_131 (m3_push (nI (lon L)) hl hS) hB2.1 rfl rfl rfl (Nat.le_of_ble_eq_true rfl) (by decide) (by decide) (by decide) (by decide) dX3_doStep_141 ?_
  rintro v1 h3 z1 ⟨rfl, rfl, hS, hO2⟩
  have hO := hO.trans hO2
  refine g_goto 260 dX3_doStep_144 (by decide) ?_
  exact g_vret hE (⟨rfl, rfl, hS, hO⟩) dX3_doStep_260
set_option maxRecDepth 100000 in
set_option maxHeartbeats 4000000 in
theorem m3_doStep_14 {X : gX} {h : gH} {z q p : Nat} {L : List Int32} {day car : Int32} {st : List Int32} {K : gKo} {P : PlM} (x : Int32) (hK : gCo X K) (hl : st.length < 64) (hS : PaS X h q L day car st) : gM X yX3_doStep cX3_doStep 4 none (5, 0, 0) [.ref q, .ref (K.1 14), .int x, .ref p] h z (fun r h' z' => r = none ∧ z' = z ∧ PaS X h' q L day car (atm L day P.1.2 14 x :: st) ∧ OffB h h' q 8) gNoX := by
  refine gM.of px3 (Nat.le_of_ble_eq_true rfl) ?_
  intro F hE
  have hO : OffB h h q 8 := OffB.rf
  obtain ⟨f, hB, hk, hl2, hL⟩ := id hS
  obtain ⟨n9, I9, A9, hq, hi9⟩ := id hL
  refine g_gets hK.2.2.2.1.1 wgX3_64 dX3_doStep_0 ?_
  refine g_aload_n dX3_doStep_3 rfl ?_
  refine g_ord kX3_73 hK (c := 14) (by omega) (Nat.le_of_ble_eq_true rfl) (by decide) (by decide) (by decide) dX3_doStep_4 ?_
  refine g_tald hK.2.2.2.1.2 (by omega) (by omega) dX3_doStep_7 ?_
  refine g_switch (139) 147 dX3_doStep_8 (by decide) (by decide) (by decide) (by decide) ?_
  refine g_aload_n dX3_doStep_147 rfl ?_
  refine g_aload_n dX3_doStep_148 rfl ?_
  refine g_getf fl3_12 hB.1 rfl dX3_doStep_149 ?_
  refine g_callV0 kX3_137 (m5_differentPhrases hL) hq.1 rfl rfl rfl (Nat.le_of_ble_eq_true rfl) (by decide) (by decide) (by decide) (by decide) dX3_doStep_152 ?_
  rintro v1 h2 z1 ⟨rfl, rfl, hL2, hO3⟩
  have hB2 := hB.off hO3 (by omega)
  have hS : PaS X h2 q L day car st := ⟨f, hB2, hk, hl2, hL2⟩
  have hO := hO.trans (hO3.wide (by omega) (by omega))
  refine g_callV0 kX3_131 (m3_push (nI (L.length * (L.length + 1) / 2) - nI (sms L)) hl hS) hB2.1 rfl rfl rfl (Nat.le_of_ble_eq_true rfl) (by decide) (by decide) (by decide) (by decide) dX3_doStep_155 ?_
  rintro v1 h3 z1 ⟨rfl, rfl, hS, hO2⟩
  have hO := hO.trans hO2
  refine g_goto 260 dX3_doStep_158 (by decide) ?_
  exact g_vret hE (⟨rfl, rfl, (by rw [nI_diff] at hS; exact hS), hO⟩) dX3_doStep_260
set_option maxRecDepth 100000 in
set_option maxHeartbeats 4000000 in
theorem m3_doStep_15 {X : gX} {h : gH} {z q p : Nat} {L : List Int32} {day car : Int32} {st : List Int32} {K : gKo} {P : PlM} (i : Nat) (hi : i < P.1.1) (hok : OkP P) (hP : PlC X K h p P) (hK : gCo X K) (hl : st.length < 64) (hS : PaS X h q L day car st) : gM X yX3_doStep cX3_doStep 4 none (5, 0, 0) [.ref q, .ref (K.1 15), .int (nI i), .ref p] h z (fun r h' z' => r = none ∧ z' = z ∧ PaS X h' q L day car (atm L day P.1.2 15 (nI i) :: st) ∧ OffB h h' q 8) gNoX := by
  refine gM.of px3 (Nat.le_of_ble_eq_true rfl) ?_
  intro F hE
  have hO : OffB h h q 8 := OffB.rf
  obtain ⟨f, hB, hk, hl2, hL⟩ := id hS
  obtain ⟨n9, I9, A9, hq, hi9⟩ := id hL
  obtain ⟨S1, g1, wn1, wf1, oA1, oJ1, hPB, hPR⟩ := id hP
  refine g_gets hK.2.2.2.1.1 wgX3_64 dX3_doStep_0 ?_
  refine g_aload_n dX3_doStep_3 rfl ?_
  refine g_ord kX3_73 hK (c := 15) (by omega) (Nat.le_of_ble_eq_true rfl) (by decide) (by decide) (by decide) dX3_doStep_4 ?_
  refine g_tald hK.2.2.2.1.2 (by omega) (by omega) dX3_doStep_7 ?_
  refine g_switch (153) 161 dX3_doStep_8 (by decide) (by decide) (by decide) (by decide) ?_
  refine g_aload_n dX3_doStep_161 rfl ?_
  refine g_aload_n dX3_doStep_162 rfl ?_
  refine g_getf fl3_12 hB.1 rfl dX3_doStep_163 ?_
  refine g_aload_n dX3_doStep_166 rfl ?_
  refine g_iload_n dX3_doStep_167 rfl ?_
  refine g_callV0 kX3_90 (m4_insultAt i (by have := hok.1.1; omega) hPB) hPB.1 rfl rfl rfl (Nat.le_of_ble_eq_true rfl) (by decide) (by decide) (by decide) (by decide) dX3_doStep_168 ?_
  rintro v1 h2 z1 ⟨rfl, rfl, rfl⟩
  refine g_callV0 kX3_140 (m5_placesWith hL (hP.word hok hi)) hq.1 rfl rfl rfl (Nat.le_of_ble_eq_true rfl) (by decide) (by decide) (by decide) (by decide) dX3_doStep_171 ?_
  rintro v1 h2 z1 ⟨rfl, rfl, rfl⟩
  refine g_callV0 kX3_131 (m3_push (nI (cnt (stands L (wl (P.1.2 i))) L.length)) (hl) hS) hB.1 rfl rfl rfl (Nat.le_of_ble_eq_true rfl) (by decide) (by decide) (by decide) (by decide) dX3_doStep_174 ?_
  rintro v1 h2 z1 ⟨rfl, rfl, hS, hO2⟩
  have hO := hO.trans hO2
  refine g_goto 260 dX3_doStep_177 (by decide) ?_
  exact g_vret hE (⟨rfl, rfl, by rw [show atm L day P.1.2 15 (nI i) = (nI (cnt (stands L (wl (P.1.2 i))) L.length)) from by rw [show atm L day P.1.2 15 (nI i) = (nI (cnt (stands L (wl (P.1.2 (nI i).toNatClampNeg))) L.length)) from rfl, clamp_nI (by have := hok.1.1; omega)]]; exact hS, hO⟩) dX3_doStep_260
set_option maxRecDepth 100000 in
set_option maxHeartbeats 4000000 in
theorem m3_doStep_16 {X : gX} {h : gH} {z q p : Nat} {L : List Int32} {day car : Int32} {st : List Int32} {K : gKo} {P : PlM} (i : Nat) (hi : i < P.1.1) (hok : OkP P) (hP : PlC X K h p P) (hK : gCo X K) (hl : st.length < 64) (hS : PaS X h q L day car st) : gM X yX3_doStep cX3_doStep 4 none (5, 0, 0) [.ref q, .ref (K.1 16), .int (nI i), .ref p] h z (fun r h' z' => r = none ∧ z' = z ∧ PaS X h' q L day car (atm L day P.1.2 16 (nI i) :: st) ∧ OffB h h' q 8) gNoX := by
  refine gM.of px3 (Nat.le_of_ble_eq_true rfl) ?_
  intro F hE
  have hO : OffB h h q 8 := OffB.rf
  obtain ⟨f, hB, hk, hl2, hL⟩ := id hS
  obtain ⟨n9, I9, A9, hq, hi9⟩ := id hL
  obtain ⟨S1, g1, wn1, wf1, oA1, oJ1, hPB, hPR⟩ := id hP
  refine g_gets hK.2.2.2.1.1 wgX3_64 dX3_doStep_0 ?_
  refine g_aload_n dX3_doStep_3 rfl ?_
  refine g_ord kX3_73 hK (c := 16) (by omega) (Nat.le_of_ble_eq_true rfl) (by decide) (by decide) (by decide) dX3_doStep_4 ?_
  refine g_tald hK.2.2.2.1.2 (by omega) (by omega) dX3_doStep_7 ?_
  refine g_switch (172) 180 dX3_doStep_8 (by decide) (by decide) (by decide) (by decide) ?_
  refine g_aload_n dX3_doStep_180 rfl ?_
  refine g_aload_n dX3_doStep_181 rfl ?_
  refine g_getf fl3_12 hB.1 rfl dX3_doStep_182 ?_
  refine g_aload_n dX3_doStep_185 rfl ?_
  refine g_iload_n dX3_doStep_186 rfl ?_
  refine g_callV0 kX3_90 (m4_insultAt i (by have := hok.1.1; omega) hPB) hPB.1 rfl rfl rfl (Nat.le_of_ble_eq_true rfl) (by decide) (by decide) (by decide) (by decide) dX3_doStep_187 ?_
  rintro v1 h2 z1 ⟨rfl, rfl, rfl⟩
  refine g_callV0 kX3_144 (m5_firstPlaceWith hL (hP.word hok hi)) hq.1 rfl rfl rfl (Nat.le_of_ble_eq_true rfl) (by decide) (by decide) (by decide) (by decide) dX3_doStep_190 ?_
  rintro v1 h2 z1 ⟨rfl, rfl, rfl⟩
  refine g_callV0 kX3_131 (m3_push (oI (fstA (stands L (wl (P.1.2 i))) L.length 0)) (hl) hS) hB.1 rfl rfl rfl (Nat.le_of_ble_eq_true rfl) (by decide) (by decide) (by decide) (by decide) dX3_doStep_193 ?_
  rintro v1 h2 z1 ⟨rfl, rfl, hS, hO2⟩
  have hO := hO.trans hO2
  refine g_goto 260 dX3_doStep_196 (by decide) ?_
  exact g_vret hE (⟨rfl, rfl, by rw [show atm L day P.1.2 16 (nI i) = (oI (fstA (stands L (wl (P.1.2 i))) L.length 0)) from by rw [show atm L day P.1.2 16 (nI i) = (oI (fstA (stands L (wl (P.1.2 (nI i).toNatClampNeg))) L.length 0)) from rfl, clamp_nI (by have := hok.1.1; omega)]]; exact hS, hO⟩) dX3_doStep_260
set_option maxRecDepth 100000 in
set_option maxHeartbeats 4000000 in
theorem m3_doStep_18 {X : gX} {h : gH} {z q p : Nat} {L : List Int32} {day car : Int32} {st : List Int32} {K : gKo} {P : PlM} (i : Nat) (hi : i < P.1.1) (hok : OkP P) (hP : PlC X K h p P) (hK : gCo X K) (hl : st.length < 64) (hS : PaS X h q L day car st) : gM X yX3_doStep cX3_doStep 4 none (5, 0, 0) [.ref q, .ref (K.1 18), .int (nI i), .ref p] h z (fun r h' z' => r = none ∧ z' = z ∧ PaS X h' q L day car (atm L day P.1.2 18 (nI i) :: st) ∧ OffB h h' q 8) gNoX := by
  refine gM.of px3 (Nat.le_of_ble_eq_true rfl) ?_
  intro F hE
  have hO : OffB h h q 8 := OffB.rf
  obtain ⟨f, hB, hk, hl2, hL⟩ := id hS
  obtain ⟨n9, I9, A9, hq, hi9⟩ := id hL
  obtain ⟨S1, g1, wn1, wf1, oA1, oJ1, hPB, hPR⟩ := id hP
  refine g_gets hK.2.2.2.1.1 wgX3_64 dX3_doStep_0 ?_
  refine g_aload_n dX3_doStep_3 rfl ?_
  refine g_ord kX3_73 hK (c := 18) (by omega) (Nat.le_of_ble_eq_true rfl) (by decide) (by decide) (by decide) dX3_doStep_4 ?_
  refine g_tald hK.2.2.2.1.2 (by omega) (by omega) dX3_doStep_7 ?_
  refine g_switch (191) 199 dX3_doStep_8 (by decide) (by decide) (by decide) (by decide) ?_
  refine g_aload_n dX3_doStep_199 rfl ?_
  refine g_aload_n dX3_doStep_200 rfl ?_
  refine g_getf fl3_12 hB.1 rfl dX3_doStep_201 ?_
  refine g_aload_n dX3_doStep_204 rfl ?_
  refine g_iload_n dX3_doStep_205 rfl ?_
  refine g_callV0 kX3_90 (m4_insultAt i (by have := hok.1.1; omega) hPB) hPB.1 rfl rfl rfl (Nat.le_of_ble_eq_true rfl) (by decide) (by decide) (by decide) (by decide) dX3_doStep_206 ?_
  rintro v1 h2 z1 ⟨rfl, rfl, rfl⟩
  refine g_callV0 kX3_147 (m5_isKnown hL (hP.word hok hi)) hq.1 rfl rfl rfl (Nat.le_of_ble_eq_true rfl) (by decide) (by decide) (by decide) (by decide) dX3_doStep_209 ?_
  rintro v1 h2 z1 ⟨rfl, rfl, rfl⟩
  refine g_callS0 kX3_151 (m3_truth (fstA (stands L (wl (P.1.2 i))) L.length 0).isSome) rfl rfl (Nat.le_of_ble_eq_true rfl) (by decide) (by decide) (by decide) (by decide) dX3_doStep_212 ?_
  rintro v1 h2 z1 ⟨rfl, rfl, rfl⟩
  refine g_callV0 kX3_131 (m3_push (b2i (fstA (stands L (wl (P.1.2 i))) L.length 0).isSome) (hl) hS) hB.1 rfl rfl rfl (Nat.le_of_ble_eq_true rfl) (by decide) (by decide) (by decide) (by decide) dX3_doStep_215 ?_
  rintro v1 h2 z1 ⟨rfl, rfl, hS, hO2⟩
  have hO := hO.trans hO2
  refine g_goto 260 dX3_doStep_218 (by decide) ?_
  exact g_vret hE (⟨rfl, rfl, by rw [show atm L day P.1.2 18 (nI i) = (b2i (fstA (stands L (wl (P.1.2 i))) L.length 0).isSome) from by rw [show atm L day P.1.2 18 (nI i) = (b2i (fstA (stands L (wl (P.1.2 (nI i).toNatClampNeg))) L.length 0).isSome) from rfl, clamp_nI (by have := hok.1.1; omega)]]; exact hS, hO⟩) dX3_doStep_260
set_option maxRecDepth 100000 in
set_option maxHeartbeats 4000000 in
theorem m3_doStep_4 {X : gX} {h : gH} {z q p : Nat} {L : List Int32} {day car : Int32} {st : List Int32} {K : gKo} {P : PlM} (x : Int32) (hK : gCo X K) (v : Int32) (hS : PaS X h q L day car (v :: st)) : gM X yX3_doStep cX3_doStep 4 none (5, 0, 0) [.ref q, .ref (K.1 4), .int x, .ref p] h z (fun r h' z' => r = none ∧ z' = z ∧ PaS X h' q L day car (-v :: st) ∧ OffB h h' q 8) gNoX := by
  refine gM.of px3 (Nat.le_of_ble_eq_true rfl) ?_
  intro F hE
  have hO : OffB h h q 8 := OffB.rf
  obtain ⟨f, hB, hk, hl2, hL⟩ := id hS
  obtain ⟨n9, I9, A9, hq, hi9⟩ := id hL
  have hl9 : st.length + 1 ≤ 64 := hl2
  refine g_gets hK.2.2.2.1.1 wgX3_64 dX3_doStep_0 ?_
  refine g_aload_n dX3_doStep_3 rfl ?_
  refine g_ord kX3_73 hK (c := 4) (by omega) (Nat.le_of_ble_eq_true rfl) (by decide) (by decide) (by decide) dX3_doStep_4 ?_
  refine g_tald hK.2.2.2.1.2 (by omega) (by omega) dX3_doStep_7 ?_
  refine g_switch (213) 221 dX3_doStep_8 (by decide) (by decide) (by decide) (by decide) ?_
  refine g_aload_n dX3_doStep_221 rfl ?_
  refine g_aload_n dX3_doStep_222 rfl ?_
  refine g_callV0 kX3_128 (m3_pop v hS) hB.1 rfl rfl rfl (Nat.le_of_ble_eq_true rfl) (by decide) (by decide) (by decide) (by decide) dX3_doStep_223 ?_
  rintro v1 h2 z1 ⟨rfl, rfl, hS, hO2⟩
  have hO := hO.trans hO2
  obtain ⟨f, hB, hk, hl2, hL⟩ := id hS
  refine g_ineg dX3_doStep_226 ?_
  refine g_callV0 kX3_131 (m3_push (-v) (by omega) hS) hB.1 rfl rfl rfl (Nat.le_of_ble_eq_true rfl) (by decide) (by decide) (by decide) (by decide) dX3_doStep_227 ?_
  rintro v1 h2 z1 ⟨rfl, rfl, hS, hO2⟩
  have hO := hO.trans hO2
  refine g_goto 260 dX3_doStep_230 (by decide) ?_
  exact g_vret hE (⟨rfl, rfl, hS, hO⟩) dX3_doStep_260
set_option maxRecDepth 100000 in
set_option maxHeartbeats 4000000 in
theorem m3_doStep_19 {X : gX} {h : gH} {z q p : Nat} {L : List Int32} {day car : Int32} {st : List Int32} {K : gKo} {P : PlM} (x : Int32) (hK : gCo X K) (v : Int32) (hS : PaS X h q L day car (v :: st)) : gM X yX3_doStep cX3_doStep 4 none (5, 0, 0) [.ref q, .ref (K.1 19), .int x, .ref p] h z (fun r h' z' => r = none ∧ z' = z ∧ PaS X h' q L day car (b2i (decide (v = 0)) :: st) ∧ OffB h h' q 8) gNoX := by
  refine gM.of px3 (Nat.le_of_ble_eq_true rfl) ?_
  intro F hE
  have hO : OffB h h q 8 := OffB.rf
  obtain ⟨f, hB, hk, hl2, hL⟩ := id hS
  obtain ⟨n9, I9, A9, hq, hi9⟩ := id hL
  have hl9 : st.length + 1 ≤ 64 := hl2
  refine g_gets hK.2.2.2.1.1 wgX3_64 dX3_doStep_0 ?_
  refine g_aload_n dX3_doStep_3 rfl ?_
  refine g_ord kX3_73 hK (c := 19) (by omega) (Nat.le_of_ble_eq_true rfl) (by decide) (by decide) (by decide) dX3_doStep_4 ?_
  refine g_tald hK.2.2.2.1.2 (by omega) (by omega) dX3_doStep_7 ?_
  refine g_switch (225) 233 dX3_doStep_8 (by decide) (by decide) (by decide) (by decide) ?_
  refine g_aload_n dX3_doStep_233 rfl ?_
  refine g_aload_n dX3_doStep_234 rfl ?_
  refine g_callV0 kX3_128 (m3_pop v hS) hB.1 rfl rfl rfl (Nat.le_of_ble_eq_true rfl) (by decide) (by decide) (by decide) (by decide) dX3_doStep_235 ?_
  rintro v1 h2 z1 ⟨rfl, rfl, hS, hO2⟩
  have hO := hO.trans hO2
  obtain ⟨f, hB, hk, hl2, hL⟩ := id hS
  refine g_if_ne 245 dX3_doStep_238 (by decide) (fun c_238 => ?_) (fun c_238 => ?_)
  · refine g_iconst (nI 0) dX3_doStep_245 (by decide) ?_
    refine g_callS0 kX3_151 (m3_truth false) rfl rfl (Nat.le_of_ble_eq_true rfl) (by decide) (by decide) (by decide) (by decide) dX3_doStep_246 ?_
    rintro v1 h2 z1 ⟨rfl, rfl, rfl⟩
    rw [show b2i false = b2i (decide (v = 0)) from by rw [decide_eq_false c_238]]
    refine g_callV0 kX3_131 (m3_push (b2i (decide (v = 0))) (by omega) hS) hB.1 rfl rfl rfl (Nat.le_of_ble_eq_true rfl) (by decide) (by decide) (by decide) (by decide) dX3_doStep_249 ?_
    rintro v1 h2 z1 ⟨rfl, rfl, hS, hO2⟩
    have hO := hO.trans hO2
    refine g_goto 260 dX3_doStep_252 (by decide) ?_
    exact g_vret hE (⟨rfl, rfl, hS, hO⟩) dX3_doStep_260
  · refine g_iconst (nI 1) dX3_doStep_241 (by decide) ?_
    refine g_goto 246 dX3_doStep_242 (by decide) ?_
    refine g_callS0 kX3_151 (m3_truth true) rfl rfl (Nat.le_of_ble_eq_true rfl) (by decide) (by decide) (by decide) (by decide) dX3_doStep_246 ?_
    rintro v1 h2 z1 ⟨rfl, rfl, rfl⟩
    rw [show b2i true = b2i (decide (v = 0)) from by rw [decide_eq_true c_238]]
    refine g_callV0 kX3_131 (m3_push (b2i (decide (v = 0))) (by omega) hS) hB.1 rfl rfl rfl (Nat.le_of_ble_eq_true rfl) (by decide) (by decide) (by decide) (by decide) dX3_doStep_249 ?_
    rintro v1 h2 z1 ⟨rfl, rfl, hS, hO2⟩
    have hO := hO.trans hO2
    refine g_goto 260 dX3_doStep_252 (by decide) ?_
    exact g_vret hE (⟨rfl, rfl, hS, hO⟩) dX3_doStep_260
set_option maxRecDepth 100000 in
set_option maxHeartbeats 4000000 in
theorem m3_doStep_20 {X : gX} {h : gH} {z q p : Nat} {L : List Int32} {day car : Int32} {st : List Int32} {K : gKo} {P : PlM} (x : Int32) (hK : gCo X K) (a b : Int32) (hS : PaS X h q L day car (b :: a :: st)) : gM X yX3_doStep cX3_doStep 4 none (5, 0, 0) [.ref q, .ref (K.1 20), .int x, .ref p] h z (fun r h' z' => r = none ∧ z' = z ∧ PaS X h' q L day car (bop 20 a b :: st) ∧ OffB h h' q 8) gNoX := by
  refine gM.of px3 (Nat.le_of_ble_eq_true rfl) ?_
  intro F hE
  obtain ⟨f, hB, hk, hl2, hL⟩ := id hS
  refine g_gets hK.2.2.2.1.1 wgX3_64 dX3_doStep_0 ?_
  refine g_aload_n dX3_doStep_3 rfl ?_
  refine g_ord kX3_73 hK (c := 20) (by omega) (Nat.le_of_ble_eq_true rfl) (by decide) (by decide) (by decide) dX3_doStep_4 ?_
  refine g_tald hK.2.2.2.1.2 (by omega) (by omega) dX3_doStep_7 ?_
  refine g_switchD 255 dX3_doStep_8 (by decide) (by decide) ?_
  refine g_aload_n dX3_doStep_255 rfl ?_
  refine g_aload_n dX3_doStep_256 rfl ?_
  refine g_callV0 kX3_155 (m3_joinTwo_20 hK a b hS) hB.1 rfl rfl rfl (Nat.le_of_ble_eq_true rfl) (by decide) (by decide) (by decide) (by decide) dX3_doStep_257 ?_
  rintro v1 h2 z1 ⟨rfl, rfl, hS, hO2⟩
  exact g_vret hE (⟨rfl, rfl, hS, hO2⟩) dX3_doStep_260
set_option maxRecDepth 100000 in
set_option maxHeartbeats 4000000 in
theorem m3_doStep_21 {X : gX} {h : gH} {z q p : Nat} {L : List Int32} {day car : Int32} {st : List Int32} {K : gKo} {P : PlM} (x : Int32) (hK : gCo X K) (a b : Int32) (hS : PaS X h q L day car (b :: a :: st)) : gM X yX3_doStep cX3_doStep 4 none (5, 0, 0) [.ref q, .ref (K.1 21), .int x, .ref p] h z (fun r h' z' => r = none ∧ z' = z ∧ PaS X h' q L day car (bop 21 a b :: st) ∧ OffB h h' q 8) gNoX := by
  refine gM.of px3 (Nat.le_of_ble_eq_true rfl) ?_
  intro F hE
  obtain ⟨f, hB, hk, hl2, hL⟩ := id hS
  refine g_gets hK.2.2.2.1.1 wgX3_64 dX3_doStep_0 ?_
  refine g_aload_n dX3_doStep_3 rfl ?_
  refine g_ord kX3_73 hK (c := 21) (by omega) (Nat.le_of_ble_eq_true rfl) (by decide) (by decide) (by decide) dX3_doStep_4 ?_
  refine g_tald hK.2.2.2.1.2 (by omega) (by omega) dX3_doStep_7 ?_
  refine g_switchD 255 dX3_doStep_8 (by decide) (by decide) ?_
  refine g_aload_n dX3_doStep_255 rfl ?_
  refine g_aload_n dX3_doStep_256 rfl ?_
  refine g_callV0 kX3_155 (m3_joinTwo_21 hK a b hS) hB.1 rfl rfl rfl (Nat.le_of_ble_eq_true rfl) (by decide) (by decide) (by decide) (by decide) dX3_doStep_257 ?_
  rintro v1 h2 z1 ⟨rfl, rfl, hS, hO2⟩
  exact g_vret hE (⟨rfl, rfl, hS, hO2⟩) dX3_doStep_260
set_option maxRecDepth 100000 in
set_option maxHeartbeats 4000000 in
theorem m3_doStep_22 {X : gX} {h : gH} {z q p : Nat} {L : List Int32} {day car : Int32} {st : List Int32} {K : gKo} {P : PlM} (x : Int32) (hK : gCo X K) (a b : Int32) (hS : PaS X h q L day car (b :: a :: st)) : gM X yX3_doStep cX3_doStep 4 none (5, 0, 0) [.ref q, .ref (K.1 22), .int x, .ref p] h z (fun r h' z' => r = none ∧ z' = z ∧ PaS X h' q L day car (bop 22 a b :: st) ∧ OffB h h' q 8) gNoX := by
  refine gM.of px3 (Nat.le_of_ble_eq_true rfl) ?_
  intro F hE
  obtain ⟨f, hB, hk, hl2, hL⟩ := id hS
  refine g_gets hK.2.2.2.1.1 wgX3_64 dX3_doStep_0 ?_
  refine g_aload_n dX3_doStep_3 rfl ?_
  refine g_ord kX3_73 hK (c := 22) (by omega) (Nat.le_of_ble_eq_true rfl) (by decide) (by decide) (by decide) dX3_doStep_4 ?_
  refine g_tald hK.2.2.2.1.2 (by omega) (by omega) dX3_doStep_7 ?_
  refine g_switch (247) 255 dX3_doStep_8 (by decide) (by decide) (by decide) (by decide) ?_
  refine g_aload_n dX3_doStep_255 rfl ?_
  refine g_aload_n dX3_doStep_256 rfl ?_
  refine g_callV0 kX3_155 (m3_joinTwo_22 hK a b hS) hB.1 rfl rfl rfl (Nat.le_of_ble_eq_true rfl) (by decide) (by decide) (by decide) (by decide) dX3_doStep_257 ?_
  rintro v1 h2 z1 ⟨rfl, rfl, hS, hO2⟩
  exact g_vret hE (⟨rfl, rfl, hS, hO2⟩) dX3_doStep_260
set_option maxRecDepth 100000 in
set_option maxHeartbeats 4000000 in
theorem m3_doStep_23 {X : gX} {h : gH} {z q p : Nat} {L : List Int32} {day car : Int32} {st : List Int32} {K : gKo} {P : PlM} (x : Int32) (hK : gCo X K) (a b : Int32) (hS : PaS X h q L day car (b :: a :: st)) : gM X yX3_doStep cX3_doStep 4 none (5, 0, 0) [.ref q, .ref (K.1 23), .int x, .ref p] h z (fun r h' z' => r = none ∧ z' = z ∧ PaS X h' q L day car (bop 23 a b :: st) ∧ OffB h h' q 8) gNoX := by
  refine gM.of px3 (Nat.le_of_ble_eq_true rfl) ?_
  intro F hE
  obtain ⟨f, hB, hk, hl2, hL⟩ := id hS
  refine g_gets hK.2.2.2.1.1 wgX3_64 dX3_doStep_0 ?_
  refine g_aload_n dX3_doStep_3 rfl ?_
  refine g_ord kX3_73 hK (c := 23) (by omega) (Nat.le_of_ble_eq_true rfl) (by decide) (by decide) (by decide) dX3_doStep_4 ?_
  refine g_tald hK.2.2.2.1.2 (by omega) (by omega) dX3_doStep_7 ?_
  refine g_switch (247) 255 dX3_doStep_8 (by decide) (by decide) (by decide) (by decide) ?_
  refine g_aload_n dX3_doStep_255 rfl ?_
  refine g_aload_n dX3_doStep_256 rfl ?_
  refine g_callV0 kX3_155 (m3_joinTwo_23 hK a b hS) hB.1 rfl rfl rfl (Nat.le_of_ble_eq_true rfl) (by decide) (by decide) (by decide) (by decide) dX3_doStep_257 ?_
  rintro v1 h2 z1 ⟨rfl, rfl, hS, hO2⟩
  exact g_vret hE (⟨rfl, rfl, hS, hO2⟩) dX3_doStep_260
set_option maxRecDepth 100000 in
set_option maxHeartbeats 4000000 in
theorem m3_doStep_30 {X : gX} {h : gH} {z q p : Nat} {L : List Int32} {day car : Int32} {st : List Int32} {K : gKo} {P : PlM} (x : Int32) (hK : gCo X K) (a b : Int32) (hS : PaS X h q L day car (b :: a :: st)) : gM X yX3_doStep cX3_doStep 4 none (5, 0, 0) [.ref q, .ref (K.1 30), .int x, .ref p] h z (fun r h' z' => r = none ∧ z' = z ∧ PaS X h' q L day car (bop 30 a b :: st) ∧ OffB h h' q 8) gNoX := by
  refine gM.of px3 (Nat.le_of_ble_eq_true rfl) ?_
  intro F hE
  obtain ⟨f, hB, hk, hl2, hL⟩ := id hS
  refine g_gets hK.2.2.2.1.1 wgX3_64 dX3_doStep_0 ?_
  refine g_aload_n dX3_doStep_3 rfl ?_
  refine g_ord kX3_73 hK (c := 30) (by omega) (Nat.le_of_ble_eq_true rfl) (by decide) (by decide) (by decide) dX3_doStep_4 ?_
  refine g_tald hK.2.2.2.1.2 (by omega) (by omega) dX3_doStep_7 ?_
  refine g_switchD 255 dX3_doStep_8 (by decide) (by decide) ?_
  refine g_aload_n dX3_doStep_255 rfl ?_
  refine g_aload_n dX3_doStep_256 rfl ?_
  refine g_callV0 kX3_155 (m3_joinTwo_30 hK a b hS) hB.1 rfl rfl rfl (Nat.le_of_ble_eq_true rfl) (by decide) (by decide) (by decide) (by decide) dX3_doStep_257 ?_
  rintro v1 h2 z1 ⟨rfl, rfl, hS, hO2⟩
  exact g_vret hE (⟨rfl, rfl, hS, hO2⟩) dX3_doStep_260
set_option maxRecDepth 100000 in
set_option maxHeartbeats 4000000 in
theorem m3_doStep_31 {X : gX} {h : gH} {z q p : Nat} {L : List Int32} {day car : Int32} {st : List Int32} {K : gKo} {P : PlM} (x : Int32) (hK : gCo X K) (a b : Int32) (hS : PaS X h q L day car (b :: a :: st)) : gM X yX3_doStep cX3_doStep 4 none (5, 0, 0) [.ref q, .ref (K.1 31), .int x, .ref p] h z (fun r h' z' => r = none ∧ z' = z ∧ PaS X h' q L day car (bop 31 a b :: st) ∧ OffB h h' q 8) gNoX := by
  refine gM.of px3 (Nat.le_of_ble_eq_true rfl) ?_
  intro F hE
  obtain ⟨f, hB, hk, hl2, hL⟩ := id hS
  refine g_gets hK.2.2.2.1.1 wgX3_64 dX3_doStep_0 ?_
  refine g_aload_n dX3_doStep_3 rfl ?_
  refine g_ord kX3_73 hK (c := 31) (by omega) (Nat.le_of_ble_eq_true rfl) (by decide) (by decide) (by decide) dX3_doStep_4 ?_
  refine g_tald hK.2.2.2.1.2 (by omega) (by omega) dX3_doStep_7 ?_
  refine g_switch (247) 255 dX3_doStep_8 (by decide) (by decide) (by decide) (by decide) ?_
  refine g_aload_n dX3_doStep_255 rfl ?_
  refine g_aload_n dX3_doStep_256 rfl ?_
  refine g_callV0 kX3_155 (m3_joinTwo_31 hK a b hS) hB.1 rfl rfl rfl (Nat.le_of_ble_eq_true rfl) (by decide) (by decide) (by decide) (by decide) dX3_doStep_257 ?_
  rintro v1 h2 z1 ⟨rfl, rfl, hS, hO2⟩
  exact g_vret hE (⟨rfl, rfl, hS, hO2⟩) dX3_doStep_260
set_option maxRecDepth 100000 in
set_option maxHeartbeats 4000000 in
theorem m3_doStep_32 {X : gX} {h : gH} {z q p : Nat} {L : List Int32} {day car : Int32} {st : List Int32} {K : gKo} {P : PlM} (x : Int32) (hK : gCo X K) (a b : Int32) (hS : PaS X h q L day car (b :: a :: st)) : gM X yX3_doStep cX3_doStep 4 none (5, 0, 0) [.ref q, .ref (K.1 32), .int x, .ref p] h z (fun r h' z' => r = none ∧ z' = z ∧ PaS X h' q L day car (bop 32 a b :: st) ∧ OffB h h' q 8) gNoX := by
  refine gM.of px3 (Nat.le_of_ble_eq_true rfl) ?_
  intro F hE
  obtain ⟨f, hB, hk, hl2, hL⟩ := id hS
  refine g_gets hK.2.2.2.1.1 wgX3_64 dX3_doStep_0 ?_
  refine g_aload_n dX3_doStep_3 rfl ?_
  refine g_ord kX3_73 hK (c := 32) (by omega) (Nat.le_of_ble_eq_true rfl) (by decide) (by decide) (by decide) dX3_doStep_4 ?_
  refine g_tald hK.2.2.2.1.2 (by omega) (by omega) dX3_doStep_7 ?_
  refine g_switchD 255 dX3_doStep_8 (by decide) (by decide) ?_
  refine g_aload_n dX3_doStep_255 rfl ?_
  refine g_aload_n dX3_doStep_256 rfl ?_
  refine g_callV0 kX3_155 (m3_joinTwo_32 hK a b hS) hB.1 rfl rfl rfl (Nat.le_of_ble_eq_true rfl) (by decide) (by decide) (by decide) (by decide) dX3_doStep_257 ?_
  rintro v1 h2 z1 ⟨rfl, rfl, hS, hO2⟩
  exact g_vret hE (⟨rfl, rfl, hS, hO2⟩) dX3_doStep_260
set_option maxRecDepth 100000 in
set_option maxHeartbeats 4000000 in
theorem m3_doStep_33 {X : gX} {h : gH} {z q p : Nat} {L : List Int32} {day car : Int32} {st : List Int32} {K : gKo} {P : PlM} (x : Int32) (hK : gCo X K) (a b : Int32) (hS : PaS X h q L day car (b :: a :: st)) : gM X yX3_doStep cX3_doStep 4 none (5, 0, 0) [.ref q, .ref (K.1 33), .int x, .ref p] h z (fun r h' z' => r = none ∧ z' = z ∧ PaS X h' q L day car (bop 33 a b :: st) ∧ OffB h h' q 8) gNoX := by
  refine gM.of px3 (Nat.le_of_ble_eq_true rfl) ?_
  intro F hE
  obtain ⟨f, hB, hk, hl2, hL⟩ := id hS
  refine g_gets hK.2.2.2.1.1 wgX3_64 dX3_doStep_0 ?_
  refine g_aload_n dX3_doStep_3 rfl ?_
  refine g_ord kX3_73 hK (c := 33) (by omega) (Nat.le_of_ble_eq_true rfl) (by decide) (by decide) (by decide) dX3_doStep_4 ?_
  refine g_tald hK.2.2.2.1.2 (by omega) (by omega) dX3_doStep_7 ?_
  refine g_switchD 255 dX3_doStep_8 (by decide) (by decide) ?_
  refine g_aload_n dX3_doStep_255 rfl ?_
  refine g_aload_n dX3_doStep_256 rfl ?_
  refine g_callV0 kX3_155 (m3_joinTwo_33 hK a b hS) hB.1 rfl rfl rfl (Nat.le_of_ble_eq_true rfl) (by decide) (by decide) (by decide) (by decide) dX3_doStep_257 ?_
  rintro v1 h2 z1 ⟨rfl, rfl, hS, hO2⟩
  exact g_vret hE (⟨rfl, rfl, hS, hO2⟩) dX3_doStep_260
set_option maxRecDepth 100000 in
set_option maxHeartbeats 4000000 in
theorem m3_doStep_34 {X : gX} {h : gH} {z q p : Nat} {L : List Int32} {day car : Int32} {st : List Int32} {K : gKo} {P : PlM} (x : Int32) (hK : gCo X K) (a b : Int32) (hS : PaS X h q L day car (b :: a :: st)) : gM X yX3_doStep cX3_doStep 4 none (5, 0, 0) [.ref q, .ref (K.1 34), .int x, .ref p] h z (fun r h' z' => r = none ∧ z' = z ∧ PaS X h' q L day car (bop 34 a b :: st) ∧ OffB h h' q 8) gNoX := by
  refine gM.of px3 (Nat.le_of_ble_eq_true rfl) ?_
  intro F hE
  obtain ⟨f, hB, hk, hl2, hL⟩ := id hS
  refine g_gets hK.2.2.2.1.1 wgX3_64 dX3_doStep_0 ?_
  refine g_aload_n dX3_doStep_3 rfl ?_
  refine g_ord kX3_73 hK (c := 34) (by omega) (Nat.le_of_ble_eq_true rfl) (by decide) (by decide) (by decide) dX3_doStep_4 ?_
  refine g_tald hK.2.2.2.1.2 (by omega) (by omega) dX3_doStep_7 ?_
  refine g_switchD 255 dX3_doStep_8 (by decide) (by decide) ?_
  refine g_aload_n dX3_doStep_255 rfl ?_
  refine g_aload_n dX3_doStep_256 rfl ?_
  refine g_callV0 kX3_155 (m3_joinTwo_34 hK a b hS) hB.1 rfl rfl rfl (Nat.le_of_ble_eq_true rfl) (by decide) (by decide) (by decide) (by decide) dX3_doStep_257 ?_
  rintro v1 h2 z1 ⟨rfl, rfl, hS, hO2⟩
  exact g_vret hE (⟨rfl, rfl, hS, hO2⟩) dX3_doStep_260
set_option maxRecDepth 100000 in
set_option maxHeartbeats 4000000 in
theorem m3_doStep_35 {X : gX} {h : gH} {z q p : Nat} {L : List Int32} {day car : Int32} {st : List Int32} {K : gKo} {P : PlM} (x : Int32) (hK : gCo X K) (a b : Int32) (hS : PaS X h q L day car (b :: a :: st)) : gM X yX3_doStep cX3_doStep 4 none (5, 0, 0) [.ref q, .ref (K.1 35), .int x, .ref p] h z (fun r h' z' => r = none ∧ z' = z ∧ PaS X h' q L day car (bop 35 a b :: st) ∧ OffB h h' q 8) gNoX := by
  refine gM.of px3 (Nat.le_of_ble_eq_true rfl) ?_
  intro F hE
  obtain ⟨f, hB, hk, hl2, hL⟩ := id hS
  refine g_gets hK.2.2.2.1.1 wgX3_64 dX3_doStep_0 ?_
  refine g_aload_n dX3_doStep_3 rfl ?_
  refine g_ord kX3_73 hK (c := 35) (by omega) (Nat.le_of_ble_eq_true rfl) (by decide) (by decide) (by decide) dX3_doStep_4 ?_
  refine g_tald hK.2.2.2.1.2 (by omega) (by omega) dX3_doStep_7 ?_
  refine g_switchD 255 dX3_doStep_8 (by decide) (by decide) ?_
  refine g_aload_n dX3_doStep_255 rfl ?_
  refine g_aload_n dX3_doStep_256 rfl ?_
  refine g_callV0 kX3_155 (m3_joinTwo_35 hK a b hS) hB.1 rfl rfl rfl (Nat.le_of_ble_eq_true rfl) (by decide) (by decide) (by decide) (by decide) dX3_doStep_257 ?_
  rintro v1 h2 z1 ⟨rfl, rfl, hS, hO2⟩
  exact g_vret hE (⟨rfl, rfl, hS, hO2⟩) dX3_doStep_260
set_option maxRecDepth 100000 in
set_option maxHeartbeats 4000000 in
theorem m3_doStep_36 {X : gX} {h : gH} {z q p : Nat} {L : List Int32} {day car : Int32} {st : List Int32} {K : gKo} {P : PlM} (x : Int32) (hK : gCo X K) (a b : Int32) (hS : PaS X h q L day car (b :: a :: st)) : gM X yX3_doStep cX3_doStep 4 none (5, 0, 0) [.ref q, .ref (K.1 36), .int x, .ref p] h z (fun r h' z' => r = none ∧ z' = z ∧ PaS X h' q L day car (bop 36 a b :: st) ∧ OffB h h' q 8) gNoX := by
  refine gM.of px3 (Nat.le_of_ble_eq_true rfl) ?_
  intro F hE
  obtain ⟨f, hB, hk, hl2, hL⟩ := id hS
  refine g_gets hK.2.2.2.1.1 wgX3_64 dX3_doStep_0 ?_
  refine g_aload_n dX3_doStep_3 rfl ?_
  refine g_ord kX3_73 hK (c := 36) (by omega) (Nat.le_of_ble_eq_true rfl) (by decide) (by decide) (by decide) dX3_doStep_4 ?_
  refine g_tald hK.2.2.2.1.2 (by omega) (by omega) dX3_doStep_7 ?_
  refine g_switchD 255 dX3_doStep_8 (by decide) (by decide) ?_
  refine g_aload_n dX3_doStep_255 rfl ?_
  refine g_aload_n dX3_doStep_256 rfl ?_
  refine g_callV0 kX3_155 (m3_joinTwo_36 hK a b hS) hB.1 rfl rfl rfl (Nat.le_of_ble_eq_true rfl) (by decide) (by decide) (by decide) (by decide) dX3_doStep_257 ?_
  rintro v1 h2 z1 ⟨rfl, rfl, hS, hO2⟩
  exact g_vret hE (⟨rfl, rfl, hS, hO2⟩) dX3_doStep_260
set_option maxRecDepth 100000 in
set_option maxHeartbeats 4000000 in
theorem m3_doStep_37 {X : gX} {h : gH} {z q p : Nat} {L : List Int32} {day car : Int32} {st : List Int32} {K : gKo} {P : PlM} (x : Int32) (hK : gCo X K) (a b : Int32) (hS : PaS X h q L day car (b :: a :: st)) : gM X yX3_doStep cX3_doStep 4 none (5, 0, 0) [.ref q, .ref (K.1 37), .int x, .ref p] h z (fun r h' z' => r = none ∧ z' = z ∧ PaS X h' q L day car (bop 37 a b :: st) ∧ OffB h h' q 8) gNoX := by
  refine gM.of px3 (Nat.le_of_ble_eq_true rfl) ?_
  intro F hE
  obtain ⟨f, hB, hk, hl2, hL⟩ := id hS
  refine g_gets hK.2.2.2.1.1 wgX3_64 dX3_doStep_0 ?_
  refine g_aload_n dX3_doStep_3 rfl ?_
  refine g_ord kX3_73 hK (c := 37) (by omega) (Nat.le_of_ble_eq_true rfl) (by decide) (by decide) (by decide) dX3_doStep_4 ?_
  refine g_tald hK.2.2.2.1.2 (by omega) (by omega) dX3_doStep_7 ?_
  refine g_switchD 255 dX3_doStep_8 (by decide) (by decide) ?_
  refine g_aload_n dX3_doStep_255 rfl ?_
  refine g_aload_n dX3_doStep_256 rfl ?_
  refine g_callV0 kX3_155 (m3_joinTwo_37 hK a b hS) hB.1 rfl rfl rfl (Nat.le_of_ble_eq_true rfl) (by decide) (by decide) (by decide) (by decide) dX3_doStep_257 ?_
  rintro v1 h2 z1 ⟨rfl, rfl, hS, hO2⟩
  exact g_vret hE (⟨rfl, rfl, hS, hO2⟩) dX3_doStep_260
set_option maxRecDepth 100000 in
set_option maxHeartbeats 4000000 in
theorem m3_doStep_38 {X : gX} {h : gH} {z q p : Nat} {L : List Int32} {day car : Int32} {st : List Int32} {K : gKo} {P : PlM} (x : Int32) (hK : gCo X K) (a b : Int32) (hS : PaS X h q L day car (b :: a :: st)) : gM X yX3_doStep cX3_doStep 4 none (5, 0, 0) [.ref q, .ref (K.1 38), .int x, .ref p] h z (fun r h' z' => r = none ∧ z' = z ∧ PaS X h' q L day car (bop 38 a b :: st) ∧ OffB h h' q 8) gNoX := by
  refine gM.of px3 (Nat.le_of_ble_eq_true rfl) ?_
  intro F hE
  obtain ⟨f, hB, hk, hl2, hL⟩ := id hS
  refine g_gets hK.2.2.2.1.1 wgX3_64 dX3_doStep_0 ?_
  refine g_aload_n dX3_doStep_3 rfl ?_
  refine g_ord kX3_73 hK (c := 38) (by omega) (Nat.le_of_ble_eq_true rfl) (by decide) (by decide) (by decide) dX3_doStep_4 ?_
  refine g_tald hK.2.2.2.1.2 (by omega) (by omega) dX3_doStep_7 ?_
  refine g_switchD 255 dX3_doStep_8 (by decide) (by decide) ?_
  refine g_aload_n dX3_doStep_255 rfl ?_
  refine g_aload_n dX3_doStep_256 rfl ?_
  refine g_callV0 kX3_155 (m3_joinTwo_38 hK a b hS) hB.1 rfl rfl rfl (Nat.le_of_ble_eq_true rfl) (by decide) (by decide) (by decide) (by decide) dX3_doStep_257 ?_
  rintro v1 h2 z1 ⟨rfl, rfl, hS, hO2⟩
  exact g_vret hE (⟨rfl, rfl, hS, hO2⟩) dX3_doStep_260
theorem m3_doStep {X : gX} {h : gH} {z q p : Nat} {L : List Int32} {day car : Int32} {st : List Int32} {K : gKo} {P : PlM} {st' : List Int32} (c : Nat) (x : Int32) (hK : gCo X K) (hok : OkP P) (hP : PlC X K h p P) (hx : AtX P.1.1 c x) (he : stp (atm L day P.1.2) c x st = some st') (hS : PaS X h q L day car st) : gM X yX3_doStep cX3_doStep 4 none (5, 0, 0) [.ref q, .ref (K.1 c), .int x, .ref p] h z (fun r h' z' => r = none ∧ z' = z ∧ PaS X h' q L day car st' ∧ OffB h h' q 8) gNoX := by
  by_cases h1 : isAt c = true
  · obtain ⟨hl, rfl⟩ := stp_at he h1
    rcases isAt_cases c (code_lt (by rw [h1]; simp)) h1 with rfl | rfl | rfl | rfl | rfl | rfl | rfl | rfl
    · exact m3_doStep_3 x hK hl hS
    · exact m3_doStep_11 x hK hl hS
    · exact m3_doStep_12 x hK hl hS
    · exact m3_doStep_13 x hK hl hS
    · exact m3_doStep_14 x hK hl hS
    · obtain ⟨i, hi, rfl⟩ := hx (by decide)
      exact m3_doStep_15 i hi hok hP hK hl hS
    · obtain ⟨i, hi, rfl⟩ := hx (by decide)
      exact m3_doStep_16 i hi hok hP hK hl hS
    · obtain ⟨i, hi, rfl⟩ := hx (by decide)
      exact m3_doStep_18 i hi hok hP hK hl hS
  · have h1 : isAt c = false := by simpa using h1
    by_cases h2 : c = 4
    · obtain ⟨v, r, rfl, rfl⟩ := stp_neg he h2
      subst h2
      exact m3_doStep_4 (P := P) x hK v hS
    · by_cases h3 : c = 19
      · obtain ⟨v, r, rfl, hv, rfl⟩ := stp_not he h3
        subst h3
        exact m3_doStep_19 (P := P) x hK v hS
      · obtain ⟨a, b, r, hb, rfl, rfl⟩ := stp_bi he h1 h2 h3
        rcases isBi_cases c (code_lt (by rw [hb]; simp)) hb with rfl | rfl | rfl | rfl | rfl | rfl | rfl | rfl | rfl | rfl | rfl | rfl | rfl
        · exact m3_doStep_20 (P := P) x hK a b hS
        · exact m3_doStep_21 (P := P) x hK a b hS
        · exact m3_doStep_22 (P := P) x hK a b hS
        · exact m3_doStep_23 (P := P) x hK a b hS
        · exact m3_doStep_30 (P := P) x hK a b hS
        · exact m3_doStep_31 (P := P) x hK a b hS
        · exact m3_doStep_32 (P := P) x hK a b hS
        · exact m3_doStep_33 (P := P) x hK a b hS
        · exact m3_doStep_34 (P := P) x hK a b hS
        · exact m3_doStep_35 (P := P) x hK a b hS
        · exact m3_doStep_36 (P := P) x hK a b hS
        · exact m3_doStep_37 (P := P) x hK a b hS
        · exact m3_doStep_38 (P := P) x hK a b hS
