/-! the reference: what a step asks, the result of a row of steps -/
/-- what an atom about an insult names is one of the plan -/
abbrev AtX (nw c : Nat) (x : Int32) : Prop := (c = 15 ∨ c = 16 ∨ c = 18) → ∃ i, i < nw ∧ x = nI i
/-- a change of the reference's letters, ranks, rows and stack alone -/
def MdG (I I' : Nat → Int32) (A A' : Nat → Nat → Int32) : Prop := (∀ j, j ≠ 11 → I' j = I j) ∧ ∀ k, k ≠ 5 → k ≠ 7 → k ≠ 8 → k ≠ 9 → k ≠ 10 → A' k = A k
theorem MdG.rf {I : Nat → Int32} {A : Nat → Nat → Int32} : MdG I I A A := ⟨fun _ _ => rfl, fun _ _ _ _ _ _ => rfl⟩
theorem MdG.trans {I I1 I2 : Nat → Int32} {A A1 A2 : Nat → Nat → Int32} (x : MdG I I1 A A1) (y : MdG I1 I2 A1 A2) : MdG I I2 A A2 := ⟨fun j hj => (y.1 j hj).trans (x.1 j hj), fun k a b c d e => (y.2 k a b c d e).trans (x.2 k a b c d e)⟩
theorem MdH.toG {I I' : Nat → Int32} {A A' : Nat → Nat → Int32} (x : MdH I I' A A') : MdG I I' A A' := ⟨x.1, fun k a b c _ e => x.2 k a b c e⟩
theorem clamp_nI {i : Nat} (h : i < 8) : (nI i).toNatClampNeg = i := nI_clamp (by omega)
theorem isAt_cases : ∀ c, c < 39 → isAt c = true → c = 3 ∨ c = 11 ∨ c = 12 ∨ c = 13 ∨ c = 14 ∨ c = 15 ∨ c = 16 ∨ c = 18 := by decide +kernel
set_option maxRecDepth 100000 in
set_option maxHeartbeats 4000000 in
theorem m12_ask_3 {X : gX} {h : gH} {z m pl : Nat} {I : Nat → Int32} {A : Nat → Nat → Int32} {V : Nat → Int64} {L : List Int32} {P : PlM} (x : Int32) (hV : MdV X h m pl L I A V) : gM X yX12_ask cX12_ask 3 (some .int) (3, 0, 0) [.ref m, .int (nI 100), .int x] h z (pR h z (atm L (I 6) P.1.2 3 x)) gNoX := by
  have hn := hV.2.1
  refine gM.of px12 (Nat.le_of_ble_eq_true rfl) ?_
  intro F hE
  refine g_iload_n dX12_ask_0 rfl ?_
  refine g_lookup (67) 68 dX12_ask_1 (by decide) (by decide) (by decide) ?_
  refine g_iload_n dX12_ask_68 rfl ?_
  exact g_iret hE rfl (⟨rfl, rfl, rfl⟩) dX12_ask_69
set_option maxRecDepth 100000 in
set_option maxHeartbeats 4000000 in
theorem m12_ask_11 {X : gX} {h : gH} {z m pl : Nat} {I : Nat → Int32} {A : Nat → Nat → Int32} {V : Nat → Int64} {L : List Int32} {P : PlM} (x : Int32) (hV : MdV X h m pl L I A V) : gM X yX12_ask cX12_ask 3 (some .int) (3, 0, 0) [.ref m, .int (nI 6), .int x] h z (pR h z (atm L (I 6) P.1.2 11 x)) gNoX := by
  have hn := hV.2.1
  refine gM.of px12 (Nat.le_of_ble_eq_true rfl) ?_
  intro F hE
  refine g_iload_n dX12_ask_0 rfl ?_
  refine g_lookup (69) 70 dX12_ask_1 (by decide) (by decide) (by decide) ?_
  refine g_aload_n dX12_ask_70 rfl ?_
  refine g_getf fl12_97 hV.1.1 rfl dX12_ask_71 ?_
  exact g_iret hE rfl (⟨rfl, rfl, rfl⟩) dX12_ask_74
set_option maxRecDepth 100000 in
set_option maxHeartbeats 4000000 in
theorem m12_ask_12 {X : gX} {h : gH} {z m pl : Nat} {I : Nat → Int32} {A : Nat → Nat → Int32} {V : Nat → Int64} {L : List Int32} {P : PlM} (x : Int32) (hV : MdV X h m pl L I A V) : gM X yX12_ask cX12_ask 3 (some .int) (3, 0, 0) [.ref m, .int (nI 7), .int x] h z (pR h z (atm L (I 6) P.1.2 12 x)) gNoX := by
  have hn := hV.2.1
  refine gM.of px12 (Nat.le_of_ble_eq_true rfl) ?_
  intro F hE
  refine g_iload_n dX12_ask_0 rfl ?_
  refine g_lookup (74) 75 dX12_ask_1 (by decide) (by decide) (by decide) ?_
  refine g_aload_n dX12_ask_75 rfl ?_
  refine g_getf fl12_61 hV.1.1 rfl dX12_ask_76 ?_
  exact g_iret hE rfl (⟨rfl, rfl, rfl⟩) dX12_ask_79
set_option maxRecDepth 100000 in
set_option maxHeartbeats 4000000 in
theorem m12_ask_13 {X : gX} {h : gH} {z m pl : Nat} {I : Nat → Int32} {A : Nat → Nat → Int32} {V : Nat → Int64} {L : List Int32} {P : PlM} (x : Int32) (hV : MdV X h m pl L I A V) : gM X yX12_ask cX12_ask 3 (some .int) (3, 0, 0) [.ref m, .int (nI 8), .int x] h z (pR h z (atm L (I 6) P.1.2 13 x)) gNoX := by
  have hn := hV.2.1
  refine gM.of px12 (Nat.le_of_ble_eq_true rfl) ?_
  intro F hE
  refine g_iload_n dX12_ask_0 rfl ?_
  refine g_lookup (79) 80 dX12_ask_1 (by decide) (by decide) (by decide) ?_
  refine g_aload_n dX12_ask_80 rfl ?_
  refine g_callV0 kX12_125 (m12_longest hV.1 hn hV.2.2.1) hV.1.1 rfl rfl rfl (Nat.le_of_ble_eq_true rfl) (by decide) (by decide) (by decide) (by decide) dX12_ask_81 ?_
  rintro v1 h2 z1 ⟨rfl, rfl, rfl⟩
  exact g_iret hE rfl (⟨by rw [loU_lon]; rfl, rfl, rfl⟩) dX12_ask_84
set_option maxRecDepth 100000 in
set_option maxHeartbeats 4000000 in
theorem m12_ask_14 {X : gX} {h : gH} {z m pl : Nat} {I : Nat → Int32} {A : Nat → Nat → Int32} {V : Nat → Int64} {L : List Int32} {P : PlM} (x : Int32) (hV : MdV X h m pl L I A V) : gM X yX12_ask cX12_ask 3 (some .int) (3, 0, 0) [.ref m, .int (nI 9), .int x] h z (pR h z (atm L (I 6) P.1.2 14 x)) gNoX := by
  have hn := hV.2.1
  refine gM.of px12 (Nat.le_of_ble_eq_true rfl) ?_
  intro F hE
  refine g_iload_n dX12_ask_0 rfl ?_
  refine g_lookup (84) 85 dX12_ask_1 (by decide) (by decide) (by decide) ?_
  refine g_aload_n dX12_ask_85 rfl ?_
  refine g_callV0 kX12_195 (m12_allKinds hV.1 hn hV.2.2.1) hV.1.1 rfl rfl rfl (Nat.le_of_ble_eq_true rfl) (by decide) (by decide) (by decide) (by decide) dX12_ask_86 ?_
  rintro v1 h2 z1 ⟨rfl, rfl, rfl⟩
  exact g_iret hE rfl (⟨rfl, rfl, rfl⟩) dX12_ask_89
set_option maxRecDepth 100000 in
set_option maxHeartbeats 4000000 in
theorem m12_ask_15 {X : gX} {h : gH} {z m pl : Nat} {I : Nat → Int32} {A : Nat → Nat → Int32} {V : Nat → Int64} {L : List Int32} {P : PlM} (i : Nat) (hP : MpP X h pl P) (h8 : P.1.1 ≤ 8) (hi : i < P.1.1) (hV : MdV X h m pl L I A V) : gM X yX12_ask cX12_ask 3 (some .int) (3, 0, 0) [.ref m, .int (nI 10), .int (nI i)] h z (pR h z (atm L (I 6) P.1.2 15 (nI i))) gNoX := by
  obtain ⟨J, B, U1, U2, hB, hJ, hWs, -, -⟩ := hP
  have hW := hWs i hi
  have hn := hV.2.1
  refine gM.of px12 (Nat.le_of_ble_eq_true rfl) ?_
  intro F hE
  refine g_iload_n dX12_ask_0 rfl ?_
  refine g_lookup (89) 90 dX12_ask_1 (by decide) (by decide) (by decide) ?_
  refine g_aload_n dX12_ask_90 rfl ?_
  refine g_iload_n dX12_ask_91 rfl ?_
  refine g_callV0 kX12_148 (m12_count i hB hW hV.1 hn hV.2.2.1) hV.1.1 rfl rfl rfl (Nat.le_of_ble_eq_true rfl) (by decide) (by decide) (by decide) (by decide) dX12_ask_92 ?_
  rintro v1 h2 z1 ⟨rfl, rfl, rfl⟩
  exact g_iret hE rfl (⟨by rw [show atm L (I 6) P.1.2 15 (nI i) = nI (cnt (stands L (wl (P.1.2 (nI i).toNatClampNeg))) L.length) from rfl, clamp_nI (by omega)], rfl, rfl⟩) dX12_ask_95
set_option maxRecDepth 100000 in
set_option maxHeartbeats 4000000 in
theorem m12_ask_16 {X : gX} {h : gH} {z m pl : Nat} {I : Nat → Int32} {A : Nat → Nat → Int32} {V : Nat → Int64} {L : List Int32} {P : PlM} (i : Nat) (hP : MpP X h pl P) (h8 : P.1.1 ≤ 8) (hi : i < P.1.1) (hV : MdV X h m pl L I A V) : gM X yX12_ask cX12_ask 3 (some .int) (3, 0, 0) [.ref m, .int (nI 11), .int (nI i)] h z (pR h z (atm L (I 6) P.1.2 16 (nI i))) gNoX := by
  obtain ⟨J, B, U1, U2, hB, hJ, hWs, -, -⟩ := hP
  have hW := hWs i hi
  have hn := hV.2.1
  refine gM.of px12 (Nat.le_of_ble_eq_true rfl) ?_
  intro F hE
  refine g_iload_n dX12_ask_0 rfl ?_
  refine g_lookup (95) 96 dX12_ask_1 (by decide) (by decide) (by decide) ?_
  refine g_aload_n dX12_ask_96 rfl ?_
  refine g_iload_n dX12_ask_97 rfl ?_
  refine g_callV0 kX12_198 (m12_first i hB hW hV.1 hn hV.2.2.1) hV.1.1 rfl rfl rfl (Nat.le_of_ble_eq_true rfl) (by decide) (by decide) (by decide) (by decide) dX12_ask_98 ?_
  rintro v1 h2 z1 ⟨rfl, rfl, rfl⟩
  exact g_iret hE rfl (⟨by rw [show atm L (I 6) P.1.2 16 (nI i) = oI (fstA (stands L (wl (P.1.2 (nI i).toNatClampNeg))) L.length 0) from rfl, clamp_nI (by omega)], rfl, rfl⟩) dX12_ask_101
set_option maxRecDepth 100000 in
set_option maxHeartbeats 4000000 in
theorem m12_ask_18 {X : gX} {h : gH} {z m pl : Nat} {I : Nat → Int32} {A : Nat → Nat → Int32} {V : Nat → Int64} {L : List Int32} {P : PlM} (i : Nat) (hP : MpP X h pl P) (h8 : P.1.1 ≤ 8) (hi : i < P.1.1) (hV : MdV X h m pl L I A V) : gM X yX12_ask cX12_ask 3 (some .int) (3, 0, 0) [.ref m, .int (nI 13), .int (nI i)] h z (pR h z (atm L (I 6) P.1.2 18 (nI i))) gNoX := by
  obtain ⟨J, B, U1, U2, hB, hJ, hWs, -, -⟩ := hP
  have hW := hWs i hi
  have hn := hV.2.1
  refine gM.of px12 (Nat.le_of_ble_eq_true rfl) ?_
  intro F hE
  refine g_iload_n dX12_ask_0 rfl ?_
  refine g_lookup (101) 102 dX12_ask_1 (by decide) (by decide) (by decide) ?_
  have hq : atm L (I 6) P.1.2 18 (nI i) = b2i (fstA (stands L (wl (P.1.2 i))) L.length 0).isSome := by
    rw [show atm L (I 6) P.1.2 18 (nI i) = b2i (fstA (stands L (wl (P.1.2 (nI i).toNatClampNeg))) L.length 0).isSome from rfl, clamp_nI (by omega)]
  have hf : ∀ o, o = fstA (stands L (wl (P.1.2 i))) L.length 0 → oI o = -1 → o = none := by
    intro o e
    cases o with
    | none => intro _; rfl
    | some q =>
      intro e2
      have h1 := (fstA_some.mp e.symm).2.1
      exfalso
      have h2 : (nI q).toInt = (-1 : Int32).toInt := congrArg Int32.toInt e2
      rw [nI_toInt (by omega)] at h2
      have : (-1 : Int32).toInt = -1 := by decide
      omega
  refine g_aload_n dX12_ask_102 rfl ?_
  refine g_iload_n dX12_ask_103 rfl ?_
  refine g_callV0 kX12_198 (m12_first i hB hW hV.1 hn hV.2.2.1) hV.1.1 rfl rfl rfl (Nat.le_of_ble_eq_true rfl) (by decide) (by decide) (by decide) (by decide) dX12_ask_104 ?_
  rintro v1 h2 z1 ⟨rfl, rfl, rfl⟩
  refine g_iconst (-1) dX12_ask_107 (by decide) ?_
  refine g_icmp_eq 115 dX12_ask_108 (by decide) (fun c_108 => ?_) (fun c_108 => ?_)
  · refine g_iconst (nI 0) dX12_ask_115 (by decide) ?_
    refine g_callS0 kX12_201 (m12_one false) rfl rfl (Nat.le_of_ble_eq_true rfl) (by decide) (by decide) (by decide) (by decide) dX12_ask_116 ?_
    rintro v1 h1 z1 ⟨rfl, rfl, rfl⟩
    exact g_iret hE rfl (⟨by rw [hq]; rw [hf _ rfl c_108]; rfl, rfl, rfl⟩) dX12_ask_119
  · refine g_iconst (nI 1) dX12_ask_111 (by decide) ?_
    refine g_goto 116 dX12_ask_112 (by decide) ?_
    refine g_callS0 kX12_201 (m12_one true) rfl rfl (Nat.le_of_ble_eq_true rfl) (by decide) (by decide) (by decide) (by decide) dX12_ask_116 ?_
    rintro v1 h1 z1 ⟨rfl, rfl, rfl⟩
    exact g_iret hE rfl (⟨by rw [hq]; cases e : fstA (stands L (wl (P.1.2 i))) L.length 0 with | none => exact absurd (by rw [e]; rfl) c_108 | some q => rfl, rfl, rfl⟩) dX12_ask_119
theorem m12_ask {X : gX} {h : gH} {z m pl : Nat} {I : Nat → Int32} {A : Nat → Nat → Int32} {V : Nat → Int64} {L : List Int32} {P : PlM} (c : Nat) (x : Int32) (hc : isAt c = true) (hx : AtX P.1.1 c x) (h8 : P.1.1 ≤ 8) (hP : MpP X h pl P) (hV : MdV X h m pl L I A V) : gM X yX12_ask cX12_ask 3 (some .int) (3, 0, 0) [.ref m, .int (nI (rc c)), .int x] h z (pR h z (atm L (I 6) P.1.2 c x)) gNoX := by
  have h39 := code_lt (c := c) (by rw [hc]; simp)
  rcases isAt_cases c h39 hc with rfl | rfl | rfl | rfl | rfl | rfl | rfl | rfl
  · exact m12_ask_3 x hV
  · exact m12_ask_11 x hV
  · exact m12_ask_12 x hV
  · exact m12_ask_13 x hV
  · exact m12_ask_14 x hV
  · obtain ⟨i, hi, rfl⟩ := hx (by decide)
    exact m12_ask_15 i hP h8 hi hV
  · obtain ⟨i, hi, rfl⟩ := hx (by decide)
    exact m12_ask_16 i hP h8 hi hV
  · obtain ⟨i, hi, rfl⟩ := hx (by decide)
    exact m12_ask_18 i hP h8 hi hV
