/-! the reference: by hand -/
set_option maxRecDepth 100000 in
set_option maxHeartbeats 4000000 in
theorem mR_hear {X : gX} {h : gH} {z m pl n : Nat} {f : Nat → Int32} {P : PlM} {L : List Int32} {day car err t : Int32} (p : Int32) (hR : RefS X h m pl n f P L day car err t) : gM X yX12_hear cX12_hear 2 (some .int) (4, 0, 0) [.ref m, .int p] h z (fun r h' z' => r = some (.int (if nI 1 ≤ p ∧ p ≤ nI 26 then nI (hearL L p).length else 0)) ∧ z' = z ∧ RefS X h' m pl n f P (if nI 1 ≤ p ∧ p ≤ nI 26 then hearL L p else L) day car err (if nI 1 ≤ p ∧ p ≤ nI 26 then 0 else 1) ∧ OffM h h' m) gNoX := by
  obtain ⟨I, A, V, hV, ⟨i0, i1, i2, i6, i7⟩, ha, hP, hok, hpl⟩ := hR
  have hl := hV.2.1
  have hpx : pl + 12 ≤ m ∨ pl = m + 2 ∨ m + 25 ≤ pl := Or.inr hpl
  have hi : I 1 = nI n ∧ I 2 = err := ⟨i1, i2⟩
  refine gM.of px12 (Nat.le_of_ble_eq_true rfl) ?_
  intro F hE
  refine g_aload_n dX12_hear_0 rfl ?_
  refine g_iconst (nI 0) dX12_hear_1 (by decide) ?_
  refine md_put0 fl12_58 hV.1 OffM.rf dX12_hear_2 (fun h2 hM2 hO2 => ?_)
  have hV2 := hV.put (by decide) hM2
  have hP2 := hP.off hO2 hpx
  refine g_iload_n dX12_hear_5 rfl ?_
  refine g_iconst (nI 1) dX12_hear_6 (by decide) ?_
  refine g_bipush (nI 26) dX12_hear_7 (by decide) ?_
  refine g_callS0 kX12_64 (m12_isIn (p) (nI 1) (nI 26)) rfl rfl (Nat.le_of_ble_eq_true rfl) (by decide) (by decide) (by decide) (by decide) dX12_hear_9 ?_
  rintro v1 h2 z1 ⟨rfl, rfl, rfl⟩
  refine g_if_neB 21 dX12_hear_12 (by decide) (fun c_12 => ?_) (fun c_12 => ?_)
  · have hc2 : nI 1 ≤ p ∧ p ≤ nI 26 := of_decide_eq_true c_12
    simp only [if_pos hc2] at hE
    refine g_aload_n dX12_hear_21 rfl ?_
    refine g_iload_n dX12_hear_22 rfl ?_
    refine g_callV0 kX12_79 (m12_hears p hV2) hM2.1 rfl rfl rfl (Nat.le_of_ble_eq_true rfl) (by decide) (by decide) (by decide) (by decide) dX12_hear_23 ?_
    rintro v1 h3 z1 ⟨rfl, rfl, ⟨I3, A3, hV3, hH3, -, -⟩, hO3⟩
    refine g_aload_n dX12_hear_26 rfl ?_
    refine g_getf fl12_61 hV3.1.1 rfl dX12_hear_27 ?_
    exact g_iret hE rfl (⟨rfl, rfl, RefS.fin hi ha hP hok hpl hV3 (hH3.toQ) ((hH3.1 6 (by decide)).trans ((upd_ne (by decide)).trans i6)) ((hH3.1 7 (by decide)).trans ((upd_ne (by decide)).trans i7)) (hO2.trans hO3), hO2.trans hO3⟩) dX12_hear_30
  · have hc2 : ¬ (nI 1 ≤ p ∧ p ≤ nI 26) := of_decide_eq_false c_12
    simp only [if_neg hc2] at hE
    refine g_aload_n dX12_hear_15 rfl ?_
    refine g_iconst (nI 1) dX12_hear_16 (by decide) ?_
    refine g_callV0 kX12_366 (m12_no (nI 1) hM2) hM2.1 rfl rfl rfl (Nat.le_of_ble_eq_true rfl) (by decide) (by decide) (by decide) (by decide) dX12_hear_17 ?_
    rintro v1 h3 z1 ⟨rfl, rfl, hM3, hO3⟩
    exact g_iret hE rfl (⟨rfl, rfl, RefS.no hi ha hP hok hpl hV2 hM3 i6 i7 (hO2.trans hO3), hO2.trans hO3⟩) dX12_hear_20
set_option maxRecDepth 100000 in
set_option maxHeartbeats 4000000 in
theorem mR_mock {X : gX} {h : gH} {z m pl n : Nat} {f : Nat → Int32} {P : PlM} {L : List Int32} {day car err t : Int32} (p : Int32) (hR : RefS X h m pl n f P L day car err t) : gM X yX12_mock cX12_mock 2 (some .int) (4, 0, 0) [.ref m, .int p] h z (fun r h' z' => r = some (.int (if p.toNatClampNeg < P.1.1 ∧ p = nI p.toNatClampNeg then nI ((wl (P.1.2 p.toNatClampNeg)).foldl hearL L).length else 0)) ∧ z' = z ∧ RefS X h' m pl n f P (if p.toNatClampNeg < P.1.1 ∧ p = nI p.toNatClampNeg then (wl (P.1.2 p.toNatClampNeg)).foldl hearL L else L) day car err (if p.toNatClampNeg < P.1.1 ∧ p = nI p.toNatClampNeg then 0 else 1) ∧ OffM h h' m) gNoX := by
  obtain ⟨I, A, V, hV, ⟨i0, i1, i2, i6, i7⟩, ha, hP, hok, hpl⟩ := hR
  have hl := hV.2.1
  have hpx : pl + 12 ≤ m ∨ pl = m + 2 ∨ m + 25 ≤ pl := Or.inr hpl
  have hi : I 1 = nI n ∧ I 2 = err := ⟨i1, i2⟩
  have hp8 := hok.1.1
  obtain ⟨J, B, U, W, hQ, ⟨j0, -⟩, jw, -⟩ := id hP
  refine gM.of px12 (Nat.le_of_ble_eq_true rfl) ?_
  intro F hE
  refine g_aload_n dX12_mock_0 rfl ?_
  refine g_iconst (nI 0) dX12_mock_1 (by decide) ?_
  refine md_put0 fl12_58 hV.1 OffM.rf dX12_mock_2 (fun h2 hM2 hO2 => ?_)
  have hV2 := hV.put (by decide) hM2
  have hP2 := hP.off hO2 hpx
  refine g_aload_n dX12_mock_5 rfl ?_
  refine g_iload_n dX12_mock_6 rfl ?_
  refine g_callV0 kX12_399 (m12_isInsult p hM2 (hQ.off hO2 hpx)) hM2.1 rfl rfl rfl (Nat.le_of_ble_eq_true rfl) (by decide) (by decide) (by decide) (by decide) dX12_mock_7 ?_
  rintro v1 h2 z1 ⟨rfl, rfl, rfl⟩
  rw [j0]
  refine g_if_neB 19 dX12_mock_10 (by decide) (fun c_10 => ?_) (fun c_10 => ?_)
  · have hc := (isPl (by omega)).mp (of_decide_eq_true c_10)
    have hx := hc.1
    have hc2 : p.toNatClampNeg < P.1.1 ∧ p = nI p.toNatClampNeg := ⟨hc.2, hc.1⟩
    simp only [if_pos hc2] at hE
    generalize p.toNatClampNeg = k at hc hx hE
    subst hx
    refine g_aload_n dX12_mock_19 rfl ?_
    refine g_iload_n dX12_mock_20 rfl ?_
    refine g_callV0 kX12_164 (m12_mocks k (hQ.off hO2 hpx) (jw k hc.2) hpx hV2) hM2.1 rfl rfl rfl (Nat.le_of_ble_eq_true rfl) (by decide) (by decide) (by decide) (by decide) dX12_mock_21 ?_
    rintro v1 h3 z1 ⟨rfl, rfl, ⟨I3, A3, hV3, hH3⟩, hO3⟩
    refine g_aload_n dX12_mock_24 rfl ?_
    refine g_getf fl12_61 hV3.1.1 rfl dX12_mock_25 ?_
    exact g_iret hE rfl (⟨rfl, rfl, RefS.fin hi ha hP hok hpl hV3 (hH3.toQ) ((hH3.1 6 (by decide)).trans ((upd_ne (by decide)).trans i6)) ((hH3.1 7 (by decide)).trans ((upd_ne (by decide)).trans i7)) (hO2.trans hO3), hO2.trans hO3⟩) dX12_mock_28
  · have hc2 : ¬ (p.toNatClampNeg < P.1.1 ∧ p = nI p.toNatClampNeg) := fun w => of_decide_eq_false c_10 ((isPl (by omega)).mpr ⟨w.2, w.1⟩)
    simp only [if_neg hc2] at hE
    refine g_aload_n dX12_mock_13 rfl ?_
    refine g_iconst (nI 1) dX12_mock_14 (by decide) ?_
    refine g_callV0 kX12_366 (m12_no (nI 1) hM2) hM2.1 rfl rfl rfl (Nat.le_of_ble_eq_true rfl) (by decide) (by decide) (by decide) (by decide) dX12_mock_15 ?_
    rintro v1 h3 z1 ⟨rfl, rfl, hM3, hO3⟩
    exact g_iret hE rfl (⟨rfl, rfl, RefS.no hi ha hP hok hpl hV2 hM3 i6 i7 (hO2.trans hO3), hO2.trans hO3⟩) dX12_mock_18
set_option maxRecDepth 100000 in
set_option maxHeartbeats 4000000 in
theorem mR_echo {X : gX} {h : gH} {z m pl n : Nat} {f : Nat → Int32} {P : PlM} {L : List Int32} {day car err t : Int32} (p : Int32) (hR : RefS X h m pl n f P L day car err t) : gM X yX12_echo cX12_echo 2 (some .int) (4, 0, 0) [.ref m, .int p] h z (fun r h' z' => r = some (.int (if nI 1 ≤ p ∧ p ≤ nI L.length then nI ((L.drop (L.length - p.toNatClampNeg)).foldl hearL L).length else 0)) ∧ z' = z ∧ RefS X h' m pl n f P (if nI 1 ≤ p ∧ p ≤ nI L.length then (L.drop (L.length - p.toNatClampNeg)).foldl hearL L else L) day car err (if nI 1 ≤ p ∧ p ≤ nI L.length then 0 else 1) ∧ OffM h h' m) gNoX := by
  obtain ⟨I, A, V, hV, ⟨i0, i1, i2, i6, i7⟩, ha, hP, hok, hpl⟩ := hR
  have hl := hV.2.1
  have hpx : pl + 12 ≤ m ∨ pl = m + 2 ∨ m + 25 ≤ pl := Or.inr hpl
  have hi : I 1 = nI n ∧ I 2 = err := ⟨i1, i2⟩
  refine gM.of px12 (Nat.le_of_ble_eq_true rfl) ?_
  intro F hE
  refine g_aload_n dX12_echo_0 rfl ?_
  refine g_iconst (nI 0) dX12_echo_1 (by decide) ?_
  refine md_put0 fl12_58 hV.1 OffM.rf dX12_echo_2 (fun h2 hM2 hO2 => ?_)
  have hV2 := hV.put (by decide) hM2
  have hP2 := hP.off hO2 hpx
  refine g_iload_n dX12_echo_5 rfl ?_
  refine g_iconst (nI 1) dX12_echo_6 (by decide) ?_
  refine g_aload_n dX12_echo_7 rfl ?_
  refine g_getf fl12_61 hM2.1 rfl dX12_echo_8 ?_
  refine g_callS0 kX12_64 (m12_isIn (p) (nI 1) (nI L.length)) rfl rfl (Nat.le_of_ble_eq_true rfl) (by decide) (by decide) (by decide) (by decide) dX12_echo_11 ?_
  rintro v1 h2 z1 ⟨rfl, rfl, rfl⟩
  refine g_if_neB 23 dX12_echo_14 (by decide) (fun c_14 => ?_) (fun c_14 => ?_)
  · have hc2 : nI 1 ≤ p ∧ p ≤ nI L.length := of_decide_eq_true c_14
    have hL1 : 1 ≤ L.length := by
      have a := hc2.1
      have b := hc2.2
      simp only [Int32.le_iff_toInt_le, nI_toInt (show 1 < 2 ^ 31 by decide), nI_toInt (show L.length < 2 ^ 31 by omega)] at a b
      omega
    obtain ⟨g1, g2, hx⟩ := i32_nat (by omega) hc2.1 hc2.2 hL1
    simp only [if_pos hc2] at hE
    generalize p.toNatClampNeg = k at g1 g2 hx hE
    subst hx
    refine g_aload_n dX12_echo_23 rfl ?_
    refine g_iload_n dX12_echo_24 rfl ?_
    refine g_callV0 kX12_182 (m12_echoes k g2 hV2) hM2.1 rfl rfl rfl (Nat.le_of_ble_eq_true rfl) (by decide) (by decide) (by decide) (by decide) dX12_echo_25 ?_
    rintro v1 h3 z1 ⟨rfl, rfl, ⟨I3, A3, hV3, hH3⟩, hO3⟩
    refine g_aload_n dX12_echo_28 rfl ?_
    refine g_getf fl12_61 hV3.1.1 rfl dX12_echo_29 ?_
    exact g_iret hE rfl (⟨rfl, rfl, RefS.fin hi ha hP hok hpl hV3 (hH3.toQ) ((hH3.1 6 (by decide)).trans ((upd_ne (by decide)).trans i6)) ((hH3.1 7 (by decide)).trans ((upd_ne (by decide)).trans i7)) (hO2.trans hO3), hO2.trans hO3⟩) dX12_echo_32
  · have hc2 : ¬ (nI 1 ≤ p ∧ p ≤ nI L.length) := of_decide_eq_false c_14
    simp only [if_neg hc2] at hE
    refine g_aload_n dX12_echo_17 rfl ?_
    refine g_iconst (nI 1) dX12_echo_18 (by decide) ?_
    refine g_callV0 kX12_366 (m12_no (nI 1) hM2) hM2.1 rfl rfl rfl (Nat.le_of_ble_eq_true rfl) (by decide) (by decide) (by decide) (by decide) dX12_echo_19 ?_
    rintro v1 h3 z1 ⟨rfl, rfl, hM3, hO3⟩
    exact g_iret hE rfl (⟨rfl, rfl, RefS.no hi ha hP hok hpl hV2 hM3 i6 i7 (hO2.trans hO3), hO2.trans hO3⟩) dX12_echo_22
set_option maxRecDepth 100000 in
set_option maxHeartbeats 4000000 in
theorem mR_forget {X : gX} {h : gH} {z m pl n : Nat} {f : Nat → Int32} {P : PlM} {L : List Int32} {day car err t : Int32} (p : Int32) (hR : RefS X h m pl n f P L day car err t) : gM X yX12_forget cX12_forget 2 (some .int) (4, 0, 0) [.ref m, .int p] h z (fun r h' z' => r = some (.int (if nI 1 ≤ p ∧ p ≤ nI L.length then nI (L.drop p.toNatClampNeg).length else 0)) ∧ z' = z ∧ RefS X h' m pl n f P (if nI 1 ≤ p ∧ p ≤ nI L.length then L.drop p.toNatClampNeg else L) day car err (if nI 1 ≤ p ∧ p ≤ nI L.length then 0 else 1) ∧ OffM h h' m) gNoX := by
  obtain ⟨I, A, V, hV, ⟨i0, i1, i2, i6, i7⟩, ha, hP, hok, hpl⟩ := hR
  have hl := hV.2.1
  have hpx : pl + 12 ≤ m ∨ pl = m + 2 ∨ m + 25 ≤ pl := Or.inr hpl
  have hi : I 1 = nI n ∧ I 2 = err := ⟨i1, i2⟩
  refine gM.of px12 (Nat.le_of_ble_eq_true rfl) ?_
  intro F hE
  refine g_aload_n dX12_forget_0 rfl ?_
  refine g_iconst (nI 0) dX12_forget_1 (by decide) ?_
  refine md_put0 fl12_58 hV.1 OffM.rf dX12_forget_2 (fun h2 hM2 hO2 => ?_)
  have hV2 := hV.put (by decide) hM2
  have hP2 := hP.off hO2 hpx
  refine g_iload_n dX12_forget_5 rfl ?_
  refine g_iconst (nI 1) dX12_forget_6 (by decide) ?_
  refine g_aload_n dX12_forget_7 rfl ?_
  refine g_getf fl12_61 hM2.1 rfl dX12_forget_8 ?_
  refine g_callS0 kX12_64 (m12_isIn (p) (nI 1) (nI L.length)) rfl rfl (Nat.le_of_ble_eq_true rfl) (by decide) (by decide) (by decide) (by decide) dX12_forget_11 ?_
  rintro v1 h2 z1 ⟨rfl, rfl, rfl⟩
  refine g_if_neB 23 dX12_forget_14 (by decide) (fun c_14 => ?_) (fun c_14 => ?_)
  · have hc2 : nI 1 ≤ p ∧ p ≤ nI L.length := of_decide_eq_true c_14
    have hL1 : 1 ≤ L.length := by
      have a := hc2.1
      have b := hc2.2
      simp only [Int32.le_iff_toInt_le, nI_toInt (show 1 < 2 ^ 31 by decide), nI_toInt (show L.length < 2 ^ 31 by omega)] at a b
      omega
    obtain ⟨g1, g2, hx⟩ := i32_nat (by omega) hc2.1 hc2.2 hL1
    simp only [if_pos hc2] at hE
    generalize p.toNatClampNeg = k at g1 g2 hx hE
    subst hx
    refine g_aload_n dX12_forget_23 rfl ?_
    refine g_iload_n dX12_forget_24 rfl ?_
    refine g_callV0 kX12_75 (m12_forgets k g2 hV2) hM2.1 rfl rfl rfl (Nat.le_of_ble_eq_true rfl) (by decide) (by decide) (by decide) (by decide) dX12_forget_25 ?_
    rintro v1 h3 z1 ⟨rfl, rfl, ⟨I3, A3, hV3, hH3, -, -⟩, hO3⟩
    refine g_aload_n dX12_forget_28 rfl ?_
    refine g_getf fl12_61 hV3.1.1 rfl dX12_forget_29 ?_
    exact g_iret hE rfl (⟨rfl, rfl, RefS.fin hi ha hP hok hpl hV3 (hH3.toQ) ((hH3.1 6 (by decide)).trans ((upd_ne (by decide)).trans i6)) ((hH3.1 7 (by decide)).trans ((upd_ne (by decide)).trans i7)) (hO2.trans hO3), hO2.trans hO3⟩) dX12_forget_32
  · have hc2 : ¬ (nI 1 ≤ p ∧ p ≤ nI L.length) := of_decide_eq_false c_14
    simp only [if_neg hc2] at hE
    refine g_aload_n dX12_forget_17 rfl ?_
    refine g_iconst (nI 1) dX12_forget_18 (by decide) ?_
    refine g_callV0 kX12_366 (m12_no (nI 1) hM2) hM2.1 rfl rfl rfl (Nat.le_of_ble_eq_true rfl) (by decide) (by decide) (by decide) (by decide) dX12_forget_19 ?_
    rintro v1 h3 z1 ⟨rfl, rfl, hM3, hO3⟩
    exact g_iret hE rfl (⟨rfl, rfl, RefS.no hi ha hP hok hpl hV2 hM3 i6 i7 (hO2.trans hO3), hO2.trans hO3⟩) dX12_forget_22
