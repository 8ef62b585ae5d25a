/-! the reference: answers about insults -/
set_option maxRecDepth 100000 in
set_option maxHeartbeats 4000000 in
theorem m12_countOf {X : gX} {h : gH} {z m pl n : Nat} {f : Nat → Int32} {P : PlM} {L : List Int32} {day car err t : Int32} (p : Int32) (hR : RefS X h m pl n f P L day car err t) : gM X yX12_countOf cX12_countOf 2 (some .int) (4, 0, 0) [.ref m, .int p] h z (rfA X h z m pl n f P L day car err (if p.toNatClampNeg < P.1.1 ∧ p = nI p.toNatClampNeg then nI (cnt (stands L (wl (P.1.2 p.toNatClampNeg))) L.length) else 0) (if p.toNatClampNeg < P.1.1 ∧ p = nI p.toNatClampNeg then 0 else 1)) gNoX := by
  obtain ⟨I, A, V, hV, ⟨i0, i1, i2, i6, i7⟩, ⟨a0, hn, hf⟩, hP, hok, hpl⟩ := hR
  have hl := hV.2.1
  have hp8 := hok.1.1
  have hpx : pl + 12 ≤ m ∨ pl = m + 2 ∨ m + 25 ≤ pl := Or.inr hpl
  obtain ⟨J, B, U, W, hQ, ⟨j0, -⟩, jw, -⟩ := id hP
  refine gM.of px12 (Nat.le_of_ble_eq_true rfl) ?_
  intro F hE
  refine g_aload_n dX12_countOf_0 rfl ?_
  refine g_iconst (nI 0) dX12_countOf_1 (by decide) ?_
  refine md_put0 fl12_58 hV.1 OffM.rf dX12_countOf_2 (fun h2 hM2 hO2 => ?_)
  have hQ2 := hQ.off hO2 hpx
  refine g_aload_n dX12_countOf_5 rfl ?_
  refine g_iload_n dX12_countOf_6 rfl ?_
  refine g_callV0 kX12_399 (m12_isInsult p hM2 hQ2) hM2.1 rfl rfl rfl (Nat.le_of_ble_eq_true rfl) (by decide) (by decide) (by decide) (by decide) dX12_countOf_7 ?_
  rintro v1 h2 z1 ⟨rfl, rfl, rfl⟩
  rw [j0]
  refine g_if_eqB 21 dX12_countOf_10 (by decide) (fun c_10 => ?_) (fun c_10 => ?_)
  · have hc2 : ¬ (p.toNatClampNeg < P.1.1 ∧ p = nI p.toNatClampNeg) := fun w => of_decide_eq_false c_10 ((isPl (by omega)).mpr ⟨w.2, w.1⟩)
    simp only [if_neg hc2] at hE
    refine g_aload_n dX12_countOf_21 rfl ?_
    refine g_iconst (nI 1) dX12_countOf_22 (by decide) ?_
    refine g_callV0 kX12_366 (m12_no (nI 1) hM2) hM2.1 rfl rfl rfl (Nat.le_of_ble_eq_true rfl) (by decide) (by decide) (by decide) (by decide) dX12_countOf_23 ?_
    rintro v1 h3 z1 ⟨rfl, rfl, hM3, hO3⟩
    exact g_iret hE rfl (⟨rfl, rfl, ⟨_, A, V, ⟨hM3, hl, hV.2.2.1, by rw [upd_ne (by decide), upd_ne (by decide)]; exact hV.2.2.2⟩, ⟨upd_same, by rw [upd_ne (by decide), upd_ne (by decide)]; exact i1, by rw [upd_ne (by decide), upd_ne (by decide)]; exact i2, by rw [upd_ne (by decide), upd_ne (by decide)]; exact i6, by rw [upd_ne (by decide), upd_ne (by decide)]; exact i7⟩, ⟨a0, hn, hf⟩, (hP.off hO2 hpx).off hO3 hpx, hok, hpl⟩, hO2.trans hO3⟩) dX12_countOf_26
  · have hc := (isPl (by omega)).mp (of_decide_eq_true c_10)
    have hx := hc.1
    have hc2 : p.toNatClampNeg < P.1.1 ∧ p = nI p.toNatClampNeg := ⟨hc.2, hc.1⟩
    simp only [if_pos hc2] at hE
    generalize p.toNatClampNeg = k at hc hx hE
    subst hx
    refine g_aload_n dX12_countOf_13 rfl ?_
    refine g_iload_n dX12_countOf_14 rfl ?_
    refine g_callV0 kX12_148 (m12_count k hQ2 (jw k hc.2) hM2 hl hV.2.2.1) hM2.1 rfl rfl rfl (Nat.le_of_ble_eq_true rfl) (by decide) (by decide) (by decide) (by decide) dX12_countOf_15 ?_
    rintro v1 h3 z1 ⟨rfl, rfl, rfl⟩
    refine g_goto 26 dX12_countOf_18 (by decide) ?_
    exact g_iret hE rfl (⟨rfl, rfl, ⟨_, A, V, ⟨hM2, hl, hV.2.2.1, by rw [upd_ne (by decide)]; exact hV.2.2.2⟩, ⟨upd_same, by rw [upd_ne (by decide)]; exact i1, by rw [upd_ne (by decide)]; exact i2, by rw [upd_ne (by decide)]; exact i6, by rw [upd_ne (by decide)]; exact i7⟩, ⟨a0, hn, hf⟩, hP.off hO2 hpx, hok, hpl⟩, hO2⟩) dX12_countOf_26
set_option maxRecDepth 100000 in
set_option maxHeartbeats 4000000 in
theorem m12_firstOf {X : gX} {h : gH} {z m pl n : Nat} {f : Nat → Int32} {P : PlM} {L : List Int32} {day car err t : Int32} (p : Int32) (hR : RefS X h m pl n f P L day car err t) : gM X yX12_firstOf cX12_firstOf 2 (some .int) (4, 0, 0) [.ref m, .int p] h z (rfA X h z m pl n f P L day car err (if p.toNatClampNeg < P.1.1 ∧ p = nI p.toNatClampNeg then oI (fstA (stands L (wl (P.1.2 p.toNatClampNeg))) L.length 0) else 0) (if p.toNatClampNeg < P.1.1 ∧ p = nI p.toNatClampNeg then 0 else 1)) gNoX := by
  obtain ⟨I, A, V, hV, ⟨i0, i1, i2, i6, i7⟩, ⟨a0, hn, hf⟩, hP, hok, hpl⟩ := hR
  have hl := hV.2.1
  have hp8 := hok.1.1
  have hpx : pl + 12 ≤ m ∨ pl = m + 2 ∨ m + 25 ≤ pl := Or.inr hpl
  obtain ⟨J, B, U, W, hQ, ⟨j0, -⟩, jw, -⟩ := id hP
  refine gM.of px12 (Nat.le_of_ble_eq_true rfl) ?_
  intro F hE
  refine g_aload_n dX12_firstOf_0 rfl ?_
  refine g_iconst (nI 0) dX12_firstOf_1 (by decide) ?_
  refine md_put0 fl12_58 hV.1 OffM.rf dX12_firstOf_2 (fun h2 hM2 hO2 => ?_)
  have hQ2 := hQ.off hO2 hpx
  refine g_aload_n dX12_firstOf_5 rfl ?_
  refine g_iload_n dX12_firstOf_6 rfl ?_
  refine g_callV0 kX12_399 (m12_isInsult p hM2 hQ2) hM2.1 rfl rfl rfl (Nat.le_of_ble_eq_true rfl) (by decide) (by decide) (by decide) (by decide) dX12_firstOf_7 ?_
  rintro v1 h2 z1 ⟨rfl, rfl, rfl⟩
  rw [j0]
  refine g_if_eqB 21 dX12_firstOf_10 (by decide) (fun c_10 => ?_) (fun c_10 => ?_)
  · have hc2 : ¬ (p.toNatClampNeg < P.1.1 ∧ p = nI p.toNatClampNeg) := fun w => of_decide_eq_false c_10 ((isPl (by omega)).mpr ⟨w.2, w.1⟩)
    simp only [if_neg hc2] at hE
    refine g_aload_n dX12_firstOf_21 rfl ?_
    refine g_iconst (nI 1) dX12_firstOf_22 (by decide) ?_
    refine g_callV0 kX12_366 (m12_no (nI 1) hM2) hM2.1 rfl rfl rfl (Nat.le_of_ble_eq_true rfl) (by decide) (by decide) (by decide) (by decide) dX12_firstOf_23 ?_
    rintro v1 h3 z1 ⟨rfl, rfl, hM3, hO3⟩
    exact g_iret hE rfl (⟨rfl, rfl, ⟨_, A, V, ⟨hM3, hl, hV.2.2.1, by rw [upd_ne (by decide), upd_ne (by decide)]; exact hV.2.2.2⟩, ⟨upd_same, by rw [upd_ne (by decide), upd_ne (by decide)]; exact i1, by rw [upd_ne (by decide), upd_ne (by decide)]; exact i2, by rw [upd_ne (by decide), upd_ne (by decide)]; exact i6, by rw [upd_ne (by decide), upd_ne (by decide)]; exact i7⟩, ⟨a0, hn, hf⟩, (hP.off hO2 hpx).off hO3 hpx, hok, hpl⟩, hO2.trans hO3⟩) dX12_firstOf_26
  · have hc := (isPl (by omega)).mp (of_decide_eq_true c_10)
    have hx := hc.1
    have hc2 : p.toNatClampNeg < P.1.1 ∧ p = nI p.toNatClampNeg := ⟨hc.2, hc.1⟩
    simp only [if_pos hc2] at hE
    generalize p.toNatClampNeg = k at hc hx hE
    subst hx
    refine g_aload_n dX12_firstOf_13 rfl ?_
    refine g_iload_n dX12_firstOf_14 rfl ?_
    refine g_callV0 kX12_198 (m12_first k hQ2 (jw k hc.2) hM2 hl hV.2.2.1) hM2.1 rfl rfl rfl (Nat.le_of_ble_eq_true rfl) (by decide) (by decide) (by decide) (by decide) dX12_firstOf_15 ?_
    rintro v1 h3 z1 ⟨rfl, rfl, rfl⟩
    refine g_goto 26 dX12_firstOf_18 (by decide) ?_
    exact g_iret hE rfl (⟨rfl, rfl, ⟨_, A, V, ⟨hM2, hl, hV.2.2.1, by rw [upd_ne (by decide)]; exact hV.2.2.2⟩, ⟨upd_same, by rw [upd_ne (by decide)]; exact i1, by rw [upd_ne (by decide)]; exact i2, by rw [upd_ne (by decide)]; exact i6, by rw [upd_ne (by decide)]; exact i7⟩, ⟨a0, hn, hf⟩, hP.off hO2 hpx, hok, hpl⟩, hO2⟩) dX12_firstOf_26
set_option maxRecDepth 100000 in
set_option maxHeartbeats 4000000 in
theorem m12_lastOf {X : gX} {h : gH} {z m pl n : Nat} {f : Nat → Int32} {P : PlM} {L : List Int32} {day car err t : Int32} (p : Int32) (hR : RefS X h m pl n f P L day car err t) : gM X yX12_lastOf cX12_lastOf 2 (some .int) (4, 0, 0) [.ref m, .int p] h z (rfA X h z m pl n f P L day car err (if p.toNatClampNeg < P.1.1 ∧ p = nI p.toNatClampNeg then oI (lstA (stands L (wl (P.1.2 p.toNatClampNeg))) L.length) else 0) (if p.toNatClampNeg < P.1.1 ∧ p = nI p.toNatClampNeg then 0 else 1)) gNoX := by
  obtain ⟨I, A, V, hV, ⟨i0, i1, i2, i6, i7⟩, ⟨a0, hn, hf⟩, hP, hok, hpl⟩ := hR
  have hl := hV.2.1
  have hp8 := hok.1.1
  have hpx : pl + 12 ≤ m ∨ pl = m + 2 ∨ m + 25 ≤ pl := Or.inr hpl
  obtain ⟨J, B, U, W, hQ, ⟨j0, -⟩, jw, -⟩ := id hP
  refine gM.of px12 (Nat.le_of_ble_eq_true rfl) ?_
  intro F hE
  refine g_aload_n dX12_lastOf_0 rfl ?_
  refine g_iconst (nI 0) dX12_lastOf_1 (by decide) ?_
  refine md_put0 fl12_58 hV.1 OffM.rf dX12_lastOf_2 (fun h2 hM2 hO2 => ?_)
  have hQ2 := hQ.off hO2 hpx
  refine g_aload_n dX12_lastOf_5 rfl ?_
  refine g_iload_n dX12_lastOf_6 rfl ?_
  refine g_callV0 kX12_399 (m12_isInsult p hM2 hQ2) hM2.1 rfl rfl rfl (Nat.le_of_ble_eq_true rfl) (by decide) (by decide) (by decide) (by decide) dX12_lastOf_7 ?_
  rintro v1 h2 z1 ⟨rfl, rfl, rfl⟩
  rw [j0]
  refine g_if_eqB 21 dX12_lastOf_10 (by decide) (fun c_10 => ?_) (fun c_10 => ?_)
  · have hc2 : ¬ (p.toNatClampNeg < P.1.1 ∧ p = nI p.toNatClampNeg) := fun w => of_decide_eq_false c_10 ((isPl (by omega)).mpr ⟨w.2, w.1⟩)
    simp only [if_neg hc2] at hE
    refine g_aload_n dX12_lastOf_21 rfl ?_
    refine g_iconst (nI 1) dX12_lastOf_22 (by decide) ?_
    refine g_callV0 kX12_366 (m12_no (nI 1) hM2) hM2.1 rfl rfl rfl (Nat.le_of_ble_eq_true rfl) (by decide) (by decide) (by decide) (by decide) dX12_lastOf_23 ?_
    rintro v1 h3 z1 ⟨rfl, rfl, hM3, hO3⟩
    exact g_iret hE rfl (⟨rfl, rfl, ⟨_, A, V, ⟨hM3, hl, hV.2.2.1, by rw [upd_ne (by decide), upd_ne (by decide)]; exact hV.2.2.2⟩, ⟨upd_same, by rw [upd_ne (by decide), upd_ne (by decide)]; exact i1, by rw [upd_ne (by decide), upd_ne (by decide)]; exact i2, by rw [upd_ne (by decide), upd_ne (by decide)]; exact i6, by rw [upd_ne (by decide), upd_ne (by decide)]; exact i7⟩, ⟨a0, hn, hf⟩, (hP.off hO2 hpx).off hO3 hpx, hok, hpl⟩, hO2.trans hO3⟩) dX12_lastOf_26
  · have hc := (isPl (by omega)).mp (of_decide_eq_true c_10)
    have hx := hc.1
    have hc2 : p.toNatClampNeg < P.1.1 ∧ p = nI p.toNatClampNeg := ⟨hc.2, hc.1⟩
    simp only [if_pos hc2] at hE
    generalize p.toNatClampNeg = k at hc hx hE
    subst hx
    refine g_aload_n dX12_lastOf_13 rfl ?_
    refine g_iload_n dX12_lastOf_14 rfl ?_
    refine g_callV0 kX12_402 (m12_last k hQ2 (jw k hc.2) hM2 hl hV.2.2.1) hM2.1 rfl rfl rfl (Nat.le_of_ble_eq_true rfl) (by decide) (by decide) (by decide) (by decide) dX12_lastOf_15 ?_
    rintro v1 h3 z1 ⟨rfl, rfl, rfl⟩
    refine g_goto 26 dX12_lastOf_18 (by decide) ?_
    exact g_iret hE rfl (⟨rfl, rfl, ⟨_, A, V, ⟨hM2, hl, hV.2.2.1, by rw [upd_ne (by decide)]; exact hV.2.2.2⟩, ⟨upd_same, by rw [upd_ne (by decide)]; exact i1, by rw [upd_ne (by decide)]; exact i2, by rw [upd_ne (by decide)]; exact i6, by rw [upd_ne (by decide)]; exact i7⟩, ⟨a0, hn, hf⟩, hP.off hO2 hpx, hok, hpl⟩, hO2⟩) dX12_lastOf_26
