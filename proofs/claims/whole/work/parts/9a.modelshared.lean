/-! the reference: short answers of the whole -/
set_option maxRecDepth 100000 in
set_option maxHeartbeats 4000000 in
theorem mR_length {X : gX} {h : gH} {z m pl n : Nat} {f : Nat → Int32} {P : PlM} {L : List Int32} {day car err t : Int32} (hR : RefS X h m pl n f P L day car err t) : gM X yX12_length cX12_length 1 (some .int) (1, 0, 0) [.ref m] h z (rfA X h z m pl n f P L day car err (nI L.length) 0) gNoX := by
  obtain ⟨I, A, V, hV, ⟨i0, i1, i2, i6, i7⟩, ⟨a0, hn, hf⟩, hP, hok, hpl⟩ := hR
  have hl := hV.2.1
  have hpx : pl + 12 ≤ m ∨ pl = m + 2 ∨ m + 25 ≤ pl := Or.inr hpl
  refine gM.of px12 (Nat.le_of_ble_eq_true rfl) ?_
  intro F hE
  refine g_aload_n dX12_length_0 rfl ?_
  refine g_aload_n dX12_length_1 rfl ?_
  refine g_getf fl12_61 hV.1.1 rfl dX12_length_2 ?_
  refine g_callV0 kX12_372 (m12_ok _ hV.1) hV.1.1 rfl rfl rfl (Nat.le_of_ble_eq_true rfl) (by decide) (by decide) (by decide) (by decide) dX12_length_5 ?_
  rintro v1 h2 z1 ⟨rfl, rfl, hM2, hO2⟩
  exact g_iret hE rfl (⟨rfl, rfl, ⟨_, A, V, ⟨hM2, hl, hV.2.2.1, by rw [upd_ne (by decide)]; exact hV.2.2.2⟩, ⟨upd_same, by rw [upd_ne (by decide)]; exact i1, by rw [upd_ne (by decide)]; exact i2, by rw [upd_ne (by decide)]; exact i6, by rw [upd_ne (by decide)]; exact i7⟩, ⟨a0, hn, hf⟩, hP.off hO2 hpx, hok, hpl⟩, hO2⟩) dX12_length_8
set_option maxRecDepth 100000 in
set_option maxHeartbeats 4000000 in
theorem mR_day {X : gX} {h : gH} {z m pl n : Nat} {f : Nat → Int32} {P : PlM} {L : List Int32} {day car err t : Int32} (hR : RefS X h m pl n f P L day car err t) : gM X yX12_day cX12_day 1 (some .int) (1, 0, 0) [.ref m] h z (rfA X h z m pl n f P L day car err (day) 0) gNoX := by
  obtain ⟨I, A, V, hV, ⟨i0, i1, i2, i6, i7⟩, ⟨a0, hn, hf⟩, hP, hok, hpl⟩ := hR
  have hl := hV.2.1
  have hpx : pl + 12 ≤ m ∨ pl = m + 2 ∨ m + 25 ≤ pl := Or.inr hpl
  refine gM.of px12 (Nat.le_of_ble_eq_true rfl) ?_
  intro F hE
  refine g_aload_n dX12_day_0 rfl ?_
  refine g_aload_n dX12_day_1 rfl ?_
  refine g_getf fl12_97 hV.1.1 rfl dX12_day_2 ?_
  rw [i6]
  refine g_callV0 kX12_372 (m12_ok _ hV.1) hV.1.1 rfl rfl rfl (Nat.le_of_ble_eq_true rfl) (by decide) (by decide) (by decide) (by decide) dX12_day_5 ?_
  rintro v1 h2 z1 ⟨rfl, rfl, hM2, hO2⟩
  exact g_iret hE rfl (⟨rfl, rfl, ⟨_, A, V, ⟨hM2, hl, hV.2.2.1, by rw [upd_ne (by decide)]; exact hV.2.2.2⟩, ⟨upd_same, by rw [upd_ne (by decide)]; exact i1, by rw [upd_ne (by decide)]; exact i2, by rw [upd_ne (by decide)]; exact i6, by rw [upd_ne (by decide)]; exact i7⟩, ⟨a0, hn, hf⟩, hP.off hO2 hpx, hok, hpl⟩, hO2⟩) dX12_day_8
set_option maxRecDepth 100000 in
set_option maxHeartbeats 4000000 in
theorem mR_errorAt {X : gX} {h : gH} {z m pl n : Nat} {f : Nat → Int32} {P : PlM} {L : List Int32} {day car err t : Int32} (hR : RefS X h m pl n f P L day car err t) : gM X yX12_errorAt cX12_errorAt 1 (some .int) (1, 0, 0) [.ref m] h z (rfA X h z m pl n f P L day car err (err) 0) gNoX := by
  obtain ⟨I, A, V, hV, ⟨i0, i1, i2, i6, i7⟩, ⟨a0, hn, hf⟩, hP, hok, hpl⟩ := hR
  have hl := hV.2.1
  have hpx : pl + 12 ≤ m ∨ pl = m + 2 ∨ m + 25 ≤ pl := Or.inr hpl
  refine gM.of px12 (Nat.le_of_ble_eq_true rfl) ?_
  intro F hE
  refine g_aload_n dX12_errorAt_0 rfl ?_
  refine g_aload_n dX12_errorAt_1 rfl ?_
  refine g_getf fl12_13 hV.1.1 rfl dX12_errorAt_2 ?_
  rw [i2]
  refine g_callV0 kX12_372 (m12_ok _ hV.1) hV.1.1 rfl rfl rfl (Nat.le_of_ble_eq_true rfl) (by decide) (by decide) (by decide) (by decide) dX12_errorAt_5 ?_
  rintro v1 h2 z1 ⟨rfl, rfl, hM2, hO2⟩
  exact g_iret hE rfl (⟨rfl, rfl, ⟨_, A, V, ⟨hM2, hl, hV.2.2.1, by rw [upd_ne (by decide)]; exact hV.2.2.2⟩, ⟨upd_same, by rw [upd_ne (by decide)]; exact i1, by rw [upd_ne (by decide)]; exact i2, by rw [upd_ne (by decide)]; exact i6, by rw [upd_ne (by decide)]; exact i7⟩, ⟨a0, hn, hf⟩, hP.off hO2 hpx, hok, hpl⟩, hO2⟩) dX12_errorAt_8
set_option maxRecDepth 100000 in
set_option maxHeartbeats 4000000 in
theorem mR_ordersCarriedOut {X : gX} {h : gH} {z m pl n : Nat} {f : Nat → Int32} {P : PlM} {L : List Int32} {day car err t : Int32} (hR : RefS X h m pl n f P L day car err t) : gM X yX12_ordersCarriedOut cX12_ordersCarriedOut 1 (some .int) (1, 0, 0) [.ref m] h z (rfA X h z m pl n f P L day car err (car) 0) gNoX := by
  obtain ⟨I, A, V, hV, ⟨i0, i1, i2, i6, i7⟩, ⟨a0, hn, hf⟩, hP, hok, hpl⟩ := hR
  have hl := hV.2.1
  have hpx : pl + 12 ≤ m ∨ pl = m + 2 ∨ m + 25 ≤ pl := Or.inr hpl
  refine gM.of px12 (Nat.le_of_ble_eq_true rfl) ?_
  intro F hE
  refine g_aload_n dX12_ordersCarriedOut_0 rfl ?_
  refine g_aload_n dX12_ordersCarriedOut_1 rfl ?_
  refine g_getf fl12_103 hV.1.1 rfl dX12_ordersCarriedOut_2 ?_
  rw [i7]
  refine g_callV0 kX12_372 (m12_ok _ hV.1) hV.1.1 rfl rfl rfl (Nat.le_of_ble_eq_true rfl) (by decide) (by decide) (by decide) (by decide) dX12_ordersCarriedOut_5 ?_
  rintro v1 h2 z1 ⟨rfl, rfl, hM2, hO2⟩
  exact g_iret hE rfl (⟨rfl, rfl, ⟨_, A, V, ⟨hM2, hl, hV.2.2.1, by rw [upd_ne (by decide)]; exact hV.2.2.2⟩, ⟨upd_same, by rw [upd_ne (by decide)]; exact i1, by rw [upd_ne (by decide)]; exact i2, by rw [upd_ne (by decide)]; exact i6, by rw [upd_ne (by decide)]; exact i7⟩, ⟨a0, hn, hf⟩, hP.off hO2 hpx, hok, hpl⟩, hO2⟩) dX12_ordersCarriedOut_8
set_option maxRecDepth 100000 in
set_option maxHeartbeats 4000000 in
theorem mR_insults {X : gX} {h : gH} {z m pl n : Nat} {f : Nat → Int32} {P : PlM} {L : List Int32} {day car err t : Int32} (hR : RefS X h m pl n f P L day car err t) : gM X yX12_insults cX12_insults 1 (some .int) (1, 0, 0) [.ref m] h z (rfA X h z m pl n f P L day car err (nI P.1.1) 0) gNoX := by
  obtain ⟨I, A, V, hV, ⟨i0, i1, i2, i6, i7⟩, ⟨a0, hn, hf⟩, hP, hok, hpl⟩ := hR
  have hl := hV.2.1
  have hpx : pl + 12 ≤ m ∨ pl = m + 2 ∨ m + 25 ≤ pl := Or.inr hpl
  obtain ⟨J, B, U, W, hQ, ⟨j0, -⟩, jw, -⟩ := id hP
  refine gM.of px12 (Nat.le_of_ble_eq_true rfl) ?_
  intro F hE
  refine g_aload_n dX12_insults_0 rfl ?_
  refine g_aload_n dX12_insults_1 rfl ?_
  refine g_getf fl12_20 hV.1.1 rfl dX12_insults_2 ?_
  refine g_getfN fl12_68 hQ.1 rfl dX12_insults_5 ?_
  rw [j0]
  refine g_callV0 kX12_372 (m12_ok _ hV.1) hV.1.1 rfl rfl rfl (Nat.le_of_ble_eq_true rfl) (by decide) (by decide) (by decide) (by decide) dX12_insults_8 ?_
  rintro v1 h2 z1 ⟨rfl, rfl, hM2, hO2⟩
  exact g_iret hE rfl (⟨rfl, rfl, ⟨_, A, V, ⟨hM2, hl, hV.2.2.1, by rw [upd_ne (by decide)]; exact hV.2.2.2⟩, ⟨upd_same, by rw [upd_ne (by decide)]; exact i1, by rw [upd_ne (by decide)]; exact i2, by rw [upd_ne (by decide)]; exact i6, by rw [upd_ne (by decide)]; exact i7⟩, ⟨a0, hn, hf⟩, hP.off hO2 hpx, hok, hpl⟩, hO2⟩) dX12_insults_11
set_option maxRecDepth 100000 in
set_option maxHeartbeats 4000000 in
theorem mR_kinds {X : gX} {h : gH} {z m pl n : Nat} {f : Nat → Int32} {P : PlM} {L : List Int32} {day car err t : Int32} (hR : RefS X h m pl n f P L day car err t) : gM X yX12_kinds cX12_kinds 1 (some .int) (3, 0, 0) [.ref m] h z (rfA X h z m pl n f P L day car err (nI (akU L L.length)) 0) gNoX := by
  obtain ⟨I, A, V, hV, ⟨i0, i1, i2, i6, i7⟩, ⟨a0, hn, hf⟩, hP, hok, hpl⟩ := hR
  have hl := hV.2.1
  have hpx : pl + 12 ≤ m ∨ pl = m + 2 ∨ m + 25 ≤ pl := Or.inr hpl
  refine gM.of px12 (Nat.le_of_ble_eq_true rfl) ?_
  intro F hE
  refine g_aload_n dX12_kinds_0 rfl ?_
  refine g_aload_n dX12_kinds_1 rfl ?_
  refine g_callV0 kX12_195 (m12_allKinds hV.1 hl hV.2.2.1) hV.1.1 rfl rfl rfl (Nat.le_of_ble_eq_true rfl) (by decide) (by decide) (by decide) (by decide) dX12_kinds_2 ?_
  rintro v1 h2 z1 ⟨rfl, rfl, rfl⟩
  refine g_callV0 kX12_372 (m12_ok _ hV.1) hV.1.1 rfl rfl rfl (Nat.le_of_ble_eq_true rfl) (by decide) (by decide) (by decide) (by decide) dX12_kinds_5 ?_
  rintro v1 h2 z1 ⟨rfl, rfl, hM2, hO2⟩
  exact g_iret hE rfl (⟨rfl, rfl, ⟨_, A, V, ⟨hM2, hl, hV.2.2.1, by rw [upd_ne (by decide)]; exact hV.2.2.2⟩, ⟨upd_same, by rw [upd_ne (by decide)]; exact i1, by rw [upd_ne (by decide)]; exact i2, by rw [upd_ne (by decide)]; exact i6, by rw [upd_ne (by decide)]; exact i7⟩, ⟨a0, hn, hf⟩, hP.off hO2 hpx, hok, hpl⟩, hO2⟩) dX12_kinds_8
set_option maxRecDepth 100000 in
set_option maxHeartbeats 4000000 in
theorem mR_shared {X : gX} {h : gH} {z m pl n : Nat} {f : Nat → Int32} {P : PlM} {L : List Int32} {day car err t : Int32} (p q : Int32) (hR : RefS X h m pl n f P L day car err t) : gM X yX12_shared cX12_shared 3 (some .int) (3, 0, 0) [.ref m, .int p, .int q] h z (rfA X h z m pl n f P L day car err (if (p.toNatClampNeg < L.length ∧ p = nI p.toNatClampNeg) ∧ q.toNatClampNeg < L.length ∧ q = nI q.toNatClampNeg then nI (lcp L p.toNatClampNeg q.toNatClampNeg) else 0) (if (p.toNatClampNeg < L.length ∧ p = nI p.toNatClampNeg) ∧ q.toNatClampNeg < L.length ∧ q = nI q.toNatClampNeg then 0 else 1)) gNoX := by
  obtain ⟨I, A, V, hV, ⟨i0, i1, i2, i6, i7⟩, ⟨a0, hn, hf⟩, hP, hok, hpl⟩ := hR
  have hl := hV.2.1
  have hpx : pl + 12 ≤ m ∨ pl = m + 2 ∨ m + 25 ≤ pl := Or.inr hpl
  refine gM.of px12 (Nat.le_of_ble_eq_true rfl) ?_
  intro F hE
  refine g_aload_n dX12_shared_0 rfl ?_
  refine g_iconst (nI 0) dX12_shared_1 (by decide) ?_
  refine md_put0 fl12_58 hV.1 OffM.rf dX12_shared_2 (fun h2 hM2 hO2 => ?_)
  refine g_aload_n dX12_shared_5 rfl ?_
  refine g_iload_n dX12_shared_6 rfl ?_
  refine g_callV0 kX12_375 (m12_isPlace p hM2) hM2.1 rfl rfl rfl (Nat.le_of_ble_eq_true rfl) (by decide) (by decide) (by decide) (by decide) dX12_shared_7 ?_
  rintro v1 h2 z1 ⟨rfl, rfl, rfl⟩
  refine g_if_eqB 30 dX12_shared_10 (by decide) (fun c_10 => ?_) (fun c_10 => ?_)
  · have hc2 : ¬ ((p.toNatClampNeg < L.length ∧ p = nI p.toNatClampNeg) ∧ q.toNatClampNeg < L.length ∧ q = nI q.toNatClampNeg) := fun w => of_decide_eq_false c_10 ((isPl (by omega)).mpr ⟨w.1.2, w.1.1⟩)
    simp only [if_neg hc2] at hE
    refine g_aload_n dX12_shared_30 rfl ?_
    refine g_iconst (nI 1) dX12_shared_31 (by decide) ?_
    refine g_callV0 kX12_366 (m12_no (nI 1) hM2) hM2.1 rfl rfl rfl (Nat.le_of_ble_eq_true rfl) (by decide) (by decide) (by decide) (by decide) dX12_shared_32 ?_
    rintro v1 h3 z1 ⟨rfl, rfl, hM3, hO3⟩
    exact g_iret hE rfl (⟨rfl, rfl, ⟨_, A, V, ⟨hM3, hl, hV.2.2.1, by rw [upd_ne (by decide), upd_ne (by decide)]; exact hV.2.2.2⟩, ⟨upd_same, by rw [upd_ne (by decide), upd_ne (by decide)]; exact i1, by rw [upd_ne (by decide), upd_ne (by decide)]; exact i2, by rw [upd_ne (by decide), upd_ne (by decide)]; exact i6, by rw [upd_ne (by decide), upd_ne (by decide)]; exact i7⟩, ⟨a0, hn, hf⟩, (hP.off hO2 hpx).off hO3 hpx, hok, hpl⟩, hO2.trans hO3⟩) dX12_shared_35
  · refine g_aload_n dX12_shared_13 rfl ?_
    refine g_iload_n dX12_shared_14 rfl ?_
    refine g_callV0 kX12_375 (m12_isPlace q hM2) hM2.1 rfl rfl rfl (Nat.le_of_ble_eq_true rfl) (by decide) (by decide) (by decide) (by decide) dX12_shared_15 ?_
    rintro v1 h2 z1 ⟨rfl, rfl, rfl⟩
    refine g_if_eqB 30 dX12_shared_18 (by decide) (fun c_18 => ?_) (fun c_18 => ?_)
    · have hc2 : ¬ ((p.toNatClampNeg < L.length ∧ p = nI p.toNatClampNeg) ∧ q.toNatClampNeg < L.length ∧ q = nI q.toNatClampNeg) := fun w => of_decide_eq_false c_18 ((isPl (by omega)).mpr ⟨w.2.2, w.2.1⟩)
      simp only [if_neg hc2] at hE
      refine g_aload_n dX12_shared_30 rfl ?_
      refine g_iconst (nI 1) dX12_shared_31 (by decide) ?_
      refine g_callV0 kX12_366 (m12_no (nI 1) hM2) hM2.1 rfl rfl rfl (Nat.le_of_ble_eq_true rfl) (by decide) (by decide) (by decide) (by decide) dX12_shared_32 ?_
      rintro v1 h3 z1 ⟨rfl, rfl, hM3, hO3⟩
      exact g_iret hE rfl (⟨rfl, rfl, ⟨_, A, V, ⟨hM3, hl, hV.2.2.1, by rw [upd_ne (by decide), upd_ne (by decide)]; exact hV.2.2.2⟩, ⟨upd_same, by rw [upd_ne (by decide), upd_ne (by decide)]; exact i1, by rw [upd_ne (by decide), upd_ne (by decide)]; exact i2, by rw [upd_ne (by decide), upd_ne (by decide)]; exact i6, by rw [upd_ne (by decide), upd_ne (by decide)]; exact i7⟩, ⟨a0, hn, hf⟩, (hP.off hO2 hpx).off hO3 hpx, hok, hpl⟩, hO2.trans hO3⟩) dX12_shared_35
    · have hc := (isPl (by omega)).mp (of_decide_eq_true c_10)
      have hc3 := (isPl (by omega)).mp (of_decide_eq_true c_18)
      have hx := hc.1
      have hy := hc3.1
      have hc2 : (p.toNatClampNeg < L.length ∧ p = nI p.toNatClampNeg) ∧ q.toNatClampNeg < L.length ∧ q = nI q.toNatClampNeg := ⟨⟨hc.2, hc.1⟩, hc3.2, hc3.1⟩
      simp only [if_pos hc2] at hE
      generalize p.toNatClampNeg = k at hc hx hE
      generalize q.toNatClampNeg = k2 at hc3 hy hE
      subst hx
      subst hy
      refine g_aload_n dX12_shared_21 rfl ?_
      refine g_iload_n dX12_shared_22 rfl ?_
      refine g_iload_n dX12_shared_23 rfl ?_
      refine g_callV0 kX12_109 (m12_same k k2 (Nat.le_of_lt hc.2) (Nat.le_of_lt hc3.2) hM2 hl hV.2.2.1) hM2.1 rfl rfl rfl (Nat.le_of_ble_eq_true rfl) (by decide) (by decide) (by decide) (by decide) dX12_shared_24 ?_
      rintro v1 h3 z1 ⟨rfl, rfl, rfl⟩
      refine g_goto 35 dX12_shared_27 (by decide) ?_
      exact g_iret hE rfl (⟨rfl, rfl, ⟨_, A, V, ⟨hM2, hl, hV.2.2.1, by rw [upd_ne (by decide)]; exact hV.2.2.2⟩, ⟨upd_same, by rw [upd_ne (by decide)]; exact i1, by rw [upd_ne (by decide)]; exact i2, by rw [upd_ne (by decide)]; exact i6, by rw [upd_ne (by decide)]; exact i7⟩, ⟨a0, hn, hf⟩, hP.off hO2 hpx, hok, hpl⟩, hO2⟩) dX12_shared_35
