/-! the reference: more answers about insults -/
set_option maxRecDepth 100000 in
set_option maxHeartbeats 4000000 in
theorem m12_lettersOf {X : gX} {h : gH} {z m pl n : Nat} {f : Nat → Int32} {P : PlM} {L : List Int32} {day car err t : Int32} (p : Int32) (hR : RefS X h m pl n f P L day car err t) : gM X yX12_lettersOf cX12_lettersOf 2 (some .int) (3, 0, 0) [.ref m, .int p] h z (rfA X h z m pl n f P L day car err (if p.toNatClampNeg < P.1.1 ∧ p = nI p.toNatClampNeg then nI (wl (P.1.2 p.toNatClampNeg)).length else 0) (if p.toNatClampNeg < P.1.1 ∧ p = nI p.toNatClampNeg then 0 else 1)) gNoX := by
  obtain ⟨I, A, V, hV, ⟨i0, i1, i2, i6, i7⟩, ⟨a0, hn, hf⟩, hP, hok, hpl⟩ := hR
  have hl := hV.2.1
  have hp8 := hok.1.1
  have hpx : pl + 12 ≤ m ∨ pl = m + 2 ∨ m + 25 ≤ pl := Or.inr hpl
  obtain ⟨J, B, U, W, hQ, ⟨j0, -⟩, jw, -⟩ := id hP
  refine gM.of px12 (Nat.le_of_ble_eq_true rfl) ?_
  intro F hE
  refine g_aload_n dX12_lettersOf_0 rfl ?_
  refine g_iconst (nI 0) dX12_lettersOf_1 (by decide) ?_
  refine md_put0 fl12_58 hV.1 OffM.rf dX12_lettersOf_2 (fun h2 hM2 hO2 => ?_)
  have hQ2 := hQ.off hO2 hpx
  refine g_aload_n dX12_lettersOf_5 rfl ?_
  refine g_iload_n dX12_lettersOf_6 rfl ?_
  refine g_callV0 kX12_399 (m12_isInsult p hM2 hQ2) hM2.1 rfl rfl rfl (Nat.le_of_ble_eq_true rfl) (by decide) (by decide) (by decide) (by decide) dX12_lettersOf_7 ?_
  rintro v1 h2 z1 ⟨rfl, rfl, rfl⟩
  rw [j0]
  refine g_if_eqB 25 dX12_lettersOf_10 (by decide) (fun c_10 => ?_) (fun c_10 => ?_)
  · have hc2 : ¬ (p.toNatClampNeg < P.1.1 ∧ p = nI p.toNatClampNeg) := fun w => of_decide_eq_false c_10 ((isPl (by omega)).mpr ⟨w.2, w.1⟩)
    simp only [if_neg hc2] at hE
    refine g_aload_n dX12_lettersOf_25 rfl ?_
    refine g_iconst (nI 1) dX12_lettersOf_26 (by decide) ?_
    refine g_callV0 kX12_366 (m12_no (nI 1) hM2) hM2.1 rfl rfl rfl (Nat.le_of_ble_eq_true rfl) (by decide) (by decide) (by decide) (by decide) dX12_lettersOf_27 ?_
    rintro v1 h3 z1 ⟨rfl, rfl, hM3, hO3⟩
    exact g_iret hE rfl (⟨rfl, rfl, ⟨_, A, V, ⟨hM3, hl, hV.2.2.1, by rw [upd_ne (by decide), upd_ne (by decide)]; exact hV.2.2.2⟩, ⟨upd_same, by rw [upd_ne (by decide), upd_ne (by decide)]; exact i1, by rw [upd_ne (by decide), upd_ne (by decide)]; exact i2, by rw [upd_ne (by decide), upd_ne (by decide)]; exact i6, by rw [upd_ne (by decide), upd_ne (by decide)]; exact i7⟩, ⟨a0, hn, hf⟩, (hP.off hO2 hpx).off hO3 hpx, hok, hpl⟩, hO2.trans hO3⟩) dX12_lettersOf_30
  · have hc := (isPl (by omega)).mp (of_decide_eq_true c_10)
    have hx := hc.1
    have hc2 : p.toNatClampNeg < P.1.1 ∧ p = nI p.toNatClampNeg := ⟨hc.2, hc.1⟩
    simp only [if_pos hc2] at hE
    generalize p.toNatClampNeg = k at hc hx hE
    subst hx
    refine g_aload_n dX12_lettersOf_13 rfl ?_
    refine g_getf fl12_20 hM2.1 rfl dX12_lettersOf_14 ?_
    refine g_getfN fl12_82 hQ2.1 rfl dX12_lettersOf_17 ?_
    refine g_iload_n dX12_lettersOf_20 rfl ?_
    refine g_ialdN (hQ2.2.1 0 (by decide)) (by show k < 8; omega) (by decide) dX12_lettersOf_21 ?_
    rw [(jw k hc.2).2.2.1]
    refine g_goto 30 dX12_lettersOf_22 (by decide) ?_
    exact g_iret hE rfl (⟨rfl, rfl, ⟨_, A, V, ⟨hM2, hl, hV.2.2.1, by rw [upd_ne (by decide)]; exact hV.2.2.2⟩, ⟨upd_same, by rw [upd_ne (by decide)]; exact i1, by rw [upd_ne (by decide)]; exact i2, by rw [upd_ne (by decide)]; exact i6, by rw [upd_ne (by decide)]; exact i7⟩, ⟨a0, hn, hf⟩, hP.off hO2 hpx, hok, hpl⟩, hO2⟩) dX12_lettersOf_30
