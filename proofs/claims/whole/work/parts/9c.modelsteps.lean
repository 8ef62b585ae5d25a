/-! the reference: halvings to an insult -/
set_option maxRecDepth 100000 in
set_option maxHeartbeats 4000000 in
theorem m12_stepsTo {X : gX} {h : gH} {z m pl n : Nat} {f : Nat → Int32} {P : PlM} {L : List Int32} {day car err t : Int32} (p : Int32) (hR : RefS X h m pl n f P L day car err t) : gM X yX12_stepsTo cX12_stepsTo 2 (some .int) (6, 0, 0) [.ref m, .int p] h z (rfA X h z m pl n f P L day car err (if p.toNatClampNeg < P.1.1 ∧ p = nI p.toNatClampNeg then nI (hv L (wl (P.1.2 p.toNatClampNeg))) else 0) (if p.toNatClampNeg < P.1.1 ∧ p = nI p.toNatClampNeg then 0 else 1)) gNoX := by
  obtain ⟨I, A, V, hV, ⟨i0, i1, i2, i6, i7⟩, ⟨a0, hn, hf⟩, hP, hok, hpl⟩ := hR
  have hl := hV.2.1
  have hp8 := hok.1.1
  have hpx : pl + 12 ≤ m ∨ pl = m + 2 ∨ m + 25 ≤ pl := Or.inr hpl
  obtain ⟨J, B, U, W, hQ, ⟨j0, -⟩, jw, -⟩ := id hP
  refine gM.of px12 (Nat.le_of_ble_eq_true rfl) ?_
  intro F hE
  refine g_aload_n dX12_stepsTo_0 rfl ?_
  refine g_iconst (nI 0) dX12_stepsTo_1 (by decide) ?_
  refine md_put0 fl12_58 hV.1 OffM.rf dX12_stepsTo_2 (fun h2 hM2 hO2 => ?_)
  have hQ2 := hQ.off hO2 hpx
  refine g_aload_n dX12_stepsTo_5 rfl ?_
  refine g_iload_n dX12_stepsTo_6 rfl ?_
  refine g_callV0 kX12_399 (m12_isInsult p hM2 hQ2) hM2.1 rfl rfl rfl (Nat.le_of_ble_eq_true rfl) (by decide) (by decide) (by decide) (by decide) dX12_stepsTo_7 ?_
  rintro v1 h2 z1 ⟨rfl, rfl, rfl⟩
  rw [j0]
  refine g_if_eqB 21 dX12_stepsTo_10 (by decide) (fun c_10 => ?_) (fun c_10 => ?_)
  · have hc2 : ¬ (p.toNatClampNeg < P.1.1 ∧ p = nI p.toNatClampNeg) := fun w => of_decide_eq_false c_10 ((isPl (by omega)).mpr ⟨w.2, w.1⟩)
    simp only [if_neg hc2] at hE
    refine g_aload_n dX12_stepsTo_21 rfl ?_
    refine g_iconst (nI 1) dX12_stepsTo_22 (by decide) ?_
    refine g_callV0 kX12_366 (m12_no (nI 1) hM2) hM2.1 rfl rfl rfl (Nat.le_of_ble_eq_true rfl) (by decide) (by decide) (by decide) (by decide) dX12_stepsTo_23 ?_
    rintro v1 h3 z1 ⟨rfl, rfl, hM3, hO3⟩
    exact g_iret hE rfl (⟨rfl, rfl, ⟨_, A, V, ⟨hM3, hl, hV.2.2.1, by rw [upd_ne (by decide), upd_ne (by decide)]; exact hV.2.2.2⟩, ⟨upd_same, by rw [upd_ne (by decide), upd_ne (by decide)]; exact i1, by rw [upd_ne (by decide), upd_ne (by decide)]; exact i2, by rw [upd_ne (by decide), upd_ne (by decide)]; exact i6, by rw [upd_ne (by decide), upd_ne (by decide)]; exact i7⟩, ⟨a0, hn, hf⟩, (hP.off hO2 hpx).off hO3 hpx, hok, hpl⟩, hO2.trans hO3⟩) dX12_stepsTo_26
  · have hc := (isPl (by omega)).mp (of_decide_eq_true c_10)
    have hx := hc.1
    have hc2 : p.toNatClampNeg < P.1.1 ∧ p = nI p.toNatClampNeg := ⟨hc.2, hc.1⟩
    simp only [if_pos hc2] at hE
    have hC2 : upd I 0 (nI 0) 11 = 0 ∨ (upd I 0 (nI 0) 11 = 1 ∧ MdC L A) := by rw [upd_ne (by decide)]; exact hV.2.2.2
    generalize p.toNatClampNeg = k at hc hx hE
    subst hx
    refine g_aload_n dX12_stepsTo_13 rfl ?_
    refine g_iload_n dX12_stepsTo_14 rfl ?_
    refine g_callV0 kX12_405 (m12_steps k hQ2 (jw k hc.2) hM2 hl hV.2.2.1 hC2 hpx) hM2.1 rfl rfl rfl (Nat.le_of_ble_eq_true rfl) (by decide) (by decide) (by decide) (by decide) dX12_stepsTo_15 ?_
    rintro v1 h3 z1 ⟨rfl, rfl, ⟨I3, A3, hM3, hE3, h11, hC3⟩, hO3⟩
    refine g_goto 26 dX12_stepsTo_18 (by decide) ?_
    exact g_iret hE rfl (⟨rfl, rfl, ⟨I3, A3, V, ⟨hM3, hl, fun i hi => by rw [hE3.2 5 (by decide) (by decide)]; exact hV.2.2.1 i hi, Or.inr ⟨h11, hC3⟩⟩, ⟨by rw [hE3.1 0 (by decide), upd_same]; rfl, by rw [hE3.1 1 (by decide), upd_ne (by decide)]; exact i1, by rw [hE3.1 2 (by decide), upd_ne (by decide)]; exact i2, by rw [hE3.1 6 (by decide), upd_ne (by decide)]; exact i6, by rw [hE3.1 7 (by decide), upd_ne (by decide)]; exact i7⟩, ⟨by rw [hE3.2 0 (by decide) (by decide)]; exact a0, hn, hf⟩, (hP.off hO2 hpx).off hO3 hpx, hok, hpl⟩, hO2.trans hO3⟩) dX12_stepsTo_26
