/-! the reference: days -/
/-- behind how many days (at most k + f) a word is known -/
def unA (P : PlM) (W : List Int32) (s : (List Int32 × Int32) × Int32) : Nat → Nat → Option Nat
  | 0, _ => none
  | f + 1, k => if (fstA (stands (dyU P s k).1.1 W) (dyU P s k).1.1.length 0).isSome = true then some k else unA P W s f (k + 1)
/-- how long the longest repeat is behind a letter -/
def beC (L : List Int32) : Nat → Nat := fun i => lon (hearL L (nI (i + 1)))
def brV (d : Int32) : Option Nat → Int32
  | none => d
  | some b => nI (b + 1)
def moV (c : Nat → Nat) : Option Nat → Int32
  | none => -1
  | some b => nI (c b)
theorem beC_le {L : List Int32} (h : L.length ≤ 40) (i : Nat) : beC L i ≤ 40 := Nat.le_trans (lonU_le (Nat.le_refl _)) (hearL_len h)
theorem m1_lt {b : Nat} (h : b < 2 ^ 31) : (-1 : Int32) < nI b := by
  rw [Int32.lt_iff_toInt_lt, nI_toInt h]
  have : (-1 : Int32).toInt = -1 := by decide
  omega
set_option maxRecDepth 100000 in
set_option maxHeartbeats 4000000 in
theorem mR_passDays {X : gX} {h : gH} {z m pl n : Nat} {f : Nat → Int32} {P : PlM} {L : List Int32} {day car err t : Int32} (p : Int32) (hR : RefS X h m pl n f P L day car err t) : gM X yX12_passDays cX12_passDays 2 (some .int) (7, 0, 0) [.ref m, .int p] h z (fun r h' z' => r = some (.int (if nI 1 ≤ p ∧ p ≤ nI 30 then (dyU P ((L, car), day) p.toNatClampNeg).1.2 - car else 0)) ∧ z' = z ∧ RefS X h' m pl n f P (if nI 1 ≤ p ∧ p ≤ nI 30 then (dyU P ((L, car), day) p.toNatClampNeg).1.1 else L) (if nI 1 ≤ p ∧ p ≤ nI 30 then (dyU P ((L, car), day) p.toNatClampNeg).2 else day) (if nI 1 ≤ p ∧ p ≤ nI 30 then (dyU P ((L, car), day) p.toNatClampNeg).1.2 else car) err (if nI 1 ≤ p ∧ p ≤ nI 30 then 0 else 1) ∧ OffM h h' m) gNoX := by
  obtain ⟨I, A, V, hV, ⟨i0, i1, i2, i6, i7⟩, ha, hP, hok, hpl⟩ := hR
  have hl := hV.2.1
  have hpx : pl + 12 ≤ m ∨ pl = m + 2 ∨ m + 25 ≤ pl := Or.inr hpl
  have hi : I 1 = nI n ∧ I 2 = err := ⟨i1, i2⟩
  refine gM.of px12 (Nat.le_of_ble_eq_true rfl) ?_
  intro F hE
  refine g_aload_n dX12_passDays_0 rfl ?_
  refine g_iconst (nI 0) dX12_passDays_1 (by decide) ?_
  refine md_put0 fl12_58 hV.1 OffM.rf dX12_passDays_2 (fun h2 hM2 hO2 => ?_)
  have hV2 := hV.put (by decide) hM2
  have hP2 := hP.off hO2 hpx
  refine g_iload_n dX12_passDays_5 rfl ?_
  refine g_iconst (nI 1) dX12_passDays_6 (by decide) ?_
  refine g_bipush (nI 30) dX12_passDays_7 (by decide) ?_
  refine g_callS0 kX12_64 (m12_isIn (p) (nI 1) (nI 30)) rfl rfl (Nat.le_of_ble_eq_true rfl) (by decide) (by decide) (by decide) (by decide) dX12_passDays_9 ?_
  rintro v1 h2 z1 ⟨rfl, rfl, rfl⟩
  refine g_if_eqB 23 dX12_passDays_12 (by decide) (fun c_12 => ?_) (fun c_12 => ?_)
  · have hc2 : ¬ (nI 1 ≤ p ∧ p ≤ nI 30) := of_decide_eq_false c_12
    simp only [if_neg hc2] at hE
    refine g_aload_n dX12_passDays_23 rfl ?_
    refine g_iconst (nI 1) dX12_passDays_24 (by decide) ?_
    refine g_callV0 kX12_366 (m12_no (nI 1) hM2) hM2.1 rfl rfl rfl (Nat.le_of_ble_eq_true rfl) (by decide) (by decide) (by decide) (by decide) dX12_passDays_25 ?_
    rintro v1 h3 z1 ⟨rfl, rfl, hM3, hO3⟩
    exact g_iret hE rfl (⟨rfl, rfl, RefS.no hi ha hP hok hpl hV2 hM3 i6 i7 (hO2.trans hO3), hO2.trans hO3⟩) dX12_passDays_28
  · have hc2 : nI 1 ≤ p ∧ p ≤ nI 30 := of_decide_eq_true c_12
    simp only [if_pos hc2] at hE
    obtain ⟨g1, g2, hx⟩ := i32_nat (by decide) hc2.1 hc2.2 (by decide)
    generalize p.toNatClampNeg = k at g1 g2 hx hE
    subst hx
    have e6 : upd I 0 (nI 0) 6 = day := (upd_ne (by decide)).trans i6
    have e7 : upd I 0 (nI 0) 7 = car := (upd_ne (by decide)).trans i7
    refine g_aload_n dX12_passDays_15 rfl ?_
    refine g_iload_n dX12_passDays_16 rfl ?_
    have hps := fun z0 => m12_pass (z := z0) k g2 hok hP2 hpx hV2
    rw [e6, e7] at hps
    refine g_callV0 kX12_411 ((hps _)) hM2.1 rfl rfl rfl (Nat.le_of_ble_eq_true rfl) (by decide) (by decide) (by decide) (by decide) dX12_passDays_17 ?_
    rintro v1 h3 z1 ⟨rfl, rfl, ⟨I3, A3, hV3, hH3, c7, c6⟩, hO3⟩
    refine g_goto 28 dX12_passDays_20 (by decide) ?_
    exact g_iret hE rfl (⟨rfl, rfl, RefS.fin hi ha hP hok hpl hV3 (hH3.toQ) (c6) (c7) (hO2.trans hO3), hO2.trans hO3⟩) dX12_passDays_28
set_option maxRecDepth 100000 in
set_option maxHeartbeats 4000000 in
theorem mR_repeatAfter {X : gX} {h : gH} {z m pl n : Nat} {f : Nat → Int32} {P : PlM} {L : List Int32} {day car err t : Int32} (p : Int32) (hR : RefS X h m pl n f P L day car err t) : gM X yX12_repeatAfter cX12_repeatAfter 3 (some .int) (7, 0, 0) [.ref m, .int p] h z (rfA X h z m pl n f P L day car err (if nI 1 ≤ p ∧ p ≤ nI 30 then nI (lon (dyU P ((L, car), day) p.toNatClampNeg).1.1) else 0) (if nI 1 ≤ p ∧ p ≤ nI 30 then 0 else 1)) gNoX := by
  obtain ⟨I, A, V, hV, ⟨i0, i1, i2, i6, i7⟩, ha, hP, hok, hpl⟩ := hR
  have hl := hV.2.1
  have hpx : pl + 12 ≤ m ∨ pl = m + 2 ∨ m + 25 ≤ pl := Or.inr hpl
  have hi : I 1 = nI n ∧ I 2 = err := ⟨i1, i2⟩
  refine gM.of px12 (Nat.le_of_ble_eq_true rfl) ?_
  intro F hE
  refine g_aload_n dX12_repeatAfter_0 rfl ?_
  refine g_iconst (nI 0) dX12_repeatAfter_1 (by decide) ?_
  refine md_put0 fl12_58 hV.1 OffM.rf dX12_repeatAfter_2 (fun h2 hM2 hO2 => ?_)
  have hV2 := hV.put (by decide) hM2
  have hP2 := hP.off hO2 hpx
  refine g_iload_n dX12_repeatAfter_5 rfl ?_
  refine g_iconst (nI 1) dX12_repeatAfter_6 (by decide) ?_
  refine g_bipush (nI 30) dX12_repeatAfter_7 (by decide) ?_
  refine g_callS0 kX12_64 (m12_isIn (p) (nI 1) (nI 30)) rfl rfl (Nat.le_of_ble_eq_true rfl) (by decide) (by decide) (by decide) (by decide) dX12_repeatAfter_9 ?_
  rintro v1 h2 z1 ⟨rfl, rfl, rfl⟩
  refine g_if_neB 21 dX12_repeatAfter_12 (by decide) (fun c_12 => ?_) (fun c_12 => ?_)
  · have hc2 : nI 1 ≤ p ∧ p ≤ nI 30 := of_decide_eq_true c_12
    simp only [if_pos hc2] at hE
    obtain ⟨g1, g2, hx⟩ := i32_nat (by decide) hc2.1 hc2.2 (by decide)
    generalize p.toNatClampNeg = k at g1 g2 hx hE
    subst hx
    have e6 : upd I 0 (nI 0) 6 = day := (upd_ne (by decide)).trans i6
    have e7 : upd I 0 (nI 0) 7 = car := (upd_ne (by decide)).trans i7
    refine g_aload_n dX12_repeatAfter_21 rfl ?_
    refine g_callV0 kX12_414 (m12_keep hV2) hM2.1 rfl rfl rfl (Nat.le_of_ble_eq_true rfl) (by decide) (by decide) (by decide) (by decide) dX12_repeatAfter_22 ?_
    rintro v1 h3 z1 ⟨rfl, rfl, ⟨I3, A3, hV3, hK3, f6, f7, hQ3⟩, hO3⟩
    rw [e6] at f6 hK3
    rw [e7] at f7 hK3
    have hP3 := hP2.off hO3 hpx
    refine g_aload_n dX12_repeatAfter_25 rfl ?_
    refine g_iload_n dX12_repeatAfter_26 rfl ?_
    have hps := fun z0 => m12_pass (z := z0) k g2 hok hP3 hpx hV3
    rw [f6, f7] at hps
    refine g_callV0 kX12_411 ((hps _)) hV3.1.1 rfl rfl rfl (Nat.le_of_ble_eq_true rfl) (by decide) (by decide) (by decide) (by decide) dX12_repeatAfter_27 ?_
    rintro v1 h4 z1 ⟨rfl, rfl, ⟨I4, A4, hV4, hH4, -, -⟩, hO4⟩
    refine g_pop dX12_repeatAfter_30 rfl ?_
    refine g_aload_n dX12_repeatAfter_31 rfl ?_
    refine g_callV0 kX12_125 (m12_longest hV4.1 hV4.2.1 hV4.2.2.1) hV4.1.1 rfl rfl rfl (Nat.le_of_ble_eq_true rfl) (by decide) (by decide) (by decide) (by decide) dX12_repeatAfter_32 ?_
    rintro v1 h5 z1 ⟨rfl, rfl, rfl⟩
    rw [loU_lon]
    refine g_istore_n dX12_repeatAfter_35 (by decide) rfl ?_
    refine g_aload_n dX12_repeatAfter_36 rfl ?_
    refine g_callV0 kX12_417 (m12_bringBack hV4 (hK3.of hH4)) hV4.1.1 rfl rfl rfl (Nat.le_of_ble_eq_true rfl) (by decide) (by decide) (by decide) (by decide) dX12_repeatAfter_37 ?_
    rintro v1 h5 z1 ⟨rfl, rfl, ⟨I5, A5, hV5, d6, d7, hK5, hQ5⟩, hO5⟩
    refine g_iload_n dX12_repeatAfter_40 rfl ?_
    exact g_iret hE rfl (⟨rfl, rfl, RefS.fin hi ha hP hok hpl hV5 ((hQ3.trans hH4.toQ).trans hQ5) (d6) (d7) (((hO2.trans hO3).trans hO4).trans hO5), ((hO2.trans hO3).trans hO4).trans hO5⟩) dX12_repeatAfter_41
  · have hc2 : ¬ (nI 1 ≤ p ∧ p ≤ nI 30) := of_decide_eq_false c_12
    simp only [if_neg hc2] at hE
    refine g_aload_n dX12_repeatAfter_15 rfl ?_
    refine g_iconst (nI 1) dX12_repeatAfter_16 (by decide) ?_
    refine g_callV0 kX12_366 (m12_no (nI 1) hM2) hM2.1 rfl rfl rfl (Nat.le_of_ble_eq_true rfl) (by decide) (by decide) (by decide) (by decide) dX12_repeatAfter_17 ?_
    rintro v1 h3 z1 ⟨rfl, rfl, hM3, hO3⟩
    exact g_iret hE rfl (⟨rfl, rfl, RefS.no hi ha hP hok hpl hV2 hM3 i6 i7 (hO2.trans hO3), hO2.trans hO3⟩) dX12_repeatAfter_20
