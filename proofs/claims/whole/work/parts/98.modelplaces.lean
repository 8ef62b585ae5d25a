/-! the reference as a whole; answers about places -/
/-- the reference at m: a tape f of n bytes, the plan P at pl, the letters L, the day, what was carried out, where the error was, what was thrown last -/
def RefS (X : gX) (h : gH) (m pl n : Nat) (f : Nat → Int32) (P : PlM) (L : List Int32) (day car err t : Int32) : Prop := ∃ I A V, MdV X h m pl L I A V ∧ (I 0 = t ∧ I 1 = nI n ∧ I 2 = err ∧ I 6 = day ∧ I 7 = car) ∧ (A 0 = f ∧ n ≤ 2000 ∧ ∀ j, f j ≠ -1) ∧ MpP X h pl P ∧ OkP P ∧ (pl = m + 2 ∨ m + 25 ≤ pl)
/-- an answer: v, thrown t, nothing told of has changed -/
abbrev rfA (X : gX) (h : gH) (z m pl n : Nat) (f : Nat → Int32) (P : PlM) (L : List Int32) (day car err : Int32) (v t : Int32) : Option Value → gH → Nat → Prop := fun r h' z' => r = some (.int v) ∧ z' = z ∧ RefS X h' m pl n f P L day car err t ∧ OffM h h' m
theorem sub1_int : ∀ c, c ≤ 400 → (nI c - nI 1).toInt = (c : Int) - 1 := by decide +kernel
theorem isPl {c : Nat} {p : Int32} (hc : c ≤ 400) : (0 ≤ p ∧ p ≤ nI c - nI 1) ↔ (p = nI p.toNatClampNeg ∧ p.toNatClampNeg < c) := by
  have h0 : (0 : Int32).toInt = 0 := rfl
  have h1 := sub1_int c hc
  have hp : p.toNatClampNeg = p.toInt.toNat := rfl
  simp only [Int32.le_iff_toInt_le, h0, h1]
  constructor
  · rintro ⟨a, b⟩
    refine ⟨Int32.toInt_inj.mp ?_, by omega⟩
    rw [nI_toInt (by omega)]
    omega
  · rintro ⟨a, b⟩
    have h2 := congrArg Int32.toInt a
    rw [nI_toInt (by omega)] at h2
    omega
set_option maxRecDepth 100000 in
set_option maxHeartbeats 4000000 in
theorem m12_rankOf {X : gX} {h : gH} {z m pl n : Nat} {f : Nat → Int32} {P : PlM} {L : List Int32} {day car err t : Int32} (p : Int32) (hR : RefS X h m pl n f P L day car err t) : gM X yX12_rankOf cX12_rankOf 2 (some .int) (6, 0, 0) [.ref m, .int p] h z (rfA X h z m pl n f P L day car err (if p.toNatClampNeg < L.length ∧ p = nI p.toNatClampNeg then nI (rk L p.toNatClampNeg) else 0) (if p.toNatClampNeg < L.length ∧ p = nI p.toNatClampNeg then 0 else 1)) gNoX := by
  obtain ⟨I, A, V, hV, ⟨i0, i1, i2, i6, i7⟩, ⟨a0, hn, hf⟩, hP, hok, hpl⟩ := hR
  have hl := hV.2.1
  have hpx : pl + 12 ≤ m ∨ pl = m + 2 ∨ m + 25 ≤ pl := Or.inr hpl
  refine gM.of px12 (Nat.le_of_ble_eq_true rfl) ?_
  intro F hE
  refine g_aload_n dX12_rankOf_0 rfl ?_
  refine g_iconst (nI 0) dX12_rankOf_1 (by decide) ?_
  refine md_put0 fl12_58 hV.1 OffM.rf dX12_rankOf_2 (fun h2 hM2 hO2 => ?_)
  refine g_aload_n dX12_rankOf_5 rfl ?_
  refine g_iload_n dX12_rankOf_6 rfl ?_
  refine g_callV0 kX12_375 (m12_isPlace p hM2) hM2.1 rfl rfl rfl (Nat.le_of_ble_eq_true rfl) (by decide) (by decide) (by decide) (by decide) dX12_rankOf_7 ?_
  rintro v1 h2 z1 ⟨rfl, rfl, rfl⟩
  refine g_if_eqB 21 dX12_rankOf_10 (by decide) (fun c_10 => ?_) (fun c_10 => ?_)
  · have hc2 : ¬ (p.toNatClampNeg < L.length ∧ p = nI p.toNatClampNeg) := fun w => of_decide_eq_false c_10 ((isPl (by omega)).mpr ⟨w.2, w.1⟩)
    simp only [if_neg hc2] at hE
    refine g_aload_n dX12_rankOf_21 rfl ?_
    refine g_iconst (nI 1) dX12_rankOf_22 (by decide) ?_
    refine g_callV0 kX12_366 (m12_no (nI 1) hM2) hM2.1 rfl rfl rfl (Nat.le_of_ble_eq_true rfl) (by decide) (by decide) (by decide) (by decide) dX12_rankOf_23 ?_
    rintro v1 h3 z1 ⟨rfl, rfl, hM3, hO3⟩
    exact g_iret hE rfl (⟨rfl, rfl, ⟨_, A, V, ⟨hM3, hl, hV.2.2.1, by rw [upd_ne (by decide), upd_ne (by decide)]; exact hV.2.2.2⟩, ⟨upd_same, by rw [upd_ne (by decide), upd_ne (by decide)]; exact i1, by rw [upd_ne (by decide), upd_ne (by decide)]; exact i2, by rw [upd_ne (by decide), upd_ne (by decide)]; exact i6, by rw [upd_ne (by decide), upd_ne (by decide)]; exact i7⟩, ⟨a0, hn, hf⟩, (hP.off hO2 hpx).off hO3 hpx, hok, hpl⟩, hO2.trans hO3⟩) dX12_rankOf_26
  · have hc := (isPl (by omega)).mp (of_decide_eq_true c_10)
    have hx := hc.1
    have hc2 : p.toNatClampNeg < L.length ∧ p = nI p.toNatClampNeg := ⟨hc.2, hc.1⟩
    simp only [if_pos hc2] at hE
    have hIx : upd I 0 (nI 0) 11 = I 11 := upd_ne (by decide)
    have hC2 : upd I 0 (nI 0) 11 = 0 ∨ (upd I 0 (nI 0) 11 = 1 ∧ MdC L A) := by rw [hIx]; exact hV.2.2.2
    generalize p.toNatClampNeg = k at hc hx hE
    subst hx
    refine g_aload_n dX12_rankOf_13 rfl ?_
    refine g_iload_n dX12_rankOf_14 rfl ?_
    refine g_callV0 kX12_378 (m12_rankNow k hc.2 hM2 hl hV.2.2.1 hC2) hM2.1 rfl rfl rfl (Nat.le_of_ble_eq_true rfl) (by decide) (by decide) (by decide) (by decide) dX12_rankOf_15 ?_
    rintro v1 h3 z1 ⟨rfl, rfl, ⟨I3, A3, hM3, hE3, h11, hC3⟩, hO3⟩
    refine g_goto 26 dX12_rankOf_18 (by decide) ?_
    exact g_iret hE rfl (⟨rfl, rfl, ⟨I3, A3, V, ⟨hM3, hl, fun i hi => by rw [hE3.2 5 (by decide) (by decide)]; exact hV.2.2.1 i hi, Or.inr ⟨h11, hC3⟩⟩, ⟨by rw [hE3.1 0 (by decide), upd_same]; rfl, by rw [hE3.1 1 (by decide), upd_ne (by decide)]; exact i1, by rw [hE3.1 2 (by decide), upd_ne (by decide)]; exact i2, by rw [hE3.1 6 (by decide), upd_ne (by decide)]; exact i6, by rw [hE3.1 7 (by decide), upd_ne (by decide)]; exact i7⟩, ⟨by rw [hE3.2 0 (by decide) (by decide)]; exact a0, hn, hf⟩, (hP.off hO2 hpx).off hO3 hpx, hok, hpl⟩, hO2.trans hO3⟩) dX12_rankOf_26
set_option maxRecDepth 100000 in
set_option maxHeartbeats 4000000 in
theorem m12_placeAt {X : gX} {h : gH} {z m pl n : Nat} {f : Nat → Int32} {P : PlM} {L : List Int32} {day car err t : Int32} (p : Int32) (hR : RefS X h m pl n f P L day car err t) : gM X yX12_placeAt cX12_placeAt 2 (some .int) (6, 0, 0) [.ref m, .int p] h z (rfA X h z m pl n f P L day car err (if p.toNatClampNeg < L.length ∧ p = nI p.toNatClampNeg then nI (plc L p.toNatClampNeg) else 0) (if p.toNatClampNeg < L.length ∧ p = nI p.toNatClampNeg then 0 else 1)) gNoX := by
  obtain ⟨I, A, V, hV, ⟨i0, i1, i2, i6, i7⟩, ⟨a0, hn, hf⟩, hP, hok, hpl⟩ := hR
  have hl := hV.2.1
  have hpx : pl + 12 ≤ m ∨ pl = m + 2 ∨ m + 25 ≤ pl := Or.inr hpl
  refine gM.of px12 (Nat.le_of_ble_eq_true rfl) ?_
  intro F hE
  refine g_aload_n dX12_placeAt_0 rfl ?_
  refine g_iconst (nI 0) dX12_placeAt_1 (by decide) ?_
  refine md_put0 fl12_58 hV.1 OffM.rf dX12_placeAt_2 (fun h2 hM2 hO2 => ?_)
  refine g_aload_n dX12_placeAt_5 rfl ?_
  refine g_iload_n dX12_placeAt_6 rfl ?_
  refine g_callV0 kX12_375 (m12_isPlace p hM2) hM2.1 rfl rfl rfl (Nat.le_of_ble_eq_true rfl) (by decide) (by decide) (by decide) (by decide) dX12_placeAt_7 ?_
  rintro v1 h2 z1 ⟨rfl, rfl, rfl⟩
  refine g_if_eqB 21 dX12_placeAt_10 (by decide) (fun c_10 => ?_) (fun c_10 => ?_)
  · have hc2 : ¬ (p.toNatClampNeg < L.length ∧ p = nI p.toNatClampNeg) := fun w => of_decide_eq_false c_10 ((isPl (by omega)).mpr ⟨w.2, w.1⟩)
    simp only [if_neg hc2] at hE
    refine g_aload_n dX12_placeAt_21 rfl ?_
    refine g_iconst (nI 1) dX12_placeAt_22 (by decide) ?_
    refine g_callV0 kX12_366 (m12_no (nI 1) hM2) hM2.1 rfl rfl rfl (Nat.le_of_ble_eq_true rfl) (by decide) (by decide) (by decide) (by decide) dX12_placeAt_23 ?_
    rintro v1 h3 z1 ⟨rfl, rfl, hM3, hO3⟩
    exact g_iret hE rfl (⟨rfl, rfl, ⟨_, A, V, ⟨hM3, hl, hV.2.2.1, by rw [upd_ne (by decide), upd_ne (by decide)]; exact hV.2.2.2⟩, ⟨upd_same, by rw [upd_ne (by decide), upd_ne (by decide)]; exact i1, by rw [upd_ne (by decide), upd_ne (by decide)]; exact i2, by rw [upd_ne (by decide), upd_ne (by decide)]; exact i6, by rw [upd_ne (by decide), upd_ne (by decide)]; exact i7⟩, ⟨a0, hn, hf⟩, (hP.off hO2 hpx).off hO3 hpx, hok, hpl⟩, hO2.trans hO3⟩) dX12_placeAt_26
  · have hc := (isPl (by omega)).mp (of_decide_eq_true c_10)
    have hx := hc.1
    have hc2 : p.toNatClampNeg < L.length ∧ p = nI p.toNatClampNeg := ⟨hc.2, hc.1⟩
    simp only [if_pos hc2] at hE
    have hIx : upd I 0 (nI 0) 11 = I 11 := upd_ne (by decide)
    have hC2 : upd I 0 (nI 0) 11 = 0 ∨ (upd I 0 (nI 0) 11 = 1 ∧ MdC L A) := by rw [hIx]; exact hV.2.2.2
    generalize p.toNatClampNeg = k at hc hx hE
    subst hx
    refine g_aload_n dX12_placeAt_13 rfl ?_
    refine g_iload_n dX12_placeAt_14 rfl ?_
    refine g_callV0 kX12_381 (m12_placeNow k hc.2 hM2 hl hV.2.2.1 hC2) hM2.1 rfl rfl rfl (Nat.le_of_ble_eq_true rfl) (by decide) (by decide) (by decide) (by decide) dX12_placeAt_15 ?_
    rintro v1 h3 z1 ⟨rfl, rfl, ⟨I3, A3, hM3, hE3, h11, hC3⟩, hO3⟩
    refine g_goto 26 dX12_placeAt_18 (by decide) ?_
    exact g_iret hE rfl (⟨rfl, rfl, ⟨I3, A3, V, ⟨hM3, hl, fun i hi => by rw [hE3.2 5 (by decide) (by decide)]; exact hV.2.2.1 i hi, Or.inr ⟨h11, hC3⟩⟩, ⟨by rw [hE3.1 0 (by decide), upd_same]; rfl, by rw [hE3.1 1 (by decide), upd_ne (by decide)]; exact i1, by rw [hE3.1 2 (by decide), upd_ne (by decide)]; exact i2, by rw [hE3.1 6 (by decide), upd_ne (by decide)]; exact i6, by rw [hE3.1 7 (by decide), upd_ne (by decide)]; exact i7⟩, ⟨by rw [hE3.2 0 (by decide) (by decide)]; exact a0, hn, hf⟩, (hP.off hO2 hpx).off hO3 hpx, hok, hpl⟩, hO2.trans hO3⟩) dX12_placeAt_26
set_option maxRecDepth 100000 in
set_option maxHeartbeats 4000000 in
theorem m12_sharedAt {X : gX} {h : gH} {z m pl n : Nat} {f : Nat → Int32} {P : PlM} {L : List Int32} {day car err t : Int32} (p : Int32) (hR : RefS X h m pl n f P L day car err t) : gM X yX12_sharedAt cX12_sharedAt 2 (some .int) (6, 0, 0) [.ref m, .int p] h z (rfA X h z m pl n f P L day car err (if p.toNatClampNeg < L.length ∧ p = nI p.toNatClampNeg then nI (shr L p.toNatClampNeg) else 0) (if p.toNatClampNeg < L.length ∧ p = nI p.toNatClampNeg then 0 else 1)) gNoX := by
  obtain ⟨I, A, V, hV, ⟨i0, i1, i2, i6, i7⟩, ⟨a0, hn, hf⟩, hP, hok, hpl⟩ := hR
  have hl := hV.2.1
  have hpx : pl + 12 ≤ m ∨ pl = m + 2 ∨ m + 25 ≤ pl := Or.inr hpl
  refine gM.of px12 (Nat.le_of_ble_eq_true rfl) ?_
  intro F hE
  refine g_aload_n dX12_sharedAt_0 rfl ?_
  refine g_iconst (nI 0) dX12_sharedAt_1 (by decide) ?_
  refine md_put0 fl12_58 hV.1 OffM.rf dX12_sharedAt_2 (fun h2 hM2 hO2 => ?_)
  refine g_aload_n dX12_sharedAt_5 rfl ?_
  refine g_iload_n dX12_sharedAt_6 rfl ?_
  refine g_callV0 kX12_375 (m12_isPlace p hM2) hM2.1 rfl rfl rfl (Nat.le_of_ble_eq_true rfl) (by decide) (by decide) (by decide) (by decide) dX12_sharedAt_7 ?_
  rintro v1 h2 z1 ⟨rfl, rfl, rfl⟩
  refine g_if_eqB 21 dX12_sharedAt_10 (by decide) (fun c_10 => ?_) (fun c_10 => ?_)
  · have hc2 : ¬ (p.toNatClampNeg < L.length ∧ p = nI p.toNatClampNeg) := fun w => of_decide_eq_false c_10 ((isPl (by omega)).mpr ⟨w.2, w.1⟩)
    simp only [if_neg hc2] at hE
    refine g_aload_n dX12_sharedAt_21 rfl ?_
    refine g_iconst (nI 1) dX12_sharedAt_22 (by decide) ?_
    refine g_callV0 kX12_366 (m12_no (nI 1) hM2) hM2.1 rfl rfl rfl (Nat.le_of_ble_eq_true rfl) (by decide) (by decide) (by decide) (by decide) dX12_sharedAt_23 ?_
    rintro v1 h3 z1 ⟨rfl, rfl, hM3, hO3⟩
    exact g_iret hE rfl (⟨rfl, rfl, ⟨_, A, V, ⟨hM3, hl, hV.2.2.1, by rw [upd_ne (by decide), upd_ne (by decide)]; exact hV.2.2.2⟩, ⟨upd_same, by rw [upd_ne (by decide), upd_ne (by decide)]; exact i1, by rw [upd_ne (by decide), upd_ne (by decide)]; exact i2, by rw [upd_ne (by decide), upd_ne (by decide)]; exact i6, by rw [upd_ne (by decide), upd_ne (by decide)]; exact i7⟩, ⟨a0, hn, hf⟩, (hP.off hO2 hpx).off hO3 hpx, hok, hpl⟩, hO2.trans hO3⟩) dX12_sharedAt_26
  · have hc := (isPl (by omega)).mp (of_decide_eq_true c_10)
    have hx := hc.1
    have hc2 : p.toNatClampNeg < L.length ∧ p = nI p.toNatClampNeg := ⟨hc.2, hc.1⟩
    simp only [if_pos hc2] at hE
    have hIx : upd I 0 (nI 0) 11 = I 11 := upd_ne (by decide)
    have hC2 : upd I 0 (nI 0) 11 = 0 ∨ (upd I 0 (nI 0) 11 = 1 ∧ MdC L A) := by rw [hIx]; exact hV.2.2.2
    generalize p.toNatClampNeg = k at hc hx hE
    subst hx
    refine g_aload_n dX12_sharedAt_13 rfl ?_
    refine g_iload_n dX12_sharedAt_14 rfl ?_
    refine g_callV0 kX12_384 (m12_sharedNow k hc.2 hM2 hl hV.2.2.1 hC2) hM2.1 rfl rfl rfl (Nat.le_of_ble_eq_true rfl) (by decide) (by decide) (by decide) (by decide) dX12_sharedAt_15 ?_
    rintro v1 h3 z1 ⟨rfl, rfl, ⟨I3, A3, hM3, hE3, h11, hC3⟩, hO3⟩
    refine g_goto 26 dX12_sharedAt_18 (by decide) ?_
    exact g_iret hE rfl (⟨rfl, rfl, ⟨I3, A3, V, ⟨hM3, hl, fun i hi => by rw [hE3.2 5 (by decide) (by decide)]; exact hV.2.2.1 i hi, Or.inr ⟨h11, hC3⟩⟩, ⟨by rw [hE3.1 0 (by decide), upd_same]; rfl, by rw [hE3.1 1 (by decide), upd_ne (by decide)]; exact i1, by rw [hE3.1 2 (by decide), upd_ne (by decide)]; exact i2, by rw [hE3.1 6 (by decide), upd_ne (by decide)]; exact i6, by rw [hE3.1 7 (by decide), upd_ne (by decide)]; exact i7⟩, ⟨by rw [hE3.2 0 (by decide) (by decide)]; exact a0, hn, hf⟩, (hP.off hO2 hpx).off hO3 hpx, hok, hpl⟩, hO2.trans hO3⟩) dX12_sharedAt_26
set_option maxRecDepth 100000 in
set_option maxHeartbeats 4000000 in
theorem m12_letterAt {X : gX} {h : gH} {z m pl n : Nat} {f : Nat → Int32} {P : PlM} {L : List Int32} {day car err t : Int32} (p : Int32) (hR : RefS X h m pl n f P L day car err t) : gM X yX12_letterAt cX12_letterAt 2 (some .int) (3, 0, 0) [.ref m, .int p] h z (rfA X h z m pl n f P L day car err (if p.toNatClampNeg < L.length ∧ p = nI p.toNatClampNeg then lt L p.toNatClampNeg else 0) (if p.toNatClampNeg < L.length ∧ p = nI p.toNatClampNeg then 0 else 1)) gNoX := by
  obtain ⟨I, A, V, hV, ⟨i0, i1, i2, i6, i7⟩, ⟨a0, hn, hf⟩, hP, hok, hpl⟩ := hR
  have hl := hV.2.1
  have hpx : pl + 12 ≤ m ∨ pl = m + 2 ∨ m + 25 ≤ pl := Or.inr hpl
  refine gM.of px12 (Nat.le_of_ble_eq_true rfl) ?_
  intro F hE
  refine g_aload_n dX12_letterAt_0 rfl ?_
  refine g_iconst (nI 0) dX12_letterAt_1 (by decide) ?_
  refine md_put0 fl12_58 hV.1 OffM.rf dX12_letterAt_2 (fun h2 hM2 hO2 => ?_)
  refine g_aload_n dX12_letterAt_5 rfl ?_
  refine g_iload_n dX12_letterAt_6 rfl ?_
  refine g_callV0 kX12_375 (m12_isPlace p hM2) hM2.1 rfl rfl rfl (Nat.le_of_ble_eq_true rfl) (by decide) (by decide) (by decide) (by decide) dX12_letterAt_7 ?_
  rintro v1 h2 z1 ⟨rfl, rfl, rfl⟩
  refine g_if_eqB 22 dX12_letterAt_10 (by decide) (fun c_10 => ?_) (fun c_10 => ?_)
  · have hc2 : ¬ (p.toNatClampNeg < L.length ∧ p = nI p.toNatClampNeg) := fun w => of_decide_eq_false c_10 ((isPl (by omega)).mpr ⟨w.2, w.1⟩)
    simp only [if_neg hc2] at hE
    refine g_aload_n dX12_letterAt_22 rfl ?_
    refine g_iconst (nI 1) dX12_letterAt_23 (by decide) ?_
    refine g_callV0 kX12_366 (m12_no (nI 1) hM2) hM2.1 rfl rfl rfl (Nat.le_of_ble_eq_true rfl) (by decide) (by decide) (by decide) (by decide) dX12_letterAt_24 ?_
    rintro v1 h3 z1 ⟨rfl, rfl, hM3, hO3⟩
    exact g_iret hE rfl (⟨rfl, rfl, ⟨_, A, V, ⟨hM3, hl, hV.2.2.1, by rw [upd_ne (by decide), upd_ne (by decide)]; exact hV.2.2.2⟩, ⟨upd_same, by rw [upd_ne (by decide), upd_ne (by decide)]; exact i1, by rw [upd_ne (by decide), upd_ne (by decide)]; exact i2, by rw [upd_ne (by decide), upd_ne (by decide)]; exact i6, by rw [upd_ne (by decide), upd_ne (by decide)]; exact i7⟩, ⟨a0, hn, hf⟩, (hP.off hO2 hpx).off hO3 hpx, hok, hpl⟩, hO2.trans hO3⟩) dX12_letterAt_27
  · have hc := (isPl (by omega)).mp (of_decide_eq_true c_10)
    have hx := hc.1
    have hc2 : p.toNatClampNeg < L.length ∧ p = nI p.toNatClampNeg := ⟨hc.2, hc.1⟩
    simp only [if_pos hc2] at hE
    have hIx : upd I 0 (nI 0) 11 = I 11 := upd_ne (by decide)
    have hC2 : upd I 0 (nI 0) 11 = 0 ∨ (upd I 0 (nI 0) 11 = 1 ∧ MdC L A) := by rw [hIx]; exact hV.2.2.2
    generalize p.toNatClampNeg = k at hc hx hE
    subst hx
    refine g_aload_n dX12_letterAt_13 rfl ?_
    refine g_getf fl12_40 hM2.1 rfl dX12_letterAt_14 ?_
    refine g_iload_n dX12_letterAt_17 rfl ?_
    refine g_ialdN (hM2.2.1 5 (by decide)) (by show k < 40; omega) (by decide) dX12_letterAt_18 ?_
    rw [hV.2.2.1 k hc.2]
    refine g_goto 27 dX12_letterAt_19 (by decide) ?_
    exact g_iret hE rfl (⟨rfl, rfl, ⟨_, A, V, ⟨hM2, hl, hV.2.2.1, by rw [upd_ne (by decide)]; exact hV.2.2.2⟩, ⟨upd_same, by rw [upd_ne (by decide)]; exact i1, by rw [upd_ne (by decide)]; exact i2, by rw [upd_ne (by decide)]; exact i6, by rw [upd_ne (by decide)]; exact i7⟩, ⟨a0, hn, hf⟩, hP.off hO2 hpx, hok, hpl⟩, hO2⟩) dX12_letterAt_27
