/-! the reference: what a call leaves, in one lemma; answers that look at no day -/
theorem MdH.toQ {I I' : Nat → Int32} {A A' : Nat → Nat → Int32} (x : MdH I I' A A') : MdQ I I' A A' := x.toG.toP.toQ
theorem MdE.toQ {I I' : Nat → Int32} {A A' : Nat → Nat → Int32} (x : MdE I I' A A') : MdQ I I' A A' := x.toH.toQ
theorem upd_upd {f : Nat → Int32} {k : Nat} {v w : Int32} : upd (upd f k v) k w = upd f k w := by
  funext q
  by_cases hq : q = k
  · rw [hq, upd_same, upd_same]
  · rw [upd_ne hq, upd_ne hq, upd_ne hq]
theorem RefS.fin {X : gX} {h h' : gH} {m pl n : Nat} {f : Nat → Int32} {P : PlM} {L' : List Int32} {day' car' err x : Int32} {I I' : Nat → Int32} {A A' : Nat → Nat → Int32} {V' : Nat → Int64} (hi : I 1 = nI n ∧ I 2 = err) (ha : A 0 = f ∧ n ≤ 2000 ∧ ∀ j, f j ≠ -1) (hP : MpP X h pl P) (hok : OkP P) (hpl : pl = m + 2 ∨ m + 25 ≤ pl) (hV : MdV X h' m pl L' I' A' V') (hQ : MdQ (upd I 0 x) I' A A') (h6 : I' 6 = day') (h7 : I' 7 = car') (hO : OffM h h' m) : RefS X h' m pl n f P L' day' car' err x :=
  ⟨I', A', V', hV, ⟨(hQ.1 0 (by decide)).trans upd_same, (hQ.1 1 (by decide)).trans ((upd_ne (by decide)).trans hi.1), (hQ.1 2 (by decide)).trans ((upd_ne (by decide)).trans hi.2), h6, h7⟩, ⟨(hQ.2 0 (by decide)).trans ha.1, ha.2.1, ha.2.2⟩, hP.off hO (Or.inr hpl), hok, hpl⟩
theorem RefS.no {X : gX} {h h2 h3 : gH} {m pl n : Nat} {f : Nat → Int32} {P : PlM} {L : List Int32} {day car err x : Int32} {I : Nat → Int32} {A : Nat → Nat → Int32} {V : Nat → Int64} (hi : I 1 = nI n ∧ I 2 = err) (ha : A 0 = f ∧ n ≤ 2000 ∧ ∀ j, f j ≠ -1) (hP : MpP X h pl P) (hok : OkP P) (hpl : pl = m + 2 ∨ m + 25 ≤ pl) (hV2 : MdV X h2 m pl L (upd I 0 0) A V) (hM3 : MdB X h3 m L.length pl (upd (upd I 0 0) 0 x) A V) (i6 : I 6 = day) (i7 : I 7 = car) (hO : OffM h h3 m) : RefS X h3 m pl n f P L day car err x :=
  RefS.fin hi ha hP hok hpl (hV2.put (by decide) hM3) (by rw [upd_upd]; exact MdQ.rf) (by rw [upd_upd]; exact (upd_ne (by decide)).trans i6) (by rw [upd_upd]; exact (upd_ne (by decide)).trans i7) hO
theorem m12_repeatsR {X : gX} {h : gH} {z m pl : Nat} {I : Nat → Int32} {A : Nat → Nat → Int32} {V : Nat → Int64} {L : List Int32} (hM : MdB X h m L.length pl I A V) (hn : L.length ≤ 40) (hA : ∀ i, i < L.length → A 5 i = lt L i) : gM X yX12_repeats cX12_repeats 2 (some .int) (4, 0, 0) [.ref m] h z (pR h z (nI (rcI L))) gNoX :=
  (m12_repeats hM hn hA).mono (fun v h' z' hp => ⟨hp.1.trans (congrArg (fun x => some (Value.int x)) (rpB_rcI L)), hp.2⟩)
set_option maxRecDepth 100000 in
set_option maxHeartbeats 4000000 in
theorem mR_isAhead {X : gX} {h : gH} {z m pl n : Nat} {f : Nat → Int32} {P : PlM} {L : List Int32} {day car err t : Int32} (p q : Int32) (hR : RefS X h m pl n f P L day car err t) : gM X yX12_isAhead cX12_isAhead 3 (some .boolean) (3, 0, 0) [.ref m, .int p, .int q] h z (rfA X h z m pl n f P L day car err (if (p.toNatClampNeg < L.length ∧ p = nI p.toNatClampNeg) ∧ q.toNatClampNeg < L.length ∧ q = nI q.toNatClampNeg then b2i (ahd L p.toNatClampNeg q.toNatClampNeg) else 0) (if (p.toNatClampNeg < L.length ∧ p = nI p.toNatClampNeg) ∧ q.toNatClampNeg < L.length ∧ q = nI q.toNatClampNeg then 0 else 1)) gNoX := by
  obtain ⟨I, A, V, hV, ⟨i0, i1, i2, i6, i7⟩, ha, hP, hok, hpl⟩ := hR
  have hl := hV.2.1
  have hpx : pl + 12 ≤ m ∨ pl = m + 2 ∨ m + 25 ≤ pl := Or.inr hpl
  have hi : I 1 = nI n ∧ I 2 = err := ⟨i1, i2⟩
  refine gM.of px12 (Nat.le_of_ble_eq_true rfl) ?_
  intro F hE
  refine g_aload_n dX12_isAhead_0 rfl ?_
  refine g_iconst (nI 0) dX12_isAhead_1 (by decide) ?_
  refine md_put0 fl12_58 hV.1 OffM.rf dX12_isAhead_2 (fun h2 hM2 hO2 => ?_)
  have hV2 := hV.put (by decide) hM2
  have hP2 := hP.off hO2 hpx
  refine g_aload_n dX12_isAhead_5 rfl ?_
  refine g_iload_n dX12_isAhead_6 rfl ?_
  refine g_callV0 kX12_375 (m12_isPlace p hM2) hM2.1 rfl rfl rfl (Nat.le_of_ble_eq_true rfl) (by decide) (by decide) (by decide) (by decide) dX12_isAhead_7 ?_
  rintro v1 h2 z1 ⟨rfl, rfl, rfl⟩
  refine g_if_eqB 43 dX12_isAhead_10 (by decide) (fun c_10 => ?_) (fun c_10 => ?_)
  · have hc2 : ¬ ((p.toNatClampNeg < L.length ∧ p = nI p.toNatClampNeg) ∧ q.toNatClampNeg < L.length ∧ q = nI q.toNatClampNeg) := fun w => of_decide_eq_false c_10 ((isPl (by omega)).mpr ⟨w.1.2, w.1.1⟩)
    simp only [if_neg hc2] at hE
    refine g_aload_n dX12_isAhead_43 rfl ?_
    refine g_iconst (nI 1) dX12_isAhead_44 (by decide) ?_
    refine g_callV0 kX12_387 (m12_isNot (nI 1) hM2) hM2.1 rfl rfl rfl (Nat.le_of_ble_eq_true rfl) (by decide) (by decide) (by decide) (by decide) dX12_isAhead_45 ?_
    rintro v1 h3 z1 ⟨rfl, rfl, hM3, hO3⟩
    exact g_iret hE rfl (⟨rfl, rfl, RefS.no hi ha hP hok hpl hV2 hM3 i6 i7 (hO2.trans hO3), hO2.trans hO3⟩) dX12_isAhead_48
  · refine g_aload_n dX12_isAhead_13 rfl ?_
    refine g_iload_n dX12_isAhead_14 rfl ?_
    refine g_callV0 kX12_375 (m12_isPlace q hM2) hM2.1 rfl rfl rfl (Nat.le_of_ble_eq_true rfl) (by decide) (by decide) (by decide) (by decide) dX12_isAhead_15 ?_
    rintro v1 h2 z1 ⟨rfl, rfl, rfl⟩
    refine g_if_eqB 43 dX12_isAhead_18 (by decide) (fun c_18 => ?_) (fun c_18 => ?_)
    · have hc2 : ¬ ((p.toNatClampNeg < L.length ∧ p = nI p.toNatClampNeg) ∧ q.toNatClampNeg < L.length ∧ q = nI q.toNatClampNeg) := fun w => of_decide_eq_false c_18 ((isPl (by omega)).mpr ⟨w.2.2, w.2.1⟩)
      simp only [if_neg hc2] at hE
      refine g_aload_n dX12_isAhead_43 rfl ?_
      refine g_iconst (nI 1) dX12_isAhead_44 (by decide) ?_
      refine g_callV0 kX12_387 (m12_isNot (nI 1) hM2) hM2.1 rfl rfl rfl (Nat.le_of_ble_eq_true rfl) (by decide) (by decide) (by decide) (by decide) dX12_isAhead_45 ?_
      rintro v1 h3 z1 ⟨rfl, rfl, hM3, hO3⟩
      exact g_iret hE rfl (⟨rfl, rfl, RefS.no hi ha hP hok hpl hV2 hM3 i6 i7 (hO2.trans hO3), hO2.trans hO3⟩) dX12_isAhead_48
    · have hc := (isPl (by omega)).mp (of_decide_eq_true c_10)
      have hc3 := (isPl (by omega)).mp (of_decide_eq_true c_18)
      have hx := hc.1
      have hy := hc3.1
      have hc2 : (p.toNatClampNeg < L.length ∧ p = nI p.toNatClampNeg) ∧ q.toNatClampNeg < L.length ∧ q = nI q.toNatClampNeg := ⟨⟨hc.2, hc.1⟩, hc3.2, hc3.1⟩
      simp only [if_pos hc2] at hE
      generalize p.toNatClampNeg = k at hc hx hE
      generalize q.toNatClampNeg = k2 at hc3 hy hE
      subst hx
      subst hy
      refine g_iload_n dX12_isAhead_21 rfl ?_
      refine g_iload_n dX12_isAhead_22 rfl ?_
      refine g_icmp_eqN 39 dX12_isAhead_23 (by decide) (by omega) (by omega) (fun c_23 => ?_) (fun c_23 => ?_)
      · rw [c_23, ahd_irrefl] at hE
        refine g_iconst (nI 0) dX12_isAhead_39 (by decide) ?_
        refine g_goto 48 dX12_isAhead_40 (by decide) ?_
        exact g_iret hE rfl (⟨rfl, rfl, RefS.fin hi ha hP hok hpl hV2 (MdQ.rf) ((upd_ne (by decide)).trans i6) ((upd_ne (by decide)).trans i7) (hO2), hO2⟩) dX12_isAhead_48
      · refine g_aload_n dX12_isAhead_26 rfl ?_
        refine g_iload_n dX12_isAhead_27 rfl ?_
        refine g_iload_n dX12_isAhead_28 rfl ?_
        refine g_callV0 kX12_113 (m12_goesAhead k k2 hc.2 hc3.2 hM2 hl hV.2.2.1) hM2.1 rfl rfl rfl (Nat.le_of_ble_eq_true rfl) (by decide) (by decide) (by decide) (by decide) dX12_isAhead_29 ?_
        rintro v1 h3 z1 ⟨rfl, rfl, rfl⟩
        refine g_if_eqB 39 dX12_isAhead_32 (by decide) (fun c_32 => ?_) (fun c_32 => ?_)
        · rw [c_32] at hE
          refine g_iconst (nI 0) dX12_isAhead_39 (by decide) ?_
          refine g_goto 48 dX12_isAhead_40 (by decide) ?_
          exact g_iret hE rfl (⟨rfl, rfl, RefS.fin hi ha hP hok hpl hV2 (MdQ.rf) ((upd_ne (by decide)).trans i6) ((upd_ne (by decide)).trans i7) (hO2), hO2⟩) dX12_isAhead_48
        · rw [c_32] at hE
          refine g_iconst (nI 1) dX12_isAhead_35 (by decide) ?_
          refine g_goto 48 dX12_isAhead_36 (by decide) ?_
          exact g_iret hE rfl (⟨rfl, rfl, RefS.fin hi ha hP hok hpl hV2 (MdQ.rf) ((upd_ne (by decide)).trans i6) ((upd_ne (by decide)).trans i7) (hO2), hO2⟩) dX12_isAhead_48
set_option maxRecDepth 100000 in
set_option maxHeartbeats 4000000 in
theorem mR_longestRepeat {X : gX} {h : gH} {z m pl n : Nat} {f : Nat → Int32} {P : PlM} {L : List Int32} {day car err t : Int32} (hR : RefS X h m pl n f P L day car err t) : gM X yX12_longestRepeat cX12_longestRepeat 1 (some .int) (3, 0, 0) [.ref m] h z (rfA X h z m pl n f P L day car err (nI (lon L)) 0) gNoX := by
  obtain ⟨I, A, V, hV, ⟨i0, i1, i2, i6, i7⟩, ha, hP, hok, hpl⟩ := hR
  have hl := hV.2.1
  have hpx : pl + 12 ≤ m ∨ pl = m + 2 ∨ m + 25 ≤ pl := Or.inr hpl
  have hi : I 1 = nI n ∧ I 2 = err := ⟨i1, i2⟩
  refine gM.of px12 (Nat.le_of_ble_eq_true rfl) ?_
  intro F hE
  refine g_aload_n dX12_longestRepeat_0 rfl ?_
  refine g_aload_n dX12_longestRepeat_1 rfl ?_
  refine g_callV0 kX12_125 (m12_longest hV.1 hl hV.2.2.1) hV.1.1 rfl rfl rfl (Nat.le_of_ble_eq_true rfl) (by decide) (by decide) (by decide) (by decide) dX12_longestRepeat_2 ?_
  rintro v1 h2 z1 ⟨rfl, rfl, rfl⟩
  rw [loU_lon]
  refine g_callV0 kX12_372 (m12_ok _ hV.1) hV.1.1 rfl rfl rfl (Nat.le_of_ble_eq_true rfl) (by decide) (by decide) (by decide) (by decide) dX12_longestRepeat_5 ?_
  rintro v1 h2 z1 ⟨rfl, rfl, hM2, hO2⟩
  have hV2 := hV.put (by decide) hM2
  exact g_iret hE rfl (⟨rfl, rfl, RefS.fin hi ha hP hok hpl hV2 (MdQ.rf) ((upd_ne (by decide)).trans i6) ((upd_ne (by decide)).trans i7) (hO2), hO2⟩) dX12_longestRepeat_8
set_option maxRecDepth 100000 in
set_option maxHeartbeats 4000000 in
theorem mR_repeatPlace {X : gX} {h : gH} {z m pl n : Nat} {f : Nat → Int32} {P : PlM} {L : List Int32} {day car err t : Int32} (hR : RefS X h m pl n f P L day car err t) : gM X yX12_repeatPlace cX12_repeatPlace 1 (some .int) (4, 0, 0) [.ref m] h z (rfA X h z m pl n f P L day car err (rpI L) 0) gNoX := by
  obtain ⟨I, A, V, hV, ⟨i0, i1, i2, i6, i7⟩, ha, hP, hok, hpl⟩ := hR
  have hl := hV.2.1
  have hpx : pl + 12 ≤ m ∨ pl = m + 2 ∨ m + 25 ≤ pl := Or.inr hpl
  have hi : I 1 = nI n ∧ I 2 = err := ⟨i1, i2⟩
  refine gM.of px12 (Nat.le_of_ble_eq_true rfl) ?_
  intro F hE
  refine g_aload_n dX12_repeatPlace_0 rfl ?_
  refine g_aload_n dX12_repeatPlace_1 rfl ?_
  refine g_callV0 kX12_135 (m12_repeat hV.1 hl hV.2.2.1) hV.1.1 rfl rfl rfl (Nat.le_of_ble_eq_true rfl) (by decide) (by decide) (by decide) (by decide) dX12_repeatPlace_2 ?_
  rintro v1 h2 z1 ⟨rfl, rfl, rfl⟩
  rw [rpB_rpI]
  refine g_callV0 kX12_372 (m12_ok _ hV.1) hV.1.1 rfl rfl rfl (Nat.le_of_ble_eq_true rfl) (by decide) (by decide) (by decide) (by decide) dX12_repeatPlace_5 ?_
  rintro v1 h2 z1 ⟨rfl, rfl, hM2, hO2⟩
  have hV2 := hV.put (by decide) hM2
  exact g_iret hE rfl (⟨rfl, rfl, RefS.fin hi ha hP hok hpl hV2 (MdQ.rf) ((upd_ne (by decide)).trans i6) ((upd_ne (by decide)).trans i7) (hO2), hO2⟩) dX12_repeatPlace_8
set_option maxRecDepth 100000 in
set_option maxHeartbeats 4000000 in
theorem mR_repeatCount {X : gX} {h : gH} {z m pl n : Nat} {f : Nat → Int32} {P : PlM} {L : List Int32} {day car err t : Int32} (hR : RefS X h m pl n f P L day car err t) : gM X yX12_repeatCount cX12_repeatCount 1 (some .int) (5, 0, 0) [.ref m] h z (rfA X h z m pl n f P L day car err (nI (rcI L)) 0) gNoX := by
  obtain ⟨I, A, V, hV, ⟨i0, i1, i2, i6, i7⟩, ha, hP, hok, hpl⟩ := hR
  have hl := hV.2.1
  have hpx : pl + 12 ≤ m ∨ pl = m + 2 ∨ m + 25 ≤ pl := Or.inr hpl
  have hi : I 1 = nI n ∧ I 2 = err := ⟨i1, i2⟩
  refine gM.of px12 (Nat.le_of_ble_eq_true rfl) ?_
  intro F hE
  refine g_aload_n dX12_repeatCount_0 rfl ?_
  refine g_aload_n dX12_repeatCount_1 rfl ?_
  refine g_callV0 kX12_390 (m12_repeatsR hV.1 hl hV.2.2.1) hV.1.1 rfl rfl rfl (Nat.le_of_ble_eq_true rfl) (by decide) (by decide) (by decide) (by decide) dX12_repeatCount_2 ?_
  rintro v1 h2 z1 ⟨rfl, rfl, rfl⟩
  refine g_callV0 kX12_372 (m12_ok _ hV.1) hV.1.1 rfl rfl rfl (Nat.le_of_ble_eq_true rfl) (by decide) (by decide) (by decide) (by decide) dX12_repeatCount_5 ?_
  rintro v1 h2 z1 ⟨rfl, rfl, hM2, hO2⟩
  have hV2 := hV.put (by decide) hM2
  exact g_iret hE rfl (⟨rfl, rfl, RefS.fin hi ha hP hok hpl hV2 (MdQ.rf) ((upd_ne (by decide)).trans i6) ((upd_ne (by decide)).trans i7) (hO2), hO2⟩) dX12_repeatCount_8
set_option maxRecDepth 100000 in
set_option maxHeartbeats 4000000 in
theorem mR_mockedAtEnd {X : gX} {h : gH} {z m pl n : Nat} {f : Nat → Int32} {P : PlM} {L : List Int32} {day car err t : Int32} (hR : RefS X h m pl n f P L day car err t) : gM X yX12_mockedAtEnd cX12_mockedAtEnd 1 (some .int) (3, 0, 0) [.ref m] h z (rfA X h z m pl n f P L day car err (nI (ese L)) 0) gNoX := by
  obtain ⟨I, A, V, hV, ⟨i0, i1, i2, i6, i7⟩, ha, hP, hok, hpl⟩ := hR
  have hl := hV.2.1
  have hpx : pl + 12 ≤ m ∨ pl = m + 2 ∨ m + 25 ≤ pl := Or.inr hpl
  have hi : I 1 = nI n ∧ I 2 = err := ⟨i1, i2⟩
  refine gM.of px12 (Nat.le_of_ble_eq_true rfl) ?_
  intro F hE
  refine g_aload_n dX12_mockedAtEnd_0 rfl ?_
  refine g_aload_n dX12_mockedAtEnd_1 rfl ?_
  refine g_callV0 kX12_396 (m12_atEnd hV.1 hl hV.2.2.1) hV.1.1 rfl rfl rfl (Nat.le_of_ble_eq_true rfl) (by decide) (by decide) (by decide) (by decide) dX12_mockedAtEnd_2 ?_
  rintro v1 h2 z1 ⟨rfl, rfl, rfl⟩
  refine g_callV0 kX12_372 (m12_ok _ hV.1) hV.1.1 rfl rfl rfl (Nat.le_of_ble_eq_true rfl) (by decide) (by decide) (by decide) (by decide) dX12_mockedAtEnd_5 ?_
  rintro v1 h2 z1 ⟨rfl, rfl, hM2, hO2⟩
  have hV2 := hV.put (by decide) hM2
  exact g_iret hE rfl (⟨rfl, rfl, RefS.fin hi ha hP hok hpl hV2 (MdQ.rf) ((upd_ne (by decide)).trans i6) ((upd_ne (by decide)).trans i7) (hO2), hO2⟩) dX12_mockedAtEnd_8
set_option maxRecDepth 100000 in
set_option maxHeartbeats 4000000 in
theorem mR_mostSaid {X : gX} {h : gH} {z m pl n : Nat} {f : Nat → Int32} {P : PlM} {L : List Int32} {day car err t : Int32} (hR : RefS X h m pl n f P L day car err t) : gM X yX12_mostSaid cX12_mostSaid 1 (some .int) (4, 0, 0) [.ref m] h z (rfA X h z m pl n f P L day car err (oI (msU (fun i => cnt (stands L (wl (P.1.2 i))) L.length) P.1.1)) 0) gNoX := by
  obtain ⟨I, A, V, hV, ⟨i0, i1, i2, i6, i7⟩, ha, hP, hok, hpl⟩ := hR
  have hl := hV.2.1
  have hpx : pl + 12 ≤ m ∨ pl = m + 2 ∨ m + 25 ≤ pl := Or.inr hpl
  have hi : I 1 = nI n ∧ I 2 = err := ⟨i1, i2⟩
  obtain ⟨J, B, U, W, hQ, ⟨j0, -⟩, jw, -⟩ := id hP
  refine gM.of px12 (Nat.le_of_ble_eq_true rfl) ?_
  intro F hE
  refine g_aload_n dX12_mostSaid_0 rfl ?_
  refine g_aload_n dX12_mostSaid_1 rfl ?_
  refine g_callV0 kX12_408 (m12_most (fun i => wl (P.1.2 i)) P.1.1 hQ j0 hok.1.1 jw hV.1 hl hV.2.2.1) hV.1.1 rfl rfl rfl (Nat.le_of_ble_eq_true rfl) (by decide) (by decide) (by decide) (by decide) dX12_mostSaid_2 ?_
  rintro v1 h2 z1 ⟨rfl, rfl, rfl⟩
  refine g_callV0 kX12_372 (m12_ok _ hV.1) hV.1.1 rfl rfl rfl (Nat.le_of_ble_eq_true rfl) (by decide) (by decide) (by decide) (by decide) dX12_mostSaid_5 ?_
  rintro v1 h2 z1 ⟨rfl, rfl, hM2, hO2⟩
  have hV2 := hV.put (by decide) hM2
  exact g_iret hE rfl (⟨rfl, rfl, RefS.fin hi ha hP hok hpl hV2 (MdQ.rf) ((upd_ne (by decide)).trans i6) ((upd_ne (by decide)).trans i7) (hO2), hO2⟩) dX12_mostSaid_8
set_option maxRecDepth 100000 in
set_option maxHeartbeats 4000000 in
theorem mR_kindsOf {X : gX} {h : gH} {z m pl n : Nat} {f : Nat → Int32} {P : PlM} {L : List Int32} {day car err t : Int32} (p : Int32) (hR : RefS X h m pl n f P L day car err t) : gM X yX12_kindsOf cX12_kindsOf 2 (some .int) (4, 0, 0) [.ref m, .int p] h z (rfA X h z m pl n f P L day car err (if nI 1 ≤ p ∧ p ≤ nI 40 then nI (cnt (dpP L p.toNatClampNeg) L.length) else 0) (if nI 1 ≤ p ∧ p ≤ nI 40 then 0 else 1)) gNoX := by
  obtain ⟨I, A, V, hV, ⟨i0, i1, i2, i6, i7⟩, ha, hP, hok, hpl⟩ := hR
  have hl := hV.2.1
  have hpx : pl + 12 ≤ m ∨ pl = m + 2 ∨ m + 25 ≤ pl := Or.inr hpl
  have hi : I 1 = nI n ∧ I 2 = err := ⟨i1, i2⟩
  refine gM.of px12 (Nat.le_of_ble_eq_true rfl) ?_
  intro F hE
  refine g_aload_n dX12_kindsOf_0 rfl ?_
  refine g_iconst (nI 0) dX12_kindsOf_1 (by decide) ?_
  refine md_put0 fl12_58 hV.1 OffM.rf dX12_kindsOf_2 (fun h2 hM2 hO2 => ?_)
  have hV2 := hV.put (by decide) hM2
  have hP2 := hP.off hO2 hpx
  refine g_iload_n dX12_kindsOf_5 rfl ?_
  refine g_iconst (nI 1) dX12_kindsOf_6 (by decide) ?_
  refine g_bipush (nI 40) dX12_kindsOf_7 (by decide) ?_
  refine g_callS0 kX12_64 (m12_isIn (p) (nI 1) (nI 40)) rfl rfl (Nat.le_of_ble_eq_true rfl) (by decide) (by decide) (by decide) (by decide) dX12_kindsOf_9 ?_
  rintro v1 h2 z1 ⟨rfl, rfl, rfl⟩
  refine g_if_eqB 24 dX12_kindsOf_12 (by decide) (fun c_12 => ?_) (fun c_12 => ?_)
  · have hc2 := of_decide_eq_false c_12
    simp only [if_neg hc2] at hE
    refine g_aload_n dX12_kindsOf_24 rfl ?_
    refine g_iconst (nI 1) dX12_kindsOf_25 (by decide) ?_
    refine g_callV0 kX12_366 (m12_no (nI 1) hM2) hM2.1 rfl rfl rfl (Nat.le_of_ble_eq_true rfl) (by decide) (by decide) (by decide) (by decide) dX12_kindsOf_26 ?_
    rintro v1 h3 z1 ⟨rfl, rfl, hM3, hO3⟩
    exact g_iret hE rfl (⟨rfl, rfl, RefS.no hi ha hP hok hpl hV2 hM3 i6 i7 (hO2.trans hO3), hO2.trans hO3⟩) dX12_kindsOf_29
  · have hc2 := of_decide_eq_true c_12
    obtain ⟨g1, g2, hx⟩ := i32_nat (by decide) hc2.1 hc2.2 (by decide)
    simp only [if_pos hc2] at hE
    generalize p.toNatClampNeg = k at g1 g2 hx hE
    subst hx
    rw [← kinds_eq g1] at hE
    refine g_aload_n dX12_kindsOf_15 rfl ?_
    refine g_iload_n dX12_kindsOf_16 rfl ?_
    refine g_iconst (nI 1) dX12_kindsOf_17 (by decide) ?_
    refine g_callV0 kX12_393 (m12_kindsWith k 1 g1 g2 (by decide) hM2 hl hV.2.2.1) hM2.1 rfl rfl rfl (Nat.le_of_ble_eq_true rfl) (by decide) (by decide) (by decide) (by decide) dX12_kindsOf_18 ?_
    rintro v1 h3 z1 ⟨rfl, rfl, rfl⟩
    refine g_goto 29 dX12_kindsOf_21 (by decide) ?_
    exact g_iret hE rfl (⟨rfl, rfl, RefS.fin hi ha hP hok hpl hV2 (MdQ.rf) ((upd_ne (by decide)).trans i6) ((upd_ne (by decide)).trans i7) (hO2), hO2⟩) dX12_kindsOf_29
set_option maxRecDepth 100000 in
set_option maxHeartbeats 4000000 in
theorem mR_repeatedOf {X : gX} {h : gH} {z m pl n : Nat} {f : Nat → Int32} {P : PlM} {L : List Int32} {day car err t : Int32} (p : Int32) (hR : RefS X h m pl n f P L day car err t) : gM X yX12_repeatedOf cX12_repeatedOf 2 (some .int) (4, 0, 0) [.ref m, .int p] h z (rfA X h z m pl n f P L day car err (if nI 1 ≤ p ∧ p ≤ nI 40 then nI (cnt (rwP L p.toNatClampNeg) L.length) else 0) (if nI 1 ≤ p ∧ p ≤ nI 40 then 0 else 1)) gNoX := by
  obtain ⟨I, A, V, hV, ⟨i0, i1, i2, i6, i7⟩, ha, hP, hok, hpl⟩ := hR
  have hl := hV.2.1
  have hpx : pl + 12 ≤ m ∨ pl = m + 2 ∨ m + 25 ≤ pl := Or.inr hpl
  have hi : I 1 = nI n ∧ I 2 = err := ⟨i1, i2⟩
  refine gM.of px12 (Nat.le_of_ble_eq_true rfl) ?_
  intro F hE
  refine g_aload_n dX12_repeatedOf_0 rfl ?_
  refine g_iconst (nI 0) dX12_repeatedOf_1 (by decide) ?_
  refine md_put0 fl12_58 hV.1 OffM.rf dX12_repeatedOf_2 (fun h2 hM2 hO2 => ?_)
  have hV2 := hV.put (by decide) hM2
  have hP2 := hP.off hO2 hpx
  refine g_iload_n dX12_repeatedOf_5 rfl ?_
  refine g_iconst (nI 1) dX12_repeatedOf_6 (by decide) ?_
  refine g_bipush (nI 40) dX12_repeatedOf_7 (by decide) ?_
  refine g_callS0 kX12_64 (m12_isIn (p) (nI 1) (nI 40)) rfl rfl (Nat.le_of_ble_eq_true rfl) (by decide) (by decide) (by decide) (by decide) dX12_repeatedOf_9 ?_
  rintro v1 h2 z1 ⟨rfl, rfl, rfl⟩
  refine g_if_eqB 24 dX12_repeatedOf_12 (by decide) (fun c_12 => ?_) (fun c_12 => ?_)
  · have hc2 := of_decide_eq_false c_12
    simp only [if_neg hc2] at hE
    refine g_aload_n dX12_repeatedOf_24 rfl ?_
    refine g_iconst (nI 1) dX12_repeatedOf_25 (by decide) ?_
    refine g_callV0 kX12_366 (m12_no (nI 1) hM2) hM2.1 rfl rfl rfl (Nat.le_of_ble_eq_true rfl) (by decide) (by decide) (by decide) (by decide) dX12_repeatedOf_26 ?_
    rintro v1 h3 z1 ⟨rfl, rfl, hM3, hO3⟩
    exact g_iret hE rfl (⟨rfl, rfl, RefS.no hi ha hP hok hpl hV2 hM3 i6 i7 (hO2.trans hO3), hO2.trans hO3⟩) dX12_repeatedOf_29
  · have hc2 := of_decide_eq_true c_12
    obtain ⟨g1, g2, hx⟩ := i32_nat (by decide) hc2.1 hc2.2 (by decide)
    simp only [if_pos hc2] at hE
    generalize p.toNatClampNeg = k at g1 g2 hx hE
    subst hx
    rw [← repeats_eq g1] at hE
    refine g_aload_n dX12_repeatedOf_15 rfl ?_
    refine g_iload_n dX12_repeatedOf_16 rfl ?_
    refine g_iconst (nI 2) dX12_repeatedOf_17 (by decide) ?_
    refine g_callV0 kX12_393 (m12_kindsWith k 2 g1 g2 (by decide) hM2 hl hV.2.2.1) hM2.1 rfl rfl rfl (Nat.le_of_ble_eq_true rfl) (by decide) (by decide) (by decide) (by decide) dX12_repeatedOf_18 ?_
    rintro v1 h3 z1 ⟨rfl, rfl, rfl⟩
    refine g_goto 29 dX12_repeatedOf_21 (by decide) ?_
    exact g_iret hE rfl (⟨rfl, rfl, RefS.fin hi ha hP hok hpl hV2 (MdQ.rf) ((upd_ne (by decide)).trans i6) ((upd_ne (by decide)).trans i7) (hO2), hO2⟩) dX12_repeatedOf_29
