/-! the reference: until an insult is known -/
set_option maxRecDepth 100000 in
set_option maxHeartbeats 4000000 in
theorem m12_until {X : gX} {h : gH} {z m pl : Nat} {I : Nat → Int32} {A : Nat → Nat → Int32} {V : Nat → Int64} {L : List Int32} {P : PlM} (k : Nat) (hk : k < P.1.1) (hok : OkP P) (hP : MpP X h pl P) (hpx : pl + 12 ≤ m ∨ pl = m + 2 ∨ m + 25 ≤ pl) (hV : MdV X h m pl L I A V) : gM X yX12_until cX12_until 3 (some .int) (7, 0, 0) [.ref m, .int (nI k)] h z (fun r h' z' => r = some (.int (oI (unA P (wl (P.1.2 k)) ((L, I 7), I 6) 31 0))) ∧ z' = z ∧ (∃ I' A', MdV X h' m pl L I' A' V ∧ I' 6 = I 6 ∧ I' 7 = I 7 ∧ MdQ I I' A A') ∧ OffM h h' m) gNoX := by
  refine gM.of px12 (Nat.le_of_ble_eq_true rfl) ?_
  intro F hE
  have fin : ∀ (d : Nat) (h1 : gH) (L1 : List Int32) (I1 : Nat → Int32) (A1 : Nat → Nat → Int32), d ≤ 31 → MdV X h1 m pl L1 I1 A1 V → MdK L (I 6) (I 7) I1 A1 → MdQ I I1 A A1 → OffM h h1 m → oI (unA P (wl (P.1.2 k)) ((L, I 7), I 6) 31 0) = (if d ≤ 30 then nI d else -1) → G X F cX12_until 3 yX12_until.cls (7, 0, 0) 0 0 33 [some (.ref m), some (.int (nI k)), some (.int (nI d))] [] h1 z := by
    intro d h1 L1 I1 A1 hd hV1 hK1 hQ1 hO1 hu
    rw [hu] at hE
    refine g_aload_n dX12_until_33 rfl ?_
    refine g_callV0 kX12_417 (m12_bringBack hV1 hK1) hV1.1.1 rfl rfl rfl (Nat.le_of_ble_eq_true rfl) (by decide) (by decide) (by decide) (by decide) dX12_until_34 ?_
    rintro v1 h5 z1 ⟨rfl, rfl, ⟨I5, A5, hV5, d6, d7, hK5, hQ5⟩, hO5⟩
    refine g_iload_n dX12_until_37 rfl ?_
    refine g_bipush (nI 30) dX12_until_38 (by decide) ?_
    refine g_icmp_leN 47 dX12_until_40 (by decide) (by omega) (by omega) (fun c_40 => ?_) (fun c_40 => ?_)
    · rw [if_pos (by omega)] at hE
      refine g_iload_n dX12_until_47 rfl ?_
      exact g_iret hE rfl (⟨rfl, rfl, ⟨I5, A5, hV5, d6, d7, hQ1.trans hQ5⟩, hO1.trans hO5⟩) dX12_until_48
    · rw [if_neg (by omega)] at hE
      refine g_iconst (-1) dX12_until_43 (by decide) ?_
      refine g_goto 48 dX12_until_44 (by decide) ?_
      exact g_iret hE rfl (⟨rfl, rfl, ⟨I5, A5, hV5, d6, d7, hQ1.trans hQ5⟩, hO1.trans hO5⟩) dX12_until_48
  have loop : ∀ (N d : Nat) (h1 : gH) (I1 : Nat → Int32) (A1 : Nat → Nat → Int32), d + N = 31 → MdV X h1 m pl (dyU P ((L, I 7), I 6) d).1.1 I1 A1 V → I1 7 = (dyU P ((L, I 7), I 6) d).1.2 → I1 6 = (dyU P ((L, I 7), I 6) d).2 → MdK L (I 6) (I 7) I1 A1 → MdQ I I1 A A1 → OffM h h1 m → unA P (wl (P.1.2 k)) ((L, I 7), I 6) 31 0 = unA P (wl (P.1.2 k)) ((L, I 7), I 6) N d → G X F cX12_until 3 yX12_until.cls (7, 0, 0) 0 0 6 [some (.ref m), some (.int (nI k)), some (.int (nI d))] [] h1 z := by
    intro N
    induction N with
    | zero =>
      intro d h1 I1 A1 hd hV1 c7 c6 hK1 hQ1 hO1 hu
      refine g_iload_n dX12_until_6 rfl ?_
      refine g_bipush (nI 30) dX12_until_7 (by decide) ?_
      refine g_icmp_gtN 33 dX12_until_9 (by decide) (by omega) (by omega) (fun c_9 => ?_) (fun c_9 => ?_)
      · exact fin d h1 _ I1 A1 (by omega) hV1 hK1 hQ1 hO1 (by rw [hu, if_neg (by omega)]; rfl)
      · exact absurd c_9 (by omega)
    | succ N ih =>
      intro d h1 I1 A1 hd hV1 c7 c6 hK1 hQ1 hO1 hu
      have hP1 := hP.off hO1 hpx
      obtain ⟨J, B, U, W, hQ, ⟨j0, -⟩, jw, -⟩ := id hP1
      have hu2 : unA P (wl (P.1.2 k)) ((L, I 7), I 6) (N + 1) d = if (fstA (stands (dyU P ((L, I 7), I 6) d).1.1 (wl (P.1.2 k))) (dyU P ((L, I 7), I 6) d).1.1.length 0).isSome = true then some d else unA P (wl (P.1.2 k)) ((L, I 7), I 6) N (d + 1) := rfl
      have hps := fun z0 => m12_pass (z := z0) 1 (by decide) hok hP1 hpx hV1
      rw [c6, c7] at hps
      cases hf : fstA (stands (dyU P ((L, I 7), I 6) d).1.1 (wl (P.1.2 k))) (dyU P ((L, I 7), I 6) d).1.1.length 0 with
      | none =>
        rw [hf] at hu2
        refine g_iload_n dX12_until_6 rfl ?_
        refine g_bipush (nI 30) dX12_until_7 (by decide) ?_
        refine g_icmp_gtN 33 dX12_until_9 (by decide) (by omega) (by omega) (fun c_9 => ?_) (fun c_9 => ?_)
        · exact absurd c_9 (by omega)
        · refine g_aload_n dX12_until_12 rfl ?_
          refine g_iload_n dX12_until_13 rfl ?_
          refine g_callV0 kX12_198 (m12_first k hQ (jw k hk) hV1.1 hV1.2.1 hV1.2.2.1) hV1.1.1 rfl rfl rfl (Nat.le_of_ble_eq_true rfl) (by decide) (by decide) (by decide) (by decide) dX12_until_14 ?_
          rintro v1 h3 z1 ⟨rfl, rfl, rfl⟩
          rw [hf]
          refine g_iconst (-1) dX12_until_17 (by decide) ?_
          refine g_icmp_ne 33 dX12_until_18 (by decide) (fun c_18 => ?_) (fun c_18 => ?_)
          · exact absurd rfl c_18
          · refine g_aload_n dX12_until_21 rfl ?_
            refine g_iconst (nI 1) dX12_until_22 (by decide) ?_
            refine g_callV0 kX12_411 ((hps _)) hV1.1.1 rfl rfl rfl (Nat.le_of_ble_eq_true rfl) (by decide) (by decide) (by decide) (by decide) dX12_until_23 ?_
            rintro v1 h4 z1 ⟨rfl, rfl, ⟨I4, A4, hV4, hH4, e7, e6⟩, hO4⟩
            refine g_pop dX12_until_26 rfl ?_
            refine g_iincN dX12_until_27 rfl (by decide) rfl ?_
            refine g_goto 6 dX12_until_30 (by decide) ?_
            exact ih (d + 1) h4 I4 A4 (by omega) hV4 e7 e6 (hK1.of hH4) (hQ1.trans hH4.toQ) (hO1.trans hO4) (hu.trans hu2)
      | some b =>
        have hb := fstA_some.mp hf
        have h40 := hV1.2.1
        rw [hf] at hu2
        refine g_iload_n dX12_until_6 rfl ?_
        refine g_bipush (nI 30) dX12_until_7 (by decide) ?_
        refine g_icmp_gtN 33 dX12_until_9 (by decide) (by omega) (by omega) (fun c_9 => ?_) (fun c_9 => ?_)
        · exact absurd c_9 (by omega)
        · refine g_aload_n dX12_until_12 rfl ?_
          refine g_iload_n dX12_until_13 rfl ?_
          refine g_callV0 kX12_198 (m12_first k hQ (jw k hk) hV1.1 hV1.2.1 hV1.2.2.1) hV1.1.1 rfl rfl rfl (Nat.le_of_ble_eq_true rfl) (by decide) (by decide) (by decide) (by decide) dX12_until_14 ?_
          rintro v1 h3 z1 ⟨rfl, rfl, rfl⟩
          rw [hf]
          refine g_iconst (-1) dX12_until_17 (by decide) ?_
          refine g_icmp_ne 33 dX12_until_18 (by decide) (fun c_18 => ?_) (fun c_18 => ?_)
          · exact fin d _ _ I1 A1 (by omega) hV1 hK1 hQ1 hO1 (by rw [hu, hu2, if_pos (show (some b).isSome = true from rfl), if_pos (by omega)]; rfl)
          · exact absurd c_18 (nI_m1 (by omega))
  refine g_aload_n dX12_until_0 rfl ?_
  refine g_callV0 kX12_414 (m12_keep hV) hV.1.1 rfl rfl rfl (Nat.le_of_ble_eq_true rfl) (by decide) (by decide) (by decide) (by decide) dX12_until_1 ?_
  rintro v1 h3 z1 ⟨rfl, rfl, ⟨I3, A3, hV3, hK3, f6, f7, hQ3⟩, hO3⟩
  refine g_iconst (nI 0) dX12_until_4 (by decide) ?_
  refine g_istore_n dX12_until_5 (by decide) rfl ?_
  exact loop 31 0 h3 I3 A3 rfl hV3 f7 f6 hK3 hQ3 hO3 rfl
set_option maxRecDepth 100000 in
set_option maxHeartbeats 4000000 in
theorem mR_daysUntilKnown {X : gX} {h : gH} {z m pl n : Nat} {f : Nat → Int32} {P : PlM} {L : List Int32} {day car err t : Int32} (p : Int32) (hR : RefS X h m pl n f P L day car err t) : gM X yX12_daysUntilKnown cX12_daysUntilKnown 2 (some .int) (8, 0, 0) [.ref m, .int p] h z (rfA X h z m pl n f P L day car err (if p.toNatClampNeg < P.1.1 ∧ p = nI p.toNatClampNeg then oI (unA P (wl (P.1.2 p.toNatClampNeg)) ((L, car), day) 31 0) else 0) (if p.toNatClampNeg < P.1.1 ∧ p = nI p.toNatClampNeg then 0 else 1)) gNoX := by
  obtain ⟨I, A, V, hV, ⟨i0, i1, i2, i6, i7⟩, ha, hP, hok, hpl⟩ := hR
  have hl := hV.2.1
  have hpx : pl + 12 ≤ m ∨ pl = m + 2 ∨ m + 25 ≤ pl := Or.inr hpl
  have hi : I 1 = nI n ∧ I 2 = err := ⟨i1, i2⟩
  have hp8 := hok.1.1
  obtain ⟨J, B, U, W, hQ, ⟨j0, -⟩, jw, -⟩ := id hP
  refine gM.of px12 (Nat.le_of_ble_eq_true rfl) ?_
  intro F hE
  refine g_aload_n dX12_daysUntilKnown_0 rfl ?_
  refine g_iconst (nI 0) dX12_daysUntilKnown_1 (by decide) ?_
  refine md_put0 fl12_58 hV.1 OffM.rf dX12_daysUntilKnown_2 (fun h2 hM2 hO2 => ?_)
  have hV2 := hV.put (by decide) hM2
  have hP2 := hP.off hO2 hpx
  refine g_aload_n dX12_daysUntilKnown_5 rfl ?_
  refine g_iload_n dX12_daysUntilKnown_6 rfl ?_
  refine g_callV0 kX12_399 (m12_isInsult p hM2 (hQ.off hO2 hpx)) hM2.1 rfl rfl rfl (Nat.le_of_ble_eq_true rfl) (by decide) (by decide) (by decide) (by decide) dX12_daysUntilKnown_7 ?_
  rintro v1 h2 z1 ⟨rfl, rfl, rfl⟩
  rw [j0]
  refine g_if_eqB 21 dX12_daysUntilKnown_10 (by decide) (fun c_10 => ?_) (fun c_10 => ?_)
  · have hc2 : ¬ (p.toNatClampNeg < P.1.1 ∧ p = nI p.toNatClampNeg) := fun w => of_decide_eq_false c_10 ((isPl (by omega)).mpr ⟨w.2, w.1⟩)
    simp only [if_neg hc2] at hE
    refine g_aload_n dX12_daysUntilKnown_21 rfl ?_
    refine g_iconst (nI 1) dX12_daysUntilKnown_22 (by decide) ?_
    refine g_callV0 kX12_366 (m12_no (nI 1) hM2) hM2.1 rfl rfl rfl (Nat.le_of_ble_eq_true rfl) (by decide) (by decide) (by decide) (by decide) dX12_daysUntilKnown_23 ?_
    rintro v1 h3 z1 ⟨rfl, rfl, hM3, hO3⟩
    exact g_iret hE rfl (⟨rfl, rfl, RefS.no hi ha hP hok hpl hV2 hM3 i6 i7 (hO2.trans hO3), hO2.trans hO3⟩) dX12_daysUntilKnown_26
  · have hc := (isPl (by omega)).mp (of_decide_eq_true c_10)
    have hx := hc.1
    have hc2 : p.toNatClampNeg < P.1.1 ∧ p = nI p.toNatClampNeg := ⟨hc.2, hc.1⟩
    simp only [if_pos hc2] at hE
    generalize p.toNatClampNeg = k at hc hx hE
    subst hx
    have e6 : upd I 0 (nI 0) 6 = day := (upd_ne (by decide)).trans i6
    have e7 : upd I 0 (nI 0) 7 = car := (upd_ne (by decide)).trans i7
    refine g_aload_n dX12_daysUntilKnown_13 rfl ?_
    refine g_iload_n dX12_daysUntilKnown_14 rfl ?_
    have hun := fun z0 => m12_until (z := z0) k hc.2 hok hP2 hpx hV2
    rw [e6, e7] at hun
    refine g_callV0 kX12_420 ((hun _)) hM2.1 rfl rfl rfl (Nat.le_of_ble_eq_true rfl) (by decide) (by decide) (by decide) (by decide) dX12_daysUntilKnown_15 ?_
    rintro v1 h3 z1 ⟨rfl, rfl, ⟨I3, A3, hV3, d6, d7, hQ3⟩, hO3⟩
    refine g_goto 26 dX12_daysUntilKnown_18 (by decide) ?_
    exact g_iret hE rfl (⟨rfl, rfl, RefS.fin hi ha hP hok hpl hV3 (hQ3) (d6) (d7) (hO2.trans hO3), hO2.trans hO3⟩) dX12_daysUntilKnown_26
