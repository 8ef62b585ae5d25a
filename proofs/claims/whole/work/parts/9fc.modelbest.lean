/-! the reference: the best letter -/
set_option maxRecDepth 100000 in
set_option maxHeartbeats 4000000 in
theorem mR_bestLetter {X : gX} {h : gH} {z m pl n : Nat} {f : Nat → Int32} {P : PlM} {L : List Int32} {day car err t : Int32} (hR : RefS X h m pl n f P L day car err t) : gM X yX12_bestLetter cX12_bestLetter 5 (some .int) (4, 0, 0) [.ref m] h z (rfA X h z m pl n f P L day car err (brV 0 (msU (beC L) 26)) 0) gNoX := by
  obtain ⟨I, A, V, hV, ⟨i0, i1, i2, i6, i7⟩, ha, hP, hok, hpl⟩ := hR
  have hl := hV.2.1
  have hpx : pl + 12 ≤ m ∨ pl = m + 2 ∨ m + 25 ≤ pl := Or.inr hpl
  have hi : I 1 = nI n ∧ I 2 = err := ⟨i1, i2⟩
  refine gM.of px12 (Nat.le_of_ble_eq_true rfl) ?_
  intro F hE
  have loop : ∀ (N k : Nat) (x : Option Value) (h1 : gH) (I1 : Nat → Int32) (A1 : Nat → Nat → Int32), k + N = 26 → MdV X h1 m pl L I1 A1 V → I1 6 = day → I1 7 = car → MdK L day car I1 A1 → MdQ (upd I 0 (nI 0)) I1 A A1 → OffM h h1 m → G X F cX12_bestLetter 5 yX12_bestLetter.cls (4, 0, 0) 0 0 15 [some (.ref m), some (.int (brV 0 (msU (beC L) k))), some (.int (moV (beC L) (msU (beC L) k))), some (.int (nI (k + 1))), x] [] h1 z := by
    intro N
    induction N with
    | zero =>
      intro k x h1 I1 A1 hk hV1 c6 c7 hK1 hQ1 hO1
      have hk26 : k = 26 := by omega
      subst hk26
      refine g_iload_n dX12_bestLetter_15 rfl ?_
      refine g_bipush (nI 26) dX12_bestLetter_16 (by decide) ?_
      refine g_icmp_gtN 56 dX12_bestLetter_18 (by decide) (by omega) (by omega) (fun c_18 => ?_) (fun c_18 => ?_)
      · refine g_iload_n dX12_bestLetter_56 rfl ?_
        exact g_iret hE rfl (⟨rfl, rfl, RefS.fin hi ha hP hok hpl hV1 hQ1 c6 c7 hO1, hO1⟩) dX12_bestLetter_57
      · exact absurd c_18 (by omega)
    | succ N ih =>
      intro k x h1 I1 A1 hk hV1 c6 c7 hK1 hQ1 hO1
      have hb := beC_le hl
      have hu : msU (beC L) (k + 1) = match msU (beC L) k with
        | none => some k
        | some b => if beC L b < beC L k then some k else some b := rfl
      have nxt : ∀ (o : Option Nat) (h2 : gH) (I2 : Nat → Int32) (A2 : Nat → Nat → Int32) (y : Option Value), msU (beC L) (k + 1) = o → MdV X h2 m pl L I2 A2 V → I2 6 = day → I2 7 = car → MdK L day car I2 A2 → MdQ (upd I 0 (nI 0)) I2 A A2 → OffM h h2 m → G X F cX12_bestLetter 5 yX12_bestLetter.cls (4, 0, 0) 0 0 50 [some (.ref m), some (.int (brV 0 (o))), some (.int (moV (beC L) (o))), some (.int (nI (k + 1))), y] [] h2 z := by
        intro o h2 I2 A2 y e hV2 c6 c7 hK2 hQ2 hO2
        subst e
        refine g_iincN dX12_bestLetter_50 rfl (by decide) rfl ?_
        refine g_goto 15 dX12_bestLetter_53 (by decide) ?_
        exact ih (k + 1) _ h2 I2 A2 (by omega) hV2 c6 c7 hK2 hQ2 hO2
      cases hm : msU (beC L) k with
      | none =>
        rw [hm] at hu
        refine g_iload_n dX12_bestLetter_15 rfl ?_
        refine g_bipush (nI 26) dX12_bestLetter_16 (by decide) ?_
        refine g_icmp_gtN 56 dX12_bestLetter_18 (by decide) (by omega) (by omega) (fun c_18 => ?_) (fun c_18 => ?_)
        · exact absurd c_18 (by omega)
        · refine g_aload_n dX12_bestLetter_21 rfl ?_
          refine g_iload_n dX12_bestLetter_22 rfl ?_
          refine g_callV0 kX12_79 (m12_hears (nI (k + 1)) hV1) hV1.1.1 rfl rfl rfl (Nat.le_of_ble_eq_true rfl) (by decide) (by decide) (by decide) (by decide) dX12_bestLetter_23 ?_
          rintro v1 h2 z1 ⟨rfl, rfl, ⟨I2, A2, hV2, hH2, -, -⟩, hO2⟩
          refine g_aload_n dX12_bestLetter_26 rfl ?_
          refine g_callV0 kX12_125 (m12_longest hV2.1 hV2.2.1 hV2.2.2.1) hV2.1.1 rfl rfl rfl (Nat.le_of_ble_eq_true rfl) (by decide) (by decide) (by decide) (by decide) dX12_bestLetter_27 ?_
          rintro v1 h5 z1 ⟨rfl, rfl, rfl⟩
          rw [loU_lon]
          rw [show lon (hearL L (nI (k + 1))) = beC L k from rfl]
          refine g_istore dX12_bestLetter_30 (by decide) rfl ?_
          refine g_aload_n dX12_bestLetter_32 rfl ?_
          refine g_callV0 kX12_417 (m12_bringBack hV2 (hK1.of hH2.toG.toP)) hV2.1.1 rfl rfl rfl (Nat.le_of_ble_eq_true rfl) (by decide) (by decide) (by decide) (by decide) dX12_bestLetter_33 ?_
          rintro v1 h5 z1 ⟨rfl, rfl, ⟨I5, A5, hV5, d6, d7, hK5, hQ5⟩, hO5⟩
          refine g_iload dX12_bestLetter_36 rfl ?_
          refine g_iload_n dX12_bestLetter_38 rfl ?_
          refine g_icmp_gt 45 dX12_bestLetter_39 (by decide) (fun c_39 => ?_) (fun c_39 => ?_)
          · refine g_iload_n dX12_bestLetter_45 rfl ?_
            refine g_istore_n dX12_bestLetter_46 (by decide) rfl ?_
            refine g_iload dX12_bestLetter_47 rfl ?_
            refine g_istore_n dX12_bestLetter_49 (by decide) rfl ?_
            exact nxt (some k) h5 I5 A5 _ hu hV5 d6 d7 hK5 ((hQ1.trans hH2.toQ).trans hQ5) ((hO1.trans hO2).trans hO5)
          · exact absurd (m1_lt (b := beC L k) (by have := hb k; omega)) c_39
      | some b =>
        rw [hm] at hu
        have hu2 : msU (beC L) (k + 1) = if beC L b < beC L k then some k else some b := hu
        have hbb := hb b
        have hbk := hb k
        refine g_iload_n dX12_bestLetter_15 rfl ?_
        refine g_bipush (nI 26) dX12_bestLetter_16 (by decide) ?_
        refine g_icmp_gtN 56 dX12_bestLetter_18 (by decide) (by omega) (by omega) (fun c_18 => ?_) (fun c_18 => ?_)
        · exact absurd c_18 (by omega)
        · refine g_aload_n dX12_bestLetter_21 rfl ?_
          refine g_iload_n dX12_bestLetter_22 rfl ?_
          refine g_callV0 kX12_79 (m12_hears (nI (k + 1)) hV1) hV1.1.1 rfl rfl rfl (Nat.le_of_ble_eq_true rfl) (by decide) (by decide) (by decide) (by decide) dX12_bestLetter_23 ?_
          rintro v1 h2 z1 ⟨rfl, rfl, ⟨I2, A2, hV2, hH2, -, -⟩, hO2⟩
          refine g_aload_n dX12_bestLetter_26 rfl ?_
          refine g_callV0 kX12_125 (m12_longest hV2.1 hV2.2.1 hV2.2.2.1) hV2.1.1 rfl rfl rfl (Nat.le_of_ble_eq_true rfl) (by decide) (by decide) (by decide) (by decide) dX12_bestLetter_27 ?_
          rintro v1 h5 z1 ⟨rfl, rfl, rfl⟩
          rw [loU_lon]
          rw [show lon (hearL L (nI (k + 1))) = beC L k from rfl]
          refine g_istore dX12_bestLetter_30 (by decide) rfl ?_
          refine g_aload_n dX12_bestLetter_32 rfl ?_
          refine g_callV0 kX12_417 (m12_bringBack hV2 (hK1.of hH2.toG.toP)) hV2.1.1 rfl rfl rfl (Nat.le_of_ble_eq_true rfl) (by decide) (by decide) (by decide) (by decide) dX12_bestLetter_33 ?_
          rintro v1 h5 z1 ⟨rfl, rfl, ⟨I5, A5, hV5, d6, d7, hK5, hQ5⟩, hO5⟩
          refine g_iload dX12_bestLetter_36 rfl ?_
          refine g_iload_n dX12_bestLetter_38 rfl ?_
          refine g_icmp_gt 45 dX12_bestLetter_39 (by decide) (fun c_39 => ?_) (fun c_39 => ?_)
          · refine g_iload_n dX12_bestLetter_45 rfl ?_
            refine g_istore_n dX12_bestLetter_46 (by decide) rfl ?_
            refine g_iload dX12_bestLetter_47 rfl ?_
            refine g_istore_n dX12_bestLetter_49 (by decide) rfl ?_
            exact nxt (some k) h5 I5 A5 _ (by rw [hu2, if_pos ((nI_ltI (by omega) (by omega)).mp c_39)]) hV5 d6 d7 hK5 ((hQ1.trans hH2.toQ).trans hQ5) ((hO1.trans hO2).trans hO5)
          · refine g_goto 50 dX12_bestLetter_42 (by decide) ?_
            exact nxt (some b) h5 I5 A5 _ (by rw [hu2, if_neg (fun w => c_39 ((nI_ltI (by omega) (by omega)).mpr w))]) hV5 d6 d7 hK5 ((hQ1.trans hH2.toQ).trans hQ5) ((hO1.trans hO2).trans hO5)
  refine g_aload_n dX12_bestLetter_0 rfl ?_
  refine g_iconst (nI 0) dX12_bestLetter_1 (by decide) ?_
  refine md_put0 fl12_58 hV.1 OffM.rf dX12_bestLetter_2 (fun h2 hM2 hO2 => ?_)
  have hV2 := hV.put (by decide) hM2
  have hP2 := hP.off hO2 hpx
  have e6 : upd I 0 (nI 0) 6 = day := (upd_ne (by decide)).trans i6
  have e7 : upd I 0 (nI 0) 7 = car := (upd_ne (by decide)).trans i7
  refine g_aload_n dX12_bestLetter_5 rfl ?_
  refine g_callV0 kX12_414 (m12_keep hV2) hM2.1 rfl rfl rfl (Nat.le_of_ble_eq_true rfl) (by decide) (by decide) (by decide) (by decide) dX12_bestLetter_6 ?_
  rintro v1 h3 z1 ⟨rfl, rfl, ⟨I3, A3, hV3, hK3, f6, f7, hQ3⟩, hO3⟩
  rw [e6] at f6 hK3
  rw [e7] at f7 hK3
  refine g_iconst (nI 0) dX12_bestLetter_9 (by decide) ?_
  refine g_istore_n dX12_bestLetter_10 (by decide) rfl ?_
  refine g_iconst (-1) dX12_bestLetter_11 (by decide) ?_
  refine g_istore_n dX12_bestLetter_12 (by decide) rfl ?_
  refine g_iconst (nI 1) dX12_bestLetter_13 (by decide) ?_
  refine g_istore_n dX12_bestLetter_14 (by decide) rfl ?_
  exact loop 26 0 _ h3 I3 A3 rfl hV3 f6 f7 hK3 hQ3 (hO2.trans hO3)
