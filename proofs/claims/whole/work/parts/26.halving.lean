/-! Squawks: halving, becoming like another, the end, their making -/

set_option maxRecDepth 100000 in
set_option maxHeartbeats 4000000 in
theorem m5_halvingsTo {X : gX} {h : gH} {z a w : Nat} {L W : List Int32} (hL : SqL sqCa X h a L) (hW : WdL X h w W) (hd : w + 2 ≤ a ∨ a + 5 ≤ w) : gM X yX5_halvingsTo cX5_halvingsTo 6 (some .int) (3, 0, 0) [.ref a, .ref w] h z (sqR X h z a L (nI (hv L W))) gNoX := by
  obtain ⟨c, I, A, hS, hI⟩ := hL
  refine gM.of px5 (Nat.le_of_ble_eq_true rfl) ?_
  intro F hE
  obtain ⟨h9, e9⟩ : ∃ x, x = h := ⟨_, rfl⟩
  rw [← e9] at hE
  refine g_aload_n dX5_halvingsTo_0 rfl ?_
  refine g_callV0 kX5_55 (m5_sort ⟨_, _, _, hS, hI⟩) hS.1 rfl rfl rfl (Nat.le_of_ble_eq_true rfl) (by decide) (by decide) (by decide) (by decide) dX5_halvingsTo_1 ?_
  rintro v1 h1 z1 ⟨rfl, rfl, ⟨I, A, hS, hn, hA, hI2, hC1, hC2, hC3, hC4, hC5⟩, hO⟩
  rw [← e9] at hO
  have hW1 : WdL X h1 w W := by rw [← e9] at hW; exact hW.off hO hd
  have hL1 : SqL sqCa X h1 a L := SqS.toL ⟨_, _, hS, hn, hA, hI2, hC1, hC2, hC3, hC4, hC5⟩
  have loop : ∀ (m s lo hi : Nat), s + m = 40 → lo ≤ hi → hi ≤ L.length → hi - lo ≤ m → hv L W = hvA L W m lo hi s → G X F cX5_halvingsTo 6 yX5_halvingsTo.cls (3, 0, 0) 0 0 14 [some (.ref a), some (.ref w), some (.int (nI lo)), some (.int (nI hi)), some (.int (nI s)), none] [] h1 z1 := by
    intro m
    induction m with
    | zero =>
      intro s lo hi hs hlh hh hm hf
      refine g_iload_n dX5_halvingsTo_14 rfl ?_
      refine g_iload_n dX5_halvingsTo_15 rfl ?_
      refine g_icmp_geN 65 dX5_halvingsTo_16 (by decide) (by omega) (by omega) (fun c_16 => ?_) (fun c_16 => ?_)
      · refine g_iload dX5_halvingsTo_65 rfl ?_
        exact g_iret hE rfl (⟨by rw [show hv L W = s from hf], rfl, hL1, hO⟩) dX5_halvingsTo_67
      · exact absurd c_16 (by omega)
    | succ m ih =>
      intro s lo hi hs hlh hh hm hf
      have hf2 : hv L W = if lo < hi then (if abf L W (plc L ((lo + hi) / 2)) = true then hvA L W m ((lo + hi) / 2 + 1) hi (s + 1) else hvA L W m lo ((lo + hi) / 2) (s + 1)) else s := hf
      refine g_iload_n dX5_halvingsTo_14 rfl ?_
      refine g_iload_n dX5_halvingsTo_15 rfl ?_
      refine g_icmp_geN 65 dX5_halvingsTo_16 (by decide) (by omega) (by omega) (fun c_16 => ?_) (fun c_16 => ?_)
      · refine g_iload dX5_halvingsTo_65 rfl ?_
        exact g_iret hE rfl (⟨by rw [hf2, if_neg (by omega)], rfl, hL1, hO⟩) dX5_halvingsTo_67
      · refine g_iload dX5_halvingsTo_19 rfl ?_
        refine g_bipush (nI 40) dX5_halvingsTo_21 (by decide) ?_
        refine g_icmp_geN 65 dX5_halvingsTo_23 (by decide) (by omega) (by omega) (fun c_23 => ?_) (fun c_23 => ?_)
        · exact absurd c_23 (by omega)
        · refine g_iincN dX5_halvingsTo_26 rfl (by decide) rfl ?_
          refine g_iload_n dX5_halvingsTo_29 rfl ?_
          refine g_iload_n dX5_halvingsTo_30 rfl ?_
          first | refine g_iaddN dX5_halvingsTo_31 ?_ | refine g_iadd dX5_halvingsTo_31 ?_
          refine g_iconst (nI 2) dX5_halvingsTo_32 (by decide) ?_
          refine g_idivN dX5_halvingsTo_33 (by omega) (by decide) (by decide) ?_
          refine g_istore dX5_halvingsTo_34 (by decide) rfl ?_
          refine g_aload_n dX5_halvingsTo_36 rfl ?_
          refine g_aload_n dX5_halvingsTo_37 rfl ?_
          refine g_aload_n dX5_halvingsTo_38 rfl ?_
          refine g_getf fl5_18 hS.1 rfl dX5_halvingsTo_39 ?_
          refine g_iload dX5_halvingsTo_42 rfl ?_
          refine g_ialdN (hS.2 2 (by decide)) (by omega) (by decide) dX5_halvingsTo_44 ?_
          rw [hC2 _ (by omega)]
          have hpl := (plc_spec (L := L) (r := (lo + hi) / 2) (by omega)).1
          refine g_callV0 kX5_76 (m5_isAheadOf (plc L ((lo + hi) / 2)) (by omega) hL1 hW1) hS.1 rfl rfl rfl (Nat.le_of_ble_eq_true rfl) (by decide) (by decide) (by decide) (by decide) dX5_halvingsTo_45 ?_
          rintro v2 h2 z2 ⟨rfl, rfl, rfl⟩
          refine g_if_eqB 59 dX5_halvingsTo_48 (by decide) (fun c_48 => ?_) (fun c_48 => ?_)
          · refine g_iload dX5_halvingsTo_59 rfl ?_
            refine g_istore_n dX5_halvingsTo_61 (by decide) rfl ?_
            refine g_goto 14 dX5_halvingsTo_62 (by decide) ?_
            refine G.kill 5 ?_
            exact ih (s + 1) lo ((lo + hi) / 2) (by omega) (by omega) (by omega) (by omega) (by rw [hf2, if_pos (by omega), if_neg (by rw [c_48]; decide)])
          · refine g_iload dX5_halvingsTo_51 rfl ?_
            refine g_iconst (nI 1) dX5_halvingsTo_53 (by decide) ?_
            first | refine g_iaddN dX5_halvingsTo_54 ?_ | refine g_iadd dX5_halvingsTo_54 ?_
            refine g_istore_n dX5_halvingsTo_55 (by decide) rfl ?_
            refine g_goto 62 dX5_halvingsTo_56 (by decide) ?_
            refine g_goto 14 dX5_halvingsTo_62 (by decide) ?_
            refine G.kill 5 ?_
            exact ih (s + 1) ((lo + hi) / 2 + 1) hi (by omega) (by omega) (by omega) (by omega) (by rw [hf2, if_pos (by omega), if_pos c_48])
  refine g_iconst (nI 0) dX5_halvingsTo_4 (by decide) ?_
  refine g_istore_n dX5_halvingsTo_5 (by decide) rfl ?_
  refine g_aload_n dX5_halvingsTo_6 rfl ?_
  refine g_getf fl5_27 hS.1 rfl dX5_halvingsTo_7 ?_
  refine g_istore_n dX5_halvingsTo_10 (by decide) rfl ?_
  refine g_iconst (nI 0) dX5_halvingsTo_11 (by decide) ?_
  refine g_istore dX5_halvingsTo_12 (by decide) rfl ?_
  exact loop 40 0 0 L.length (by omega) (by omega) (Nat.le_refl _) (by omega) rfl
set_option maxRecDepth 100000 in
set_option maxHeartbeats 4000000 in
theorem m5_becomeLike {C : sqC} {X : gX} {h : gH} {z a b : Nat} {L M : List Int32} (hL : SqL C X h a L) (hM : SqL C X h b M) (hd : a + 6 ≤ b ∨ b + 6 ≤ a) : gM X yX5_becomeLike cX5_becomeLike 3 none (1, 0, 0) [.ref a, .ref b] h z (sqV C X h z a M) gNoX := by
  obtain ⟨c, I, A, hS, -⟩ := hL
  obtain ⟨c2, I2, A2, hT, rfl, hn, hA2, -⟩ := hM
  refine gM.of px5 (Nat.le_of_ble_eq_true rfl) ?_
  intro F hE
  have hO : OffB h h a 5 := OffB.rf
  have hup : ∀ (A : Nat → Nat → Int32) (f g : Nat → Int32), va_up (va_up A 0 f) 0 g = va_up A 0 g := fun A f g => by funext k; unfold va_up; split <;> rfl
  have hA0 : va_up A 0 (A 0) = A := by funext k; unfold va_up; split <;> simp [*]
  have loop : ∀ (m j : Nat) (f : Nat → Int32), j + m = M.length → ∀ h1 : gH, SqB X h1 a M.length I (va_up A 0 f) → OffB h h1 a 5 → (∀ i, i < j → f i = lt M i) → G X F cX5_becomeLike 3 yX5_becomeLike.cls (1, 0, 0) 0 0 10 [some (.ref a), some (.ref b), some (.int (nI j))] [] h1 z := by
    intro m
    induction m with
    | zero =>
      intro j f hj h1 hS hO hf
      refine g_iload_n dX5_becomeLike_10 rfl ?_
      refine g_aload_n dX5_becomeLike_11 rfl ?_
      refine g_getf fl5_27 hS.1 rfl dX5_becomeLike_12 ?_
      refine g_icmp_geN 36 dX5_becomeLike_15 (by decide) (by omega) (by omega) (fun c_15 => ?_) (fun c_15 => ?_)
      · refine g_aload_n dX5_becomeLike_36 rfl ?_
        refine g_iconst (nI 0) dX5_becomeLike_37 (by decide) ?_
        refine sq_put2 rfl rfl fl5_31 hS hO dX5_becomeLike_38 (fun h hS hO => ?_)
        exact g_vret hE (⟨rfl, rfl, ⟨_, _, _, hS, rfl, hn, fun i hi => by rw [vu_same]; exact hf i (by omega), Or.inl rfl⟩, hO⟩) dX5_becomeLike_41
      · exact absurd c_15 (by omega)
    | succ m ih =>
      intro j f hj h1 hS hO hf
      have hT2 := hT.off hO (by omega)
      refine g_iload_n dX5_becomeLike_10 rfl ?_
      refine g_aload_n dX5_becomeLike_11 rfl ?_
      refine g_getf fl5_27 hS.1 rfl dX5_becomeLike_12 ?_
      refine g_icmp_geN 36 dX5_becomeLike_15 (by decide) (by omega) (by omega) (fun c_15 => ?_) (fun c_15 => ?_)
      · exact absurd c_15 (by omega)
      · refine g_aload_n dX5_becomeLike_18 rfl ?_
        refine g_getf fl5_9 hS.1 rfl dX5_becomeLike_19 ?_
        refine g_iload_n dX5_becomeLike_22 rfl ?_
        refine g_aload_n dX5_becomeLike_23 rfl ?_
        refine g_getf fl5_9 hT2.1 rfl dX5_becomeLike_24 ?_
        refine g_iload_n dX5_becomeLike_27 rfl ?_
        refine g_ialdN (hT2.2 0 (by decide)) (by omega) (by decide) dX5_becomeLike_28 ?_
        refine sq_ast (q := 0) ⟨by decide, by decide⟩ (by omega) hS hO dX5_becomeLike_29 (fun h hS hO => ?_)
        refine g_iincN dX5_becomeLike_30 rfl (by decide) rfl ?_
        refine g_goto 10 dX5_becomeLike_33 (by decide) ?_
        rw [hup, vu_same] at hS
        refine ih (j + 1) _ (by omega) h hS hO (fun i hi => ?_)
        by_cases e : i = j
        · subst e; rw [upd_same]; exact hA2 i (by omega)
        · rw [upd_ne e]; exact hf i (by omega)
  refine g_aload_n dX5_becomeLike_0 rfl ?_
  refine g_aload_n dX5_becomeLike_1 rfl ?_
  refine g_getf fl5_27 hT.1 rfl dX5_becomeLike_2 ?_
  refine sq_putn fl5_27 hS hO dX5_becomeLike_5 (fun h hS hO => ?_)
  refine g_iconst (nI 0) dX5_becomeLike_8 (by decide) ?_
  refine g_istore_n dX5_becomeLike_9 (by decide) rfl ?_
  exact loop M.length 0 (A 0) (by omega) h (by rw [hA0]; exact hS) hO (fun i hi => absurd hi (Nat.not_lt_zero _))
set_option maxRecDepth 100000 in
set_option maxHeartbeats 4000000 in
theorem m5_endStandingEarlier {C : sqC} {X : gX} {h : gH} {z a : Nat} {L : List Int32} (hL : SqL C X h a L) : gM X yX5_endStandingEarlier cX5_endStandingEarlier 4 (some .int) (1, 0, 0) [.ref a] h z (pR h z (nI (ese L))) gNoX := by
  obtain ⟨c, I, A, hS, rfl, hn, hA, -⟩ := hL
  refine gM.of px5 (Nat.le_of_ble_eq_true rfl) ?_
  intro F hE
  have inner : ∀ (m k last : Nat), k + m = last + 1 → last < L.length - 1 → alk L last = alA L last m k → (alk L last = k → False) ∨ True → (G X F cX5_endStandingEarlier 4 yX5_endStandingEarlier.cls (1, 0, 0) 0 0 51 [some (.ref a), some (.int (nI (eseU L last))), some (.int (nI last)), some (.int (nI (alk L last)))] [] h z) → G X F cX5_endStandingEarlier 4 yX5_endStandingEarlier.cls (1, 0, 0) 0 0 16 [some (.ref a), some (.int (nI (eseU L last))), some (.int (nI last)), some (.int (nI k))] [] h z := by
    intro m
    induction m with
    | zero =>
      intro k last hk hl hf _ K
      have hk2 : alk L last = k := hf
      refine g_iload_n dX5_endStandingEarlier_16 rfl ?_
      refine g_iload_n dX5_endStandingEarlier_17 rfl ?_
      refine g_icmp_gtN 51 dX5_endStandingEarlier_18 (by decide) (by omega) (by omega) (fun c_18 => ?_) (fun c_18 => ?_)
      · rw [← hk2]
        exact K
      · exact absurd c_18 (by omega)
    | succ m ih =>
      intro k last hk hl hf _ K
      have hf2 : alk L last = if lt L (last - k) = lt L (L.length - 1 - k) then alA L last m (k + 1) else k := hf
      refine g_iload_n dX5_endStandingEarlier_16 rfl ?_
      refine g_iload_n dX5_endStandingEarlier_17 rfl ?_
      refine g_icmp_gtN 51 dX5_endStandingEarlier_18 (by decide) (by omega) (by omega) (fun c_18 => ?_) (fun c_18 => ?_)
      · exact absurd c_18 (by omega)
      · refine g_aload_n dX5_endStandingEarlier_21 rfl ?_
        refine g_getf fl5_9 hS.1 rfl dX5_endStandingEarlier_22 ?_
        refine g_iload_n dX5_endStandingEarlier_25 rfl ?_
        refine g_iload_n dX5_endStandingEarlier_26 rfl ?_
        first | refine g_isubN dX5_endStandingEarlier_27 (by omega) ?_ | refine g_isub dX5_endStandingEarlier_27 ?_
        refine g_ialdN (hS.2 0 (by decide)) (by omega) (by decide) dX5_endStandingEarlier_28 ?_
        refine g_aload_n dX5_endStandingEarlier_29 rfl ?_
        refine g_getf fl5_9 hS.1 rfl dX5_endStandingEarlier_30 ?_
        refine g_aload_n dX5_endStandingEarlier_33 rfl ?_
        refine g_getf fl5_27 hS.1 rfl dX5_endStandingEarlier_34 ?_
        refine g_iconst (nI 1) dX5_endStandingEarlier_37 (by decide) ?_
        first | refine g_isubN dX5_endStandingEarlier_38 (by omega) ?_ | refine g_isub dX5_endStandingEarlier_38 ?_
        refine g_iload_n dX5_endStandingEarlier_39 rfl ?_
        first | refine g_isubN dX5_endStandingEarlier_40 (by omega) ?_ | refine g_isub dX5_endStandingEarlier_40 ?_
        refine g_ialdN (hS.2 0 (by decide)) (by omega) (by decide) dX5_endStandingEarlier_41 ?_
        rw [hA _ (by omega), hA _ (by omega)]
        refine g_icmp_ne 51 dX5_endStandingEarlier_42 (by decide) (fun c_42 => ?_) (fun c_42 => ?_)
        · rw [if_neg c_42] at hf2
          rw [← hf2]
          exact K
        · refine g_iincN dX5_endStandingEarlier_45 rfl (by decide) rfl ?_
          refine g_goto 16 dX5_endStandingEarlier_48 (by decide) ?_
          exact ih (k + 1) last (by omega) hl (by rw [hf2, if_pos c_42]) (Or.inr trivial) K
  by_cases h0 : L.length = 0
  · have hv : ese L = 0 := by unfold ese; rw [h0]; rfl
    refine g_iconst (nI 0) dX5_endStandingEarlier_0 (by decide) ?_
    refine g_istore_n dX5_endStandingEarlier_1 (by decide) rfl ?_
    refine g_iconst (nI 0) dX5_endStandingEarlier_2 (by decide) ?_
    refine g_istore_n dX5_endStandingEarlier_3 (by decide) rfl ?_
    refine g_iload_n dX5_endStandingEarlier_4 rfl ?_
    refine g_aload_n dX5_endStandingEarlier_5 rfl ?_
    refine g_getf fl5_27 hS.1 rfl dX5_endStandingEarlier_6 ?_
    refine g_iconst (nI 1) dX5_endStandingEarlier_9 (by decide) ?_
    rw [h0]
    refine g_isub dX5_endStandingEarlier_10 ?_
    refine g_icmp_ge 63 dX5_endStandingEarlier_11 (by decide) (fun c_11 => ?_) (fun c_11 => absurd (by decide) c_11)
    refine g_iload_n dX5_endStandingEarlier_63 rfl ?_
    exact g_iret hE rfl (⟨by rw [hv], rfl, rfl⟩) dX5_endStandingEarlier_64
  · have outer : ∀ (m last : Nat), last + m = L.length - 1 → G X F cX5_endStandingEarlier 4 yX5_endStandingEarlier.cls (1, 0, 0) 0 0 4 [some (.ref a), some (.int (nI (eseU L last))), some (.int (nI last)), none] [] h z := by
      intro m
      induction m with
      | zero =>
        intro last hl
        refine g_iload_n dX5_endStandingEarlier_4 rfl ?_
        refine g_aload_n dX5_endStandingEarlier_5 rfl ?_
        refine g_getf fl5_27 hS.1 rfl dX5_endStandingEarlier_6 ?_
        refine g_iconst (nI 1) dX5_endStandingEarlier_9 (by decide) ?_
        first | refine g_isubN dX5_endStandingEarlier_10 (by omega) ?_ | refine g_isub dX5_endStandingEarlier_10 ?_
        refine g_icmp_geN 63 dX5_endStandingEarlier_11 (by decide) (by omega) (by omega) (fun c_11 => ?_) (fun c_11 => ?_)
        · refine g_iload_n dX5_endStandingEarlier_63 rfl ?_
          exact g_iret hE rfl (⟨by rw [show last = L.length - 1 by omega]; rfl, rfl, rfl⟩) dX5_endStandingEarlier_64
        · exact absurd c_11 (by omega)
      | succ m ih =>
        intro last hl
        have b1 := eseU_le (L := L) (m := last)
        have b2 := alk_le (L := L) (last := last)
        refine g_iload_n dX5_endStandingEarlier_4 rfl ?_
        refine g_aload_n dX5_endStandingEarlier_5 rfl ?_
        refine g_getf fl5_27 hS.1 rfl dX5_endStandingEarlier_6 ?_
        refine g_iconst (nI 1) dX5_endStandingEarlier_9 (by decide) ?_
        first | refine g_isubN dX5_endStandingEarlier_10 (by omega) ?_ | refine g_isub dX5_endStandingEarlier_10 ?_
        refine g_icmp_geN 63 dX5_endStandingEarlier_11 (by decide) (by omega) (by omega) (fun c_11 => ?_) (fun c_11 => ?_)
        · exact absurd c_11 (by omega)
        · refine g_iconst (nI 0) dX5_endStandingEarlier_14 (by decide) ?_
          refine g_istore_n dX5_endStandingEarlier_15 (by decide) rfl ?_
          refine inner (last + 1) 0 last (by omega) (by omega) rfl (Or.inr trivial) ?_
          refine g_iload_n dX5_endStandingEarlier_51 rfl ?_
          refine g_iload_n dX5_endStandingEarlier_52 rfl ?_
          refine gmax wmath_max wlX5_52 (by decide) (by decide) (by decide) (by decide) dX5_endStandingEarlier_53 ?_
          rw [nI_max (by omega) (by omega)]
          refine g_istore_n dX5_endStandingEarlier_56 (by decide) rfl ?_
          refine g_iincN dX5_endStandingEarlier_57 rfl (by decide) rfl ?_
          refine g_goto 4 dX5_endStandingEarlier_60 (by decide) ?_
          refine G.kill 3 ?_
          exact ih (last + 1) (by omega)
    refine g_iconst (nI 0) dX5_endStandingEarlier_0 (by decide) ?_
    refine g_istore_n dX5_endStandingEarlier_1 (by decide) rfl ?_
    refine g_iconst (nI 0) dX5_endStandingEarlier_2 (by decide) ?_
    refine g_istore_n dX5_endStandingEarlier_3 (by decide) rfl ?_
    exact outer (L.length - 1) 0 (by omega)
