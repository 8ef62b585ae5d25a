/-! the reference: chains of products, sums, tests; comparisons -/
/-- what a reading method of the reference does: the parser F -/
def RCt (X : gX) (m c pl q n : Nat) (f : Nat → Int32) (R : rEn) (y : MethodName) (cc : ByteArray) (nL d dp : Nat) (F : PF) : Prop := ∀ (h : gH) (z : Nat) (s : PSt), PsOk n f s → RcS X h m c pl q n f R s dp true → gM X y cc nL (some .boolean) (d, 0, 0) [.ref m, .ref q] h z (fun r h' z' => r = some (.int (b2i (F s).1)) ∧ z' = z ∧ RcS X h' m c pl q n f R (F s).2 dp (F s).1 ∧ OffR h h' m q) gNoX
theorem RcS.f0 {X : gX} {h : gH} {m c pl q n dp : Nat} {f : Nat → Int32} {R : rEn} {s : PSt} {b : Bool} (hR : RcS X h m c pl q n f R s dp b) (dp' : Nat) : RcS X h m c pl q n f R s dp' false := hR.f
set_option maxRecDepth 100000 in
set_option maxHeartbeats 4000000 in
theorem m12_isSum {X : gX} {m c pl q n d dp k : Nat} {f : Nat → Int32} {R : rEn} {b : Bool} {fP : PF} (h3 : 2 ≤ d) (hq : m + 25 ≤ q) (hT : RcT n f R) (hP : Pg (tkk n f) (tkl n f) fP b k) (hB : RCt X m c pl q n f R yX12_isProduct cX12_isProduct 3 d dp fP) : RCt X m c pl q n f R yX12_isSum cX12_isSum 3 (d + 1) dp (pCh (tkk n f) opS fP) := by
  intro h z s0 hs0 hR0
  obtain ⟨hl1, hl2, hl3⟩ := tkl_spec n f
  refine gM.of px12 (Nat.le_of_ble_eq_true rfl) ?_
  intro F hE
  have loop : ∀ (N : Nat) (h1 : gH) (s : PSt) (x2 : Option Value), PsOk n f s → 401 ≤ N + s.1 → RcS X h1 m c pl q n f R s dp true → OffR h h1 m q → pCh (tkk n f) opS fP s0 = pLp (tkk n f) opS fP N s → G X F cX12_isSum 3 yX12_isSum.cls (d + 1, 0, 0) 0 0 10 [some (.ref m), some (.ref q), x2] [] h1 z := by
    intro N
    induction N with
    | zero => intro h1 s x2 hs hN; exact absurd hs.1 (by omega)
    | succ N ih =>
      intro h1 s x2 hs hN hI hO hR
      have hs1 := hs.1
      obtain ⟨I, A, J, B, hM, hQ, e1, e2, e3, e4, e5, e6⟩ := id hI
      have hk := (hT s.1 hs.1).1
      rw [← e2 1 (by decide)] at hk
      have hk39 := tkk_lt n f s.1
      have hkb := kd_lt _ hk39
      have hop : opS (tkk n f s.1) = true ↔ (tkk n f s.1 = 30 ∨ tkk n f s.1 = 31) := by unfold opS; simp
      have go : opS (tkk n f s.1) = true → G X F cX12_isSum 3 yX12_isSum.cls (d + 1, 0, 0) 0 0 60 [some (.ref m), some (.ref q), some (.int (nI (rc (tkk n f s.1))))] [] h1 z := by
        intro hy
        have hc := hop.mp hy
        obtain ⟨p1, p2, p3⟩ := PsOk.op hs rfl (by omega) (by omega) hP
        have hst := pLp_yes (K := tkk n f) (f := fP) (N := N) (s := s) hy
        refine g_aload_n dX12_isSum_60 rfl ?_
        refine g_dup dX12_isSum_61 rfl ?_
        refine g_getf fl12_265 hM.1 rfl dX12_isSum_62 ?_
        rw [e5]
        refine g_iconst (nI 1) dX12_isSum_65 (by decide) ?_
        first | refine g_iaddN dX12_isSum_66 ?_ | refine g_iadd dX12_isSum_66 ?_
        refine md_put3 fl12_265 hM OffM.rf dX12_isSum_67 (fun h2 hM2 hO2 => ?_)
        have hI2 := RcS.t1 hq hM2 hO2 hQ e1 e2 e3 e4 (e6 rfl)
        refine g_aload_n dX12_isSum_70 rfl ?_
        refine g_aload_n dX12_isSum_71 rfl ?_
        refine g_callV0 kX12_310 (hB _ _ _ p1 hI2) hM2.1 rfl rfl rfl (Nat.le_of_ble_eq_true rfl) (by decide) (Nat.le_refl _) (Nat.zero_le _) (Nat.zero_le _) dX12_isSum_72 ?_
        rintro v1 h3 z1 ⟨rfl, rfl, hI3, hO3⟩
        obtain ⟨fs3, hg3⟩ := hI3.at
        refine g_if_neB 80 dX12_isSum_75 (by decide) (fun c_75 => ?_) (fun c_75 => ?_)
        · refine g_aload_n dX12_isSum_80 rfl ?_
          refine g_aload_n dX12_isSum_81 rfl ?_
          refine g_iload_n dX12_isSum_82 rfl ?_
          refine g_iconst (nI 0) dX12_isSum_83 (by decide) ?_
          rw [c_75] at hI3
          obtain ⟨q1, q2, q3⟩ := p3 c_75
          refine g_callV0 kX12_280 (m12_put (tkk n f s.1) 0 hq q1 hI3) hg3 rfl rfl rfl (Nat.le_of_ble_eq_true rfl) (by decide) (by show 0 + 1 ≤ d + 1; omega) (Nat.zero_le _) (Nat.zero_le _) dX12_isSum_84 ?_
          rintro v1 h4 z1 ⟨rfl, rfl, hI4, hO4⟩
          refine g_goto 10 dX12_isSum_87 (by decide) ?_
          exact ih h4 _ _ q2 (by show 401 ≤ N + (fP (s.1 + 1, s.2)).2.1; omega) hI4 (((hO.trans hO2.toR).trans hO3).trans hO4) (by rw [hR, hst, if_pos c_75])
        · rw [hR] at hE
          refine g_iconst (nI 0) dX12_isSum_78 (by decide) ?_
          exact g_iret hE rfl (⟨by rw [hst, c_75, if_neg (by decide)]; rfl, rfl, by rw [hst, c_75, if_neg (by decide)]; exact hI3.f0 dp, (hO.trans hO2.toR).trans hO3⟩) dX12_isSum_79
      refine g_aload_n dX12_isSum_10 rfl ?_
      refine g_getf fl12_24 hM.1 rfl dX12_isSum_11 ?_
      refine g_aload_n dX12_isSum_14 rfl ?_
      refine g_getf fl12_265 hM.1 rfl dX12_isSum_15 ?_
      rw [e5]
      refine g_ialdN (hM.2.1 1 (by decide)) (by show s.1 < 401; omega) (by decide) dX12_isSum_18 ?_
      rw [hk]
      refine g_bipush (nI 43) dX12_isSum_19 (by decide) ?_
      refine g_icmp_eqN 38 dX12_isSum_21 (by decide) (by omega) (by omega) (fun c_21 => ?_) (fun c_21 => ?_)
      · refine g_aload_n dX12_isSum_38 rfl ?_
        refine g_getf fl12_24 hM.1 rfl dX12_isSum_39 ?_
        refine g_aload_n dX12_isSum_42 rfl ?_
        refine g_getf fl12_265 hM.1 rfl dX12_isSum_43 ?_
        rw [e5]
        refine g_ialdN (hM.2.1 1 (by decide)) (by show s.1 < 401; omega) (by decide) dX12_isSum_46 ?_
        rw [hk]
        refine g_bipush (nI 43) dX12_isSum_47 (by decide) ?_
        refine g_icmp_neN 57 dX12_isSum_49 (by decide) (by omega) (by omega) (fun c_49 => ?_) (fun c_49 => ?_)
        · refine g_bipush (nI 102) dX12_isSum_57 (by decide) ?_
          refine g_istore_n dX12_isSum_59 (by decide) rfl ?_
          exact absurd c_49 (by omega)
        · refine g_bipush (nI 101) dX12_isSum_52 (by decide) ?_
          refine g_goto 59 dX12_isSum_54 (by decide) ?_
          refine g_istore_n dX12_isSum_59 (by decide) rfl ?_
          have e9 := kd_inj _ hk39 30 (by decide) (c_21.trans rfl)
          have e8 := hop.mpr (Or.inl e9)
          have hgo := go e8
          rw [e9] at hgo
          exact hgo
      · refine g_aload_n dX12_isSum_24 rfl ?_
        refine g_getf fl12_24 hM.1 rfl dX12_isSum_25 ?_
        refine g_aload_n dX12_isSum_28 rfl ?_
        refine g_getf fl12_265 hM.1 rfl dX12_isSum_29 ?_
        rw [e5]
        refine g_ialdN (hM.2.1 1 (by decide)) (by show s.1 < 401; omega) (by decide) dX12_isSum_32 ?_
        rw [hk]
        refine g_bipush (nI 45) dX12_isSum_33 (by decide) ?_
        refine g_icmp_neN 90 dX12_isSum_35 (by decide) (by omega) (by omega) (fun c_35 => ?_) (fun c_35 => ?_)
        · have hno : opS (tkk n f s.1) = false := by
            cases e : opS (tkk n f s.1) with
            | false => rfl
            | true =>
              rcases hop.mp e with e | e
              · exact absurd (show kd (tkk n f s.1) = 43 by rw [e]; rfl) c_21
              · exact absurd (show kd (tkk n f s.1) = 45 by rw [e]; rfl) (by omega)
          refine g_iconst (nI 1) dX12_isSum_90 (by decide) ?_
          exact g_iret hE rfl (⟨by rw [hR, pLp_no hno]; rfl, rfl, by rw [hR, pLp_no hno]; exact hI, hO⟩) dX12_isSum_91
        · refine g_aload_n dX12_isSum_38 rfl ?_
          refine g_getf fl12_24 hM.1 rfl dX12_isSum_39 ?_
          refine g_aload_n dX12_isSum_42 rfl ?_
          refine g_getf fl12_265 hM.1 rfl dX12_isSum_43 ?_
          rw [e5]
          refine g_ialdN (hM.2.1 1 (by decide)) (by show s.1 < 401; omega) (by decide) dX12_isSum_46 ?_
          rw [hk]
          refine g_bipush (nI 43) dX12_isSum_47 (by decide) ?_
          refine g_icmp_neN 57 dX12_isSum_49 (by decide) (by omega) (by omega) (fun c_49 => ?_) (fun c_49 => ?_)
          · refine g_bipush (nI 102) dX12_isSum_57 (by decide) ?_
            refine g_istore_n dX12_isSum_59 (by decide) rfl ?_
            have e9 := kd_inj _ hk39 31 (by decide) ((show kd (tkk n f s.1) = 45 by omega).trans rfl)
            have e8 := hop.mpr (Or.inr e9)
            have hgo := go e8
            rw [e9] at hgo
            exact hgo
          · refine g_bipush (nI 101) dX12_isSum_52 (by decide) ?_
            refine g_goto 59 dX12_isSum_54 (by decide) ?_
            refine g_istore_n dX12_isSum_59 (by decide) rfl ?_
            exact absurd c_49 (by omega)
  obtain ⟨fs, hg0⟩ := hR0.at
  have q1 := hs0.step hP (by decide) (by decide)
  refine g_aload_n dX12_isSum_0 rfl ?_
  refine g_aload_n dX12_isSum_1 rfl ?_
  refine g_callV0 kX12_310 (hB _ _ _ hs0 hR0) hg0 rfl rfl rfl (Nat.le_of_ble_eq_true rfl) (by decide) (Nat.le_refl _) (Nat.zero_le _) (Nat.zero_le _) dX12_isSum_2 ?_
  rintro v1 h3 z1 ⟨rfl, rfl, hI3, hO3⟩
  refine g_if_neB 10 dX12_isSum_5 (by decide) (fun c_5 => ?_) (fun c_5 => ?_)
  · rw [c_5] at hI3
    exact loop 401 h3 _ _ q1 (by omega) hI3 hO3 (by show pSq _ _ s0 = _; unfold pSq; rw [if_pos c_5])
  · have hR : pCh (tkk n f) opS fP s0 = (false, (fP s0).2) := by show pSq _ _ s0 = _; unfold pSq; rw [if_neg (by rw [c_5]; decide)]
    rw [c_5] at hI3
    refine g_iconst (nI 0) dX12_isSum_8 (by decide) ?_
    exact g_iret hE rfl (⟨by rw [hR]; rfl, rfl, by rw [hR]; exact hI3, hO3⟩) dX12_isSum_9
set_option maxRecDepth 100000 in
set_option maxHeartbeats 4000000 in
theorem m12_isProduct {X : gX} {m c pl q n d dp k : Nat} {f : Nat → Int32} {R : rEn} {b : Bool} {fP : PF} (h3 : 2 ≤ d) (hq : m + 25 ≤ q) (hT : RcT n f R) (hP : Pg (tkk n f) (tkl n f) fP b k) (hB : RCt X m c pl q n f R yX12_isValue cX12_isValue 3 d dp fP) : RCt X m c pl q n f R yX12_isProduct cX12_isProduct 3 (d + 1) dp (pCh (tkk n f) opT fP) := by
  intro h z s0 hs0 hR0
  obtain ⟨hl1, hl2, hl3⟩ := tkl_spec n f
  refine gM.of px12 (Nat.le_of_ble_eq_true rfl) ?_
  intro F hE
  have loop : ∀ (N : Nat) (h1 : gH) (s : PSt) (x2 : Option Value), PsOk n f s → 401 ≤ N + s.1 → RcS X h1 m c pl q n f R s dp true → OffR h h1 m q → pCh (tkk n f) opT fP s0 = pLp (tkk n f) opT fP N s → G X F cX12_isProduct 3 yX12_isProduct.cls (d + 1, 0, 0) 0 0 10 [some (.ref m), some (.ref q), x2] [] h1 z := by
    intro N
    induction N with
    | zero => intro h1 s x2 hs hN; exact absurd hs.1 (by omega)
    | succ N ih =>
      intro h1 s x2 hs hN hI hO hR
      have hs1 := hs.1
      obtain ⟨I, A, J, B, hM, hQ, e1, e2, e3, e4, e5, e6⟩ := id hI
      have hk := (hT s.1 hs.1).1
      rw [← e2 1 (by decide)] at hk
      have hk39 := tkk_lt n f s.1
      have hkb := kd_lt _ hk39
      have hop : opT (tkk n f s.1) = true ↔ (tkk n f s.1 = 32 ∨ tkk n f s.1 = 33) := by unfold opT; simp
      have go : opT (tkk n f s.1) = true → G X F cX12_isProduct 3 yX12_isProduct.cls (d + 1, 0, 0) 0 0 60 [some (.ref m), some (.ref q), some (.int (nI (rc (tkk n f s.1))))] [] h1 z := by
        intro hy
        have hc := hop.mp hy
        obtain ⟨p1, p2, p3⟩ := PsOk.op hs rfl (by omega) (by omega) hP
        have hst := pLp_yes (K := tkk n f) (f := fP) (N := N) (s := s) hy
        refine g_aload_n dX12_isProduct_60 rfl ?_
        refine g_dup dX12_isProduct_61 rfl ?_
        refine g_getf fl12_265 hM.1 rfl dX12_isProduct_62 ?_
        rw [e5]
        refine g_iconst (nI 1) dX12_isProduct_65 (by decide) ?_
        first | refine g_iaddN dX12_isProduct_66 ?_ | refine g_iadd dX12_isProduct_66 ?_
        refine md_put3 fl12_265 hM OffM.rf dX12_isProduct_67 (fun h2 hM2 hO2 => ?_)
        have hI2 := RcS.t1 hq hM2 hO2 hQ e1 e2 e3 e4 (e6 rfl)
        refine g_aload_n dX12_isProduct_70 rfl ?_
        refine g_aload_n dX12_isProduct_71 rfl ?_
        refine g_callV0 kX12_313 (hB _ _ _ p1 hI2) hM2.1 rfl rfl rfl (Nat.le_of_ble_eq_true rfl) (by decide) (Nat.le_refl _) (Nat.zero_le _) (Nat.zero_le _) dX12_isProduct_72 ?_
        rintro v1 h3 z1 ⟨rfl, rfl, hI3, hO3⟩
        obtain ⟨fs3, hg3⟩ := hI3.at
        refine g_if_neB 80 dX12_isProduct_75 (by decide) (fun c_75 => ?_) (fun c_75 => ?_)
        · refine g_aload_n dX12_isProduct_80 rfl ?_
          refine g_aload_n dX12_isProduct_81 rfl ?_
          refine g_iload_n dX12_isProduct_82 rfl ?_
          refine g_iconst (nI 0) dX12_isProduct_83 (by decide) ?_
          rw [c_75] at hI3
          obtain ⟨q1, q2, q3⟩ := p3 c_75
          refine g_callV0 kX12_280 (m12_put (tkk n f s.1) 0 hq q1 hI3) hg3 rfl rfl rfl (Nat.le_of_ble_eq_true rfl) (by decide) (by show 0 + 1 ≤ d + 1; omega) (Nat.zero_le _) (Nat.zero_le _) dX12_isProduct_84 ?_
          rintro v1 h4 z1 ⟨rfl, rfl, hI4, hO4⟩
          refine g_goto 10 dX12_isProduct_87 (by decide) ?_
          exact ih h4 _ _ q2 (by show 401 ≤ N + (fP (s.1 + 1, s.2)).2.1; omega) hI4 (((hO.trans hO2.toR).trans hO3).trans hO4) (by rw [hR, hst, if_pos c_75])
        · rw [hR] at hE
          refine g_iconst (nI 0) dX12_isProduct_78 (by decide) ?_
          exact g_iret hE rfl (⟨by rw [hst, c_75, if_neg (by decide)]; rfl, rfl, by rw [hst, c_75, if_neg (by decide)]; exact hI3.f0 dp, (hO.trans hO2.toR).trans hO3⟩) dX12_isProduct_79
      refine g_aload_n dX12_isProduct_10 rfl ?_
      refine g_getf fl12_24 hM.1 rfl dX12_isProduct_11 ?_
      refine g_aload_n dX12_isProduct_14 rfl ?_
      refine g_getf fl12_265 hM.1 rfl dX12_isProduct_15 ?_
      rw [e5]
      refine g_ialdN (hM.2.1 1 (by decide)) (by show s.1 < 401; omega) (by decide) dX12_isProduct_18 ?_
      rw [hk]
      refine g_bipush (nI 42) dX12_isProduct_19 (by decide) ?_
      refine g_icmp_eqN 38 dX12_isProduct_21 (by decide) (by omega) (by omega) (fun c_21 => ?_) (fun c_21 => ?_)
      · refine g_aload_n dX12_isProduct_38 rfl ?_
        refine g_getf fl12_24 hM.1 rfl dX12_isProduct_39 ?_
        refine g_aload_n dX12_isProduct_42 rfl ?_
        refine g_getf fl12_265 hM.1 rfl dX12_isProduct_43 ?_
        rw [e5]
        refine g_ialdN (hM.2.1 1 (by decide)) (by show s.1 < 401; omega) (by decide) dX12_isProduct_46 ?_
        rw [hk]
        refine g_bipush (nI 42) dX12_isProduct_47 (by decide) ?_
        refine g_icmp_neN 57 dX12_isProduct_49 (by decide) (by omega) (by omega) (fun c_49 => ?_) (fun c_49 => ?_)
        · refine g_bipush (nI 104) dX12_isProduct_57 (by decide) ?_
          refine g_istore_n dX12_isProduct_59 (by decide) rfl ?_
          exact absurd c_49 (by omega)
        · refine g_bipush (nI 103) dX12_isProduct_52 (by decide) ?_
          refine g_goto 59 dX12_isProduct_54 (by decide) ?_
          refine g_istore_n dX12_isProduct_59 (by decide) rfl ?_
          have e9 := kd_inj _ hk39 32 (by decide) (c_21.trans rfl)
          have e8 := hop.mpr (Or.inl e9)
          have hgo := go e8
          rw [e9] at hgo
          exact hgo
      · refine g_aload_n dX12_isProduct_24 rfl ?_
        refine g_getf fl12_24 hM.1 rfl dX12_isProduct_25 ?_
        refine g_aload_n dX12_isProduct_28 rfl ?_
        refine g_getf fl12_265 hM.1 rfl dX12_isProduct_29 ?_
        rw [e5]
        refine g_ialdN (hM.2.1 1 (by decide)) (by show s.1 < 401; omega) (by decide) dX12_isProduct_32 ?_
        rw [hk]
        refine g_bipush (nI 47) dX12_isProduct_33 (by decide) ?_
        refine g_icmp_neN 90 dX12_isProduct_35 (by decide) (by omega) (by omega) (fun c_35 => ?_) (fun c_35 => ?_)
        · have hno : opT (tkk n f s.1) = false := by
            cases e : opT (tkk n f s.1) with
            | false => rfl
            | true =>
              rcases hop.mp e with e | e
              · exact absurd (show kd (tkk n f s.1) = 42 by rw [e]; rfl) c_21
              · exact absurd (show kd (tkk n f s.1) = 47 by rw [e]; rfl) (by omega)
          refine g_iconst (nI 1) dX12_isProduct_90 (by decide) ?_
          exact g_iret hE rfl (⟨by rw [hR, pLp_no hno]; rfl, rfl, by rw [hR, pLp_no hno]; exact hI, hO⟩) dX12_isProduct_91
        · refine g_aload_n dX12_isProduct_38 rfl ?_
          refine g_getf fl12_24 hM.1 rfl dX12_isProduct_39 ?_
          refine g_aload_n dX12_isProduct_42 rfl ?_
          refine g_getf fl12_265 hM.1 rfl dX12_isProduct_43 ?_
          rw [e5]
          refine g_ialdN (hM.2.1 1 (by decide)) (by show s.1 < 401; omega) (by decide) dX12_isProduct_46 ?_
          rw [hk]
          refine g_bipush (nI 42) dX12_isProduct_47 (by decide) ?_
          refine g_icmp_neN 57 dX12_isProduct_49 (by decide) (by omega) (by omega) (fun c_49 => ?_) (fun c_49 => ?_)
          · refine g_bipush (nI 104) dX12_isProduct_57 (by decide) ?_
            refine g_istore_n dX12_isProduct_59 (by decide) rfl ?_
            have e9 := kd_inj _ hk39 33 (by decide) ((show kd (tkk n f s.1) = 47 by omega).trans rfl)
            have e8 := hop.mpr (Or.inr e9)
            have hgo := go e8
            rw [e9] at hgo
            exact hgo
          · refine g_bipush (nI 103) dX12_isProduct_52 (by decide) ?_
            refine g_goto 59 dX12_isProduct_54 (by decide) ?_
            refine g_istore_n dX12_isProduct_59 (by decide) rfl ?_
            exact absurd c_49 (by omega)
  obtain ⟨fs, hg0⟩ := hR0.at
  have q1 := hs0.step hP (by decide) (by decide)
  refine g_aload_n dX12_isProduct_0 rfl ?_
  refine g_aload_n dX12_isProduct_1 rfl ?_
  refine g_callV0 kX12_313 (hB _ _ _ hs0 hR0) hg0 rfl rfl rfl (Nat.le_of_ble_eq_true rfl) (by decide) (Nat.le_refl _) (Nat.zero_le _) (Nat.zero_le _) dX12_isProduct_2 ?_
  rintro v1 h3 z1 ⟨rfl, rfl, hI3, hO3⟩
  refine g_if_neB 10 dX12_isProduct_5 (by decide) (fun c_5 => ?_) (fun c_5 => ?_)
  · rw [c_5] at hI3
    exact loop 401 h3 _ _ q1 (by omega) hI3 hO3 (by show pSq _ _ s0 = _; unfold pSq; rw [if_pos c_5])
  · have hR : pCh (tkk n f) opT fP s0 = (false, (fP s0).2) := by show pSq _ _ s0 = _; unfold pSq; rw [if_neg (by rw [c_5]; decide)]
    rw [c_5] at hI3
    refine g_iconst (nI 0) dX12_isProduct_8 (by decide) ?_
    exact g_iret hE rfl (⟨by rw [hR]; rfl, rfl, by rw [hR]; exact hI3, hO3⟩) dX12_isProduct_9
