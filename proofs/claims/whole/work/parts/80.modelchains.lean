/-! the reference: chains of products, sums, tests; comparisons -/
/-- what a reading method of the reference does: the parser F -/
def RCt (X : gX) (m c pl q n : Nat) (f : Nat → Int32) (R : rEn) (y : MethodName) (cc : ByteArray) (nL d dp : Nat) (F : PF) : Prop := ∀ (h : gH) (z : Nat) (s : PSt), PsOk n f s → RcS X h m c pl q n f R s dp true → gM X y cc nL (some .boolean) (d, 0, 0) [.ref m, .ref q] h z (fun r h' z' => r = some (.int (b2i (F s).1)) ∧ z' = z ∧ RcS X h' m c pl q n f R (F s).2 dp (F s).1 ∧ OffR h h' m q) gNoX
theorem RcS.f0 {X : gX} {h : gH} {m c pl q n dp : Nat} {f : Nat → Int32} {R : rEn} {s : PSt} {b : Bool} (hR : RcS X h m c pl q n f R s dp b) (dp' : Nat) : RcS X h m c pl q n f R s dp' false := hR.f
set_option maxRecDepth 100000 in
set_option maxHeartbeats 4000000 in
theorem m12_isSum {X : gX} {m c pl q n d dp k : Nat} {f : Nat → Int32} {R : rEn} {b : Bool} {fP : PF} (h3 : 2 ≤ d) (hq : m + 25 ≤ q) (hT : RcT n f R) (hP : Pg (tkk n f) (tkl n f) fP b k) (hB : RCt X m c pl q n f R yX12_isProduct cX12_isProduct 3 d dp fP) : RCt X m c pl q n f R yX12_isSum cX12_isSum 3 (d + 1) dp (pCh (tkk n f) opS fP) := by
  intro h z s0 hs0 hR0
  obtain ⟨hl1, hl2, hl3⟩ := tkl_spec n f
  refine gM.of px12 (Nat.le_of_ble_eq_true rfl) ?_
  intro F hE
  have loop : ∀ (N : Nat) (h1 : gH) (s : PSt) (x2 : Option Value), PsOk n f s → 401 ≤ N + s.1 → RcS X h1 m c pl q n f R s dp true → OffR h h1 m q → pCh (tkk n f) opS fP s0 = pLp (tkk n f) opS fP N s → G X F cX12_isSum 3 yX12_isSum.cls (d + 1, 0, 0) 0 0 10 [some (.ref m), some (.ref q), x2] [] h1 z := by
    intro N
    induction N with
    | zero => intro h1 s x2 hs hN; exact absurd hs.1 (by omega)
    | succ N ih =>
      intro h1 s x2 hs hN hI hO hR
      have hs1 := hs.1
      obtain ⟨I, A, J, B, hM, hQ, e1, e2, e3, e4, e5, e6⟩ := id hI
      have hk := (hT s.1 hs.1).1
      rw [← e2 1 (by decide)] at hk
      have hk39 := tkk_lt n f s.1
      have hkb := kd_lt _ hk39
      have hop : opS (tkk n f s.1) = true ↔ (tkk n f s.1 = 30 ∨ tkk n f s.1 = 31) := by unfold opS; simp
      have go : opS (tkk n f s.1) = true → G X F cX12_isSum 3 yX12_isSum.cls (d + 1, 0, 0) 0 0 60 [some (.ref m), some (.ref q), some (.int (nI (rc (tkk n f s.1))))] [] h1 z := by
        intro hy
        have hc := hop.mp hy
        obtain ⟨p1, p2, p3⟩ := PsOk.op hs rfl (by omega) (by omega) hP
        have hst := pLp_yes (K := tkk n f) (f := fP) (N := N) (s := s) hy
        refine g_aload_n dX12_isSum_60 rfl ?_
        refine g_dup dX12_isSum_61 rfl ?_
        refine g_getf fl12_265 hM.1 rfl dX12_isSum_62 ?_
        rw [e5]
        refine g_iconst (nI 1) dX12_isSum_65 (by decide) ?_
        first | refine g_iaddN dX12_isSum_66 ?_ | refine g_iadd dX12_isSum_66 ?_
        refine md_put3 fl12_265 hM OffM.rf dX12_isSum_67 (fun h2 hM2 hO2 => ?_)
        have hI2 := RcS.t1 hq hM2 hO2 hQ e1 e2 e3 e4 (e6 rfl)
        refine g_aload_n dX12_isSum_70 rfl ?_
        refine g_aload_n dX12_isSum_71 rfl ?_
        refine g_callV0 kX12_310 (hB _ _ _ p1 hI2) hM2.1 rfl rfl rfl (Nat.le_of_ble_eq_true rfl) (by decide) (Nat.le_refl _) (Nat.zero_le _) (Nat.zero_le _) dX12_isSum_72 ?_
        rintro v1 h3 z1 ⟨rfl, rfl, hI3, hO3⟩
        obtain ⟨fs3, hg3⟩ := hI3.at
        refine g_if_neB 80 dX12_isSum_75 (by decide) (fun c_75 => ?_) (fun c_75 => ?_)
        · refine g_aload_n dX12_isSum_80 rfl ?_
          refine g_aload_n dX12_isSum_81 rfl ?_
          refine g_iload_n dX12_isSum_82 rfl ?_
          refine g_iconst (nI 0) dX12_isSum_83 (by decide) ?_
          rw [c_75] at hI3
          obtain ⟨q1, q2, q3⟩ := p3 c_75
          refine g_callV0 kX12_280 (m12_put (tkk n f s.1) 0 hq q1 hI3) hg3 rfl rfl rfl (Nat.le_of_ble_eq_true rfl) (by decide) (by show 0 + 1 ≤ d + 1; omega) (Nat.zero_le _) (Nat.zero_le _) dX12_isSum_84 ?_
          rintro v1 h4 z1 ⟨rfl, rfl, hI4, hO4⟩
          refine g_goto 10 dX12_isSum_87 (by decide) ?_
          exact ih h4 _ _ q2 (by show 401 ≤ N + (fP (s.1 + 1, s.2)).2.1; omega) hI4 (((hO.trans hO2.toR).trans hO3).trans hO4) (by rw [hR, hst, if_pos c_75])
        · rw [hR] at hE
          refine g_iconst (nI 0) dX12_isSum_78 (by decide) ?_
          exact g_iret hE rfl (⟨by rw [hst, c_75, if_neg (by decide)]; rfl, rfl, by rw [hst, c_75, if_neg (by decide)]; exact hI3.f0 dp, (hO.trans hO2.toR).trans hO3⟩) dX12_isSum_79
      refine g_aload_n dX12_isSum_10 rfl ?_
      refine g_getf fl12_24 hM.1 rfl dX12_isSum_11 ?_
      refine g_aload_n dX12_isSum_14 rfl ?_
      refine g_getf fl12_265 hM.1 rfl dX12_isSum_15 ?_
      rw [e5]
      refine g_ialdN (hM.2.1 1 (by decide)) (by show s.1 < 401; omega) (by decide) dX12_isSum_18 ?_
      rw [hk]
      refine g_bipush (nI 43) dX12_isSum_19 (by decide) ?_
      refine g_icmp_eqN 38 dX12_isSum_21 (by decide) (by omega) (by omega) (fun c_21 => ?_) (fun c_21 => ?_)
      · refine g_aload_n dX12_isSum_38 rfl ?_
        refine g_getf fl12_24 hM.1 rfl dX12_isSum_39 ?_
        refine g_aload_n dX12_isSum_42 rfl ?_
        refine g_getf fl12_265 hM.1 rfl dX12_isSum_43 ?_
        rw [e5]
        refine g_ialdN (hM.2.1 1 (by decide)) (by show s.1 < 401; omega) (by decide) dX12_isSum_46 ?_
        rw [hk]
        refine g_bipush (nI 43) dX12_isSum_47 (by decide) ?_
        refine g_icmp_neN 57 dX12_isSum_49 (by decide) (by omega) (by omega) (fun c_49 => ?_) (fun c_49 => ?_)
        · refine g_bipush (nI 102) dX12_isSum_57 (by decide) ?_
          refine g_istore_n dX12_isSum_59 (by decide) rfl ?_
          exact absurd c_49 (by omega)
        · refine g_bipush (nI 101) dX12_isSum_52 (by decide) ?_
          refine g_goto 59 dX12_isSum_54 (by decide) ?_
          refine g_istore_n dX12_isSum_59 (by decide) rfl ?_
          have e9 := kd_inj _ hk39 30 (by decide) (c_21.trans rfl)
          have e8 := hop.mpr (Or.inl e9)
          have hgo := go e8
          rw [e9] at hgo
          exact hgo
      · refine g_aload_n dX12_isSum_24 rfl ?_
        refine g_getf fl12_24 hM.1 rfl dX12_isSum_25 ?_
        refine g_aload_n dX12_isSum_28 rfl ?_
        refine g_getf fl12_265 hM.1 rfl dX12_isSum_29 ?_
        rw [e5]
        refine g_ialdN (hM.2.1 1 (by decide)) (by show s.1 < 401; omega) (by decide) dX12_isSum_32 ?_
        rw [hk]
        refine g_bipush (nI 45) dX12_isSum_33 (by decide) ?_
        refine g_icmp_neN 90 dX12_isSum_35 (by decide) (by omega) (by omega) (fun c_35 => ?_) (fun c_35 => ?_)
        · have hno : opS (tkk n f s.1) = false := by
            cases e : opS (tkk n f s.1) with
            | false => rfl
            | true =>
              rcases hop.mp e with e | e
              · exact absurd (show kd (tkk n f s.1) = 43 by rw [e]; rfl) c_21
              · exact absurd (show kd (tkk n f s.1) = 45 by rw [e]; rfl) (by omega)
          refine g_iconst (nI 1) dX12_isSum_90 (by decide) ?_
          exact g_iret hE rfl (⟨by rw [hR, pLp_no hno]; rfl, rfl, by rw [hR, pLp_no hno]; exact hI, hO⟩) dX12_isSum_91
        · refine g_aload_n dX12_isSum_38 rfl ?_
          refine g_getf fl12_24 hM.1 rfl dX12_isSum_39 ?_
          refine g_aload_n dX12_isSum_42 rfl ?_
          refine g_getf fl12_265 hM.1 rfl dX12_isSum_43 ?_
          rw [e5]
          refine g_ialdN (hM.2.1 1 (by decide)) (by show s.1 < 401; omega) (by decide) dX12_isSum_46 ?_
          rw [hk]
          refine g_bipush (nI 43) dX12_isSum_47 (by decide) ?_
          refine g_icmp_neN 57 dX12_isSum_49 (by decide) (by omega) (by omega) (fun c_49 => ?_) (fun c_49 => ?_)
          · refine g_bipush (nI 102) dX12_isSum_57 (by decide) ?_
            refine g_istore_n dX12_isSum_59 (by decide) rfl ?_
            have e9 := kd_inj _ hk39 31 (by decide) ((show kd (tkk n f s.1) = 45 by omega).trans rfl)
            have e8 := hop.mpr (Or.inr e9)
            have hgo := go e8
            rw [e9] at hgo
            exact hgo
          · refine g_bipush (nI 101) dX12_isSum_52 (by decide) ?_
            refine g_goto 59 dX12_isSum_54 (by decide) ?_
            refine g_istore_n dX12_isSum_59 (by decide) rfl ?_
            exact absurd c_49 (by omega)
  obtain ⟨fs, hg0⟩ := hR0.at
  have q1 := hs0.step hP (by decide) (by decide)
  refine g_aload_n dX12_isSum_0 rfl ?_
  refine g_aload_n dX12_isSum_1 rfl ?_
  refine g_callV0 kX12_310 (hB _ _ _ hs0 hR0) hg0 rfl rfl rfl (Nat.le_of_ble_eq_true rfl) (by decide) (Nat.le_refl _) (Nat.zero_le _) (Nat.zero_le _) dX12_isSum_2 ?_
  rintro v1 h3 z1 ⟨rfl, rfl, hI3, hO3⟩
  refine g_if_neB 10 dX12_isSum_5 (by decide) (fun c_5 => ?_) (fun c_5 => ?_)
  · rw [c_5] at hI3
    exact loop 401 h3 _ _ q1 (by omega) hI3 hO3 (by show pSq _ _ s0 = _; unfold pSq; rw [if_pos c_5])
  · have hR : pCh (tkk n f) opS fP s0 = (false, (fP s0).2) := by show pSq _ _ s0 = _; unfold pSq; rw [if_neg (by rw [c_5]; decide)]
    rw [c_5] at hI3
    refine g_iconst (nI 0) dX12_isSum_8 (by decide) ?_
    exact g_iret hE rfl (⟨by rw [hR]; rfl, rfl, by rw [hR]; exact hI3, hO3⟩) dX12_isSum_9
set_option maxRecDepth 100000 in
set_option maxHeartbeats 4000000 in
theorem m12_isProduct {X : gX} {m c pl q n d dp k : Nat} {f : Nat → Int32} {R : rEn} {b : Bool} {fP : PF} (h3 : 2 ≤ d) (hq : m + 25 ≤ q) (hT : RcT n f R) (hP : Pg (tkk n f) (tkl n f) fP b k) (hB : RCt X m c pl q n f R yX12_isValue cX12_isValue 3 d dp fP) : RCt X m c pl q n f R yX12_isProduct cX12_isProduct 3 (d + 1) dp (pCh (tkk n f) opT fP) := by
  intro h z s0 hs0 hR0
  obtain ⟨hl1, hl2, hl3⟩ := tkl_spec n f
  refine gM.of px12 (Nat.le_of_ble_eq_true rfl) ?_
  intro F hE
  have loop : ∀ (N : Nat) (h1 : gH) (s : PSt) (x2 : Option Value), PsOk n f s → 401 ≤ N + s.1 → RcS X h1 m c pl q n f R s dp true → OffR h h1 m q → pCh (tkk n f) opT fP s0 = pLp (tkk n f) opT fP N s → G X F cX12_isProduct 3 yX12_isProduct.cls (d + 1, 0, 0) 0 0 10 [some (.ref m), some (.ref q), x2] [] h1 z := by
    intro N
    induction N with
    | zero => intro h1 s x2 hs hN; exact absurd hs.1 (by omega)
    | succ N ih =>
      intro h1 s x2 hs hN hI hO hR
      have hs1 := hs.1
      obtain ⟨I, A, J, B, hM, hQ, e1, e2, e3, e4, e5, e6⟩ := id hI
      have hk := (hT s.1 hs.1).1
      rw [← e2 1 (by decide)] at hk
      have hk39 := tkk_lt n f s.1
      have hkb := kd_lt _ hk39
      have hop : opT (tkk n f s.1) = true ↔ (tkk n f s.1 = 32 ∨ tkk n f s.1 = 33) := by unfold opT; simp
      have go : opT (tkk n f s.1) = true → G X F cX12_isProduct 3 yX12_isProduct.cls (d + 1, 0, 0) 0 0 60 [some (.ref m), some (.ref q), some (.int (nI (rc (tkk n f s.1))))] [] h1 z := by
        intro hy
        have hc := hop.mp hy
        obtain ⟨p1, p2, p3⟩ := PsOk.op hs rfl (by omega) (by omega) hP
        have hst := pLp_yes (K := tkk n f) (f := fP) (N := N) (s := s) hy
        refine g_aload_n dX12_isProduct_60 rfl ?_
        refine g_dup dX12_isProduct_61 rfl ?_
        refine g_getf fl12_265 hM.1 rfl dX12_isProduct_62 ?_
        rw [e5]
        refine g_iconst (nI 1) dX12_isProduct_65 (by decide) ?_
        first | refine g_iaddN dX12_isProduct_66 ?_ | refine g_iadd dX12_isProduct_66 ?_
        refine md_put3 fl12_265 hM OffM.rf dX12_isProduct_67 (fun h2 hM2 hO2 => ?_)
        have hI2 := RcS.t1 hq hM2 hO2 hQ e1 e2 e3 e4 (e6 rfl)
        refine g_aload_n dX12_isProduct_70 rfl ?_
        refine g_aload_n dX12_isProduct_71 rfl ?_
        refine g_callV0 kX12_313 (hB _ _ _ p1 hI2) hM2.1 rfl rfl rfl (Nat.le_of_ble_eq_true rfl) (by decide) (Nat.le_refl _) (Nat.zero_le _) (Nat.zero_le _) dX12_isProduct_72 ?_
        rintro v1 h3 z1 ⟨rfl, rfl, hI3, hO3⟩
        obtain ⟨fs3, hg3⟩ := hI3.at
        refine g_if_neB 80 dX12_isProduct_75 (by decide) (fun c_75 => ?_) (fun c_75 => ?_)
        · refine g_aload_n dX12_isProduct_80 rfl ?_
          refine g_aload_n dX12_isProduct_81 rfl ?_
          refine g_iload_n dX12_isProduct_82 rfl ?_
          refine g_iconst (nI 0) dX12_isProduct_83 (by decide) ?_
          rw [c_75] at hI3
          obtain ⟨q1, q2, q3⟩ := p3 c_75
          refine g_callV0 kX12_280 (m12_put (tkk n f s.1) 0 hq q1 hI3) hg3 rfl rfl rfl (Nat.le_of_ble_eq_true rfl) (by decide) (by show 0 + 1 ≤ d + 1; omega) (Nat.zero_le _) (Nat.zero_le _) dX12_isProduct_84 ?_
          rintro v1 h4 z1 ⟨rfl, rfl, hI4, hO4⟩
          refine g_goto 10 dX12_isProduct_87 (by decide) ?_
          exact ih h4 _ _ q2 (by show 401 ≤ N + (fP (s.1 + 1, s.2)).2.1; omega) hI4 (((hO.trans hO2.toR).trans hO3).trans hO4) (by rw [hR, hst, if_pos c_75])
        · rw [hR] at hE
          refine g_iconst (nI 0) dX12_isProduct_78 (by decide) ?_
          exact g_iret hE rfl (⟨by rw [hst, c_75, if_neg (by decide)]; rfl, rfl, by rw [hst, c_75, if_neg (by decide)]; exact hI3.f0 dp, (hO.trans hO2.toR).trans hO3⟩) dX12_isProduct_79
      refine g_aload_n dX12_isProduct_10 rfl ?_
      refine g_getf fl12_24 hM.1 rfl dX12_isProduct_11 ?_
      refine g_aload_n dX12_isProduct_14 rfl ?_
      refine g_getf fl12_265 hM.1 rfl dX12_isProduct_15 ?_
      rw [e5]
      refine g_ialdN (hM.2.1 1 (by decide)) (by show s.1 < 401; omega) (by decide) dX12_isProduct_18 ?_
      rw [hk]
      refine g_bipush (nI 42) dX12_isProduct_19 (by decide) ?_
      refine g_icmp_eqN 38 dX12_isProduct_21 (by decide) (by omega) (by omega) (fun c_21 => ?_) (fun c_21 => ?_)
      · refine g_aload_n dX12_isProduct_38 rfl ?_
        refine g_getf fl12_24 hM.1 rfl dX12_isProduct_39 ?_
        refine g_aload_n dX12_isProduct_42 rfl ?_
        refine g_getf fl12_265 hM.1 rfl dX12_isProduct_43 ?_
        rw [e5]
        refine g_ialdN (hM.2.1 1 (by decide)) (by show s.1 < 401; omega) (by decide) dX12_isProduct_46 ?_
        rw [hk]
        refine g_bipush (nI 42) dX12_isProduct_47 (by decide) ?_
        refine g_icmp_neN 57 dX12_isProduct_49 (by decide) (by omega) (by omega) (fun c_49 => ?_) (fun c_49 => ?_)
        · refine g_bipush (nI 104) dX12_isProduct_57 (by decide) ?_
          refine g_istore_n dX12_isProduct_59 (by decide) rfl ?_
          exact absurd c_49 (by omega)
        · refine g_bipush (nI 103) dX12_isProduct_52 (by decide) ?_
          refine g_goto 59 dX12_isProduct_54 (by decide) ?_
          refine g_istore_n dX12_isProduct_59 (by decide) rfl ?_
          have e9 := kd_inj _ hk39 32 (by decide) (c_21.trans rfl)
          have e8 := hop.mpr (Or.inl e9)
          have hgo := go e8
          rw [e9] at hgo
          exact hgo
      · refine g_aload_n dX12_isProduct_24 rfl ?_
        refine g_getf fl12_24 hM.1 rfl dX12_isProduct_25 ?_
        refine g_aload_n dX12_isProduct_28 rfl ?_
        refine g_getf fl12_265 hM.1 rfl dX12_isProduct_29 ?_
        rw [e5]
        refine g_ialdN (hM.2.1 1 (by decide)) (by show s.1 < 401; omega) (by decide) dX12_isProduct_32 ?_
        rw [hk]
        refine g_bipush (nI 47) dX12_isProduct_33 (by decide) ?_
        refine g_icmp_neN 90 dX12_isProduct_35 (by decide) (by omega) (by omega) (fun c_35 => ?_) (fun c_35 => ?_)
        · have hno : opT (tkk n f s.1) = false := by
            cases e : opT (tkk n f s.1) with
            | false => rfl
            | true =>
              rcases hop.mp e with e | e
              · exact absurd (show kd (tkk n f s.1) = 42 by rw [e]; rfl) c_21
              · exact absurd (show kd (tkk n f s.1) = 47 by rw [e]; rfl) (by omega)
          refine g_iconst (nI 1) dX12_isProduct_90 (by decide) ?_
          exact g_iret hE rfl (⟨by rw [hR, pLp_no hno]; rfl, rfl, by rw [hR, pLp_no hno]; exact hI, hO⟩) dX12_isProduct_91
        · refine g_aload_n dX12_isProduct_38 rfl ?_
          refine g_getf fl12_24 hM.1 rfl dX12_isProduct_39 ?_
          refine g_aload_n dX12_isProduct_42 rfl ?_
          refine g_getf fl12_265 hM.1 rfl dX12_isProduct_43 ?_
          rw [e5]
          refine g_ialdN (hM.2.1 1 (by decide)) (by show s.1 < 401; omega) (by decide) dX12_isProduct_46 ?_
          rw [hk]
          refine g_bipush (nI 42) dX12_isProduct_47 (by decide) ?_
          refine g_icmp_neN 57 dX12_isProduct_49 (by decide) (by omega) (by omega) (fun c_49 => ?_) (fun c_49 => ?_)
          · refine g_bipush (nI 104) dX12_isProduct_57 (by decide) ?_
            refine g_istore_n dX12_isProduct_59 (by decide) rfl ?_
            have e9 := kd_inj _ hk39 33 (by decide) ((show kd (tkk n f s.1) = 47 by omega).trans rfl)
            have e8 := hop.mpr (Or.inr e9)
            have hgo := go e8
            rw [e9] at hgo
            exact hgo
          · refine g_bipush (nI 103) dX12_isProduct_52 (by decide) ?_
            refine g_goto 59 dX12_isProduct_54 (by decide) ?_
            refine g_istore_n dX12_isProduct_59 (by decide) rfl ?_
            exact absurd c_49 (by omega)
  obtain ⟨fs, hg0⟩ := hR0.at
  have q1 := hs0.step hP (by decide) (by decide)
  refine g_aload_n dX12_isProduct_0 rfl ?_
  refine g_aload_n dX12_isProduct_1 rfl ?_
  refine g_callV0 kX12_313 (hB _ _ _ hs0 hR0) hg0 rfl rfl rfl (Nat.le_of_ble_eq_true rfl) (by decide) (Nat.le_refl _) (Nat.zero_le _) (Nat.zero_le _) dX12_isProduct_2 ?_
  rintro v1 h3 z1 ⟨rfl, rfl, hI3, hO3⟩
  refine g_if_neB 10 dX12_isProduct_5 (by decide) (fun c_5 => ?_) (fun c_5 => ?_)
  · rw [c_5] at hI3
    exact loop 401 h3 _ _ q1 (by omega) hI3 hO3 (by show pSq _ _ s0 = _; unfold pSq; rw [if_pos c_5])
  · have hR : pCh (tkk n f) opT fP s0 = (false, (fP s0).2) := by show pSq _ _ s0 = _; unfold pSq; rw [if_neg (by rw [c_5]; decide)]
    rw [c_5] at hI3
    refine g_iconst (nI 0) dX12_isProduct_8 (by decide) ?_
    exact g_iret hE rfl (⟨by rw [hR]; rfl, rfl, by rw [hR]; exact hI3, hO3⟩) dX12_isProduct_9
set_option maxRecDepth 100000 in
set_option maxHeartbeats 4000000 in
theorem m12_isTest {X : gX} {m c pl q n d dp k : Nat} {f : Nat → Int32} {R : rEn} {b : Bool} {fP : PF} (h3 : 2 ≤ d) (hq : m + 25 ≤ q) (hT : RcT n f R) (hP : Pg (tkk n f) (tkl n f) fP b k) (hB : RCt X m c pl q n f R yX12_isBoth cX12_isBoth 2 d dp fP) : RCt X m c pl q n f R yX12_isTest cX12_isTest 2 (d + 1) dp (pCh (tkk n f) opO fP) := by
  intro h z s0 hs0 hR0
  obtain ⟨hl1, hl2, hl3⟩ := tkl_spec n f
  refine gM.of px12 (Nat.le_of_ble_eq_true rfl) ?_
  intro F hE
  have loop : ∀ (N : Nat) (h1 : gH) (s : PSt), PsOk n f s → 401 ≤ N + s.1 → RcS X h1 m c pl q n f R s dp true → OffR h h1 m q → pCh (tkk n f) opO fP s0 = pLp (tkk n f) opO fP N s → G X F cX12_isTest 2 yX12_isTest.cls (d + 1, 0, 0) 0 0 10 [some (.ref m), some (.ref q)] [] h1 z := by
    intro N
    induction N with
    | zero => intro h1 s hs hN; exact absurd hs.1 (by omega)
    | succ N ih =>
      intro h1 s hs hN hI hO hR
      have hs1 := hs.1
      obtain ⟨fs1, hg1⟩ := hI.at
      have hop : opO (tkk n f s.1) = true ↔ tkk n f s.1 = 21 := by unfold opO; simp
      refine g_aload_n dX12_isTest_10 rfl ?_
      refine g_bipush (nI 16) dX12_isTest_11 (by decide) ?_
      refine g_callV0 kX12_268 (m12_eat 21 (by decide) hq hT hs1 hI) hg1 rfl rfl rfl (Nat.le_of_ble_eq_true rfl) (by decide) (by show 0 + 1 ≤ d + 1; omega) (Nat.zero_le _) (Nat.zero_le _) dX12_isTest_13 ?_
      rintro v1 h2 z1 ⟨rfl, rfl, hI2, hO2⟩
      refine g_if_eqB 40 dX12_isTest_16 (by decide) (fun c_16 => ?_) (fun c_16 => ?_)
      · have hc : ¬ tkk n f s.1 = 21 := fun q => by rw [pTk_y q] at c_16; exact Bool.noConfusion (show true = false from c_16)
        have hno : opO (tkk n f s.1) = false := by
          cases e : opO (tkk n f s.1) with
          | false => rfl
          | true => exact absurd (hop.mp e) hc
        rw [pTk_n hc] at hI2
        refine g_iconst (nI 1) dX12_isTest_40 (by decide) ?_
        exact g_iret hE rfl (⟨by rw [hR, pLp_no hno]; rfl, rfl, by rw [hR, pLp_no hno]; exact hI2, hO.trans hO2⟩) dX12_isTest_41
      · have hc := pTk_1 c_16
        rw [pTk_y hc] at hI2
        obtain ⟨p1, p2, p3⟩ := PsOk.op hs hc (by decide) (by decide) hP
        have hst := pLp_yes (K := tkk n f) (f := fP) (N := N) (s := s) (hop.mpr hc)
        rw [hc] at hst
        obtain ⟨fs2, hg2⟩ := hI2.at
        refine g_aload_n dX12_isTest_19 rfl ?_
        refine g_aload_n dX12_isTest_20 rfl ?_
        refine g_callV0 kX12_284 (hB _ _ _ p1 hI2) hg2 rfl rfl rfl (Nat.le_of_ble_eq_true rfl) (by decide) (Nat.le_refl _) (Nat.zero_le _) (Nat.zero_le _) dX12_isTest_21 ?_
        rintro v1 h3 z1 ⟨rfl, rfl, hI3, hO3⟩
        obtain ⟨fs3, hg3⟩ := hI3.at
        refine g_if_neB 29 dX12_isTest_24 (by decide) (fun c_24 => ?_) (fun c_24 => ?_)
        · refine g_aload_n dX12_isTest_29 rfl ?_
          refine g_aload_n dX12_isTest_30 rfl ?_
          refine g_bipush (nI 16) dX12_isTest_31 (by decide) ?_
          refine g_iconst (nI 0) dX12_isTest_33 (by decide) ?_
          rw [c_24] at hI3
          obtain ⟨q1, q2, q3⟩ := p3 c_24
          refine g_callV0 kX12_280 (m12_put 21 0 hq q1 hI3) hg3 rfl rfl rfl (Nat.le_of_ble_eq_true rfl) (by decide) (by show 0 + 1 ≤ d + 1; omega) (Nat.zero_le _) (Nat.zero_le _) dX12_isTest_34 ?_
          rintro v1 h4 z1 ⟨rfl, rfl, hI4, hO4⟩
          refine g_goto 10 dX12_isTest_37 (by decide) ?_
          exact ih h4 _ q2 (by show 401 ≤ N + (fP (s.1 + 1, s.2)).2.1; omega) hI4 (((hO.trans hO2).trans hO3).trans hO4) (by rw [hR, hst, if_pos c_24])
        · refine g_iconst (nI 0) dX12_isTest_27 (by decide) ?_
          exact g_iret hE rfl (⟨by rw [hR, hst, c_24, if_neg (by decide)]; rfl, rfl, by rw [hR, hst, c_24, if_neg (by decide)]; exact hI3.f0 dp, (hO.trans hO2).trans hO3⟩) dX12_isTest_28
  obtain ⟨fs, hg0⟩ := hR0.at
  have q1 := hs0.step hP (by decide) (by decide)
  refine g_aload_n dX12_isTest_0 rfl ?_
  refine g_aload_n dX12_isTest_1 rfl ?_
  refine g_callV0 kX12_284 (hB _ _ _ hs0 hR0) hg0 rfl rfl rfl (Nat.le_of_ble_eq_true rfl) (by decide) (Nat.le_refl _) (Nat.zero_le _) (Nat.zero_le _) dX12_isTest_2 ?_
  rintro v1 h3 z1 ⟨rfl, rfl, hI3, hO3⟩
  refine g_if_neB 10 dX12_isTest_5 (by decide) (fun c_5 => ?_) (fun c_5 => ?_)
  · rw [c_5] at hI3
    exact loop 401 h3 _ q1 (by omega) hI3 hO3 (by show pSq _ _ s0 = _; unfold pSq; rw [if_pos c_5])
  · have hR : pCh (tkk n f) opO fP s0 = (false, (fP s0).2) := by show pSq _ _ s0 = _; unfold pSq; rw [if_neg (by rw [c_5]; decide)]
    rw [c_5] at hI3
    refine g_iconst (nI 0) dX12_isTest_8 (by decide) ?_
    exact g_iret hE rfl (⟨by rw [hR]; rfl, rfl, by rw [hR]; exact hI3, hO3⟩) dX12_isTest_9
set_option maxRecDepth 100000 in
set_option maxHeartbeats 4000000 in
theorem m12_isBoth {X : gX} {m c pl q n d dp k : Nat} {f : Nat → Int32} {R : rEn} {b : Bool} {fP : PF} (h3 : 2 ≤ d) (hq : m + 25 ≤ q) (hT : RcT n f R) (hP : Pg (tkk n f) (tkl n f) fP b k) (hB : RCt X m c pl q n f R yX12_isSingle cX12_isSingle 3 d dp fP) : RCt X m c pl q n f R yX12_isBoth cX12_isBoth 2 (d + 1) dp (pCh (tkk n f) opA fP) := by
  intro h z s0 hs0 hR0
  obtain ⟨hl1, hl2, hl3⟩ := tkl_spec n f
  refine gM.of px12 (Nat.le_of_ble_eq_true rfl) ?_
  intro F hE
  have loop : ∀ (N : Nat) (h1 : gH) (s : PSt), PsOk n f s → 401 ≤ N + s.1 → RcS X h1 m c pl q n f R s dp true → OffR h h1 m q → pCh (tkk n f) opA fP s0 = pLp (tkk n f) opA fP N s → G X F cX12_isBoth 2 yX12_isBoth.cls (d + 1, 0, 0) 0 0 10 [some (.ref m), some (.ref q)] [] h1 z := by
    intro N
    induction N with
    | zero => intro h1 s hs hN; exact absurd hs.1 (by omega)
    | succ N ih =>
      intro h1 s hs hN hI hO hR
      have hs1 := hs.1
      obtain ⟨fs1, hg1⟩ := hI.at
      have hop : opA (tkk n f s.1) = true ↔ tkk n f s.1 = 20 := by unfold opA; simp
      refine g_aload_n dX12_isBoth_10 rfl ?_
      refine g_bipush (nI 15) dX12_isBoth_11 (by decide) ?_
      refine g_callV0 kX12_268 (m12_eat 20 (by decide) hq hT hs1 hI) hg1 rfl rfl rfl (Nat.le_of_ble_eq_true rfl) (by decide) (by show 0 + 1 ≤ d + 1; omega) (Nat.zero_le _) (Nat.zero_le _) dX12_isBoth_13 ?_
      rintro v1 h2 z1 ⟨rfl, rfl, hI2, hO2⟩
      refine g_if_eqB 40 dX12_isBoth_16 (by decide) (fun c_16 => ?_) (fun c_16 => ?_)
      · have hc : ¬ tkk n f s.1 = 20 := fun q => by rw [pTk_y q] at c_16; exact Bool.noConfusion (show true = false from c_16)
        have hno : opA (tkk n f s.1) = false := by
          cases e : opA (tkk n f s.1) with
          | false => rfl
          | true => exact absurd (hop.mp e) hc
        rw [pTk_n hc] at hI2
        refine g_iconst (nI 1) dX12_isBoth_40 (by decide) ?_
        exact g_iret hE rfl (⟨by rw [hR, pLp_no hno]; rfl, rfl, by rw [hR, pLp_no hno]; exact hI2, hO.trans hO2⟩) dX12_isBoth_41
      · have hc := pTk_1 c_16
        rw [pTk_y hc] at hI2
        obtain ⟨p1, p2, p3⟩ := PsOk.op hs hc (by decide) (by decide) hP
        have hst := pLp_yes (K := tkk n f) (f := fP) (N := N) (s := s) (hop.mpr hc)
        rw [hc] at hst
        obtain ⟨fs2, hg2⟩ := hI2.at
        refine g_aload_n dX12_isBoth_19 rfl ?_
        refine g_aload_n dX12_isBoth_20 rfl ?_
        refine g_callV0 kX12_288 (hB _ _ _ p1 hI2) hg2 rfl rfl rfl (Nat.le_of_ble_eq_true rfl) (by decide) (Nat.le_refl _) (Nat.zero_le _) (Nat.zero_le _) dX12_isBoth_21 ?_
        rintro v1 h3 z1 ⟨rfl, rfl, hI3, hO3⟩
        obtain ⟨fs3, hg3⟩ := hI3.at
        refine g_if_neB 29 dX12_isBoth_24 (by decide) (fun c_24 => ?_) (fun c_24 => ?_)
        · refine g_aload_n dX12_isBoth_29 rfl ?_
          refine g_aload_n dX12_isBoth_30 rfl ?_
          refine g_bipush (nI 15) dX12_isBoth_31 (by decide) ?_
          refine g_iconst (nI 0) dX12_isBoth_33 (by decide) ?_
          rw [c_24] at hI3
          obtain ⟨q1, q2, q3⟩ := p3 c_24
          refine g_callV0 kX12_280 (m12_put 20 0 hq q1 hI3) hg3 rfl rfl rfl (Nat.le_of_ble_eq_true rfl) (by decide) (by show 0 + 1 ≤ d + 1; omega) (Nat.zero_le _) (Nat.zero_le _) dX12_isBoth_34 ?_
          rintro v1 h4 z1 ⟨rfl, rfl, hI4, hO4⟩
          refine g_goto 10 dX12_isBoth_37 (by decide) ?_
          exact ih h4 _ q2 (by show 401 ≤ N + (fP (s.1 + 1, s.2)).2.1; omega) hI4 (((hO.trans hO2).trans hO3).trans hO4) (by rw [hR, hst, if_pos c_24])
        · refine g_iconst (nI 0) dX12_isBoth_27 (by decide) ?_
          exact g_iret hE rfl (⟨by rw [hR, hst, c_24, if_neg (by decide)]; rfl, rfl, by rw [hR, hst, c_24, if_neg (by decide)]; exact hI3.f0 dp, (hO.trans hO2).trans hO3⟩) dX12_isBoth_28
  obtain ⟨fs, hg0⟩ := hR0.at
  have q1 := hs0.step hP (by decide) (by decide)
  refine g_aload_n dX12_isBoth_0 rfl ?_
  refine g_aload_n dX12_isBoth_1 rfl ?_
  refine g_callV0 kX12_288 (hB _ _ _ hs0 hR0) hg0 rfl rfl rfl (Nat.le_of_ble_eq_true rfl) (by decide) (Nat.le_refl _) (Nat.zero_le _) (Nat.zero_le _) dX12_isBoth_2 ?_
  rintro v1 h3 z1 ⟨rfl, rfl, hI3, hO3⟩
  refine g_if_neB 10 dX12_isBoth_5 (by decide) (fun c_5 => ?_) (fun c_5 => ?_)
  · rw [c_5] at hI3
    exact loop 401 h3 _ q1 (by omega) hI3 hO3 (by show pSq _ _ s0 = _; unfold pSq; rw [if_pos c_5])
  · have hR : pCh (tkk n f) opA fP s0 = (false, (fP s0).2) := by show pSq _ _ s0 = _; unfold pSq; rw [if_neg (by rw [c_5]; decide)]
    rw [c_5] at hI3
    refine g_iconst (nI 0) dX12_isBoth_8 (by decide) ?_
    exact g_iret hE rfl (⟨by rw [hR]; rfl, rfl, by rw [hR]; exact hI3, hO3⟩) dX12_isBoth_9
set_option maxRecDepth 100000 in
set_option maxHeartbeats 4000000 in
theorem m12_isCompare {X : gX} {m c pl q n d dp k : Nat} {f : Nat → Int32} {R : rEn} {b : Bool} {u : PF} (hq : m + 25 ≤ q) (hT : RcT n f R) (hP : Pg (tkk n f) (tkl n f) u b k) (hB : RCt X m c pl q n f R yX12_isSum cX12_isSum 3 d dp u) : RCt X m c pl q n f R yX12_isCompare cX12_isCompare 4 (d + 1) dp (pCm (tkk n f) u) := by
  intro h z s0 hs0 hR0
  obtain ⟨hl1, hl2, hl3⟩ := tkl_spec n f
  have p0 := hs0.step hP (by decide) (by decide)
  obtain ⟨fs, hg0⟩ := hR0.at
  refine gM.of px12 (Nat.le_of_ble_eq_true rfl) ?_
  intro F hE
  have go : ∀ (h1 : gH) (x2 : Int32), (u s0).1 = true → 34 ≤ tkk n f (u s0).2.1 → tkk n f (u s0).2.1 ≤ 38 → RcS X h1 m c pl q n f R (u s0).2 dp true → OffR h h1 m q → G X F cX12_isCompare 4 yX12_isCompare.cls (d + 1, 0, 0) 0 0 78 [some (.ref m), some (.ref q), some (.int x2), none] [.int (nI (rc (tkk n f (u s0).2.1)))] h1 z := by
    intro h1 x2 hb hc1 hc2 hI hO
    have hk39 := tkk_lt n f (u s0).2.1
    have hrb : rc (tkk n f (u s0).2.1) = tkk n f (u s0).2.1 + 72 := by unfold rc; rw [if_neg (by omega), if_neg (by omega), if_neg (by omega), if_neg (by omega)]
    obtain ⟨p1, p2, p3⟩ := PsOk.op p0 rfl (by omega) (by omega) hP
    have hF : pCm (tkk n f) u s0 = pSq u (pPt (tkk n f (u s0).2.1) 0) ((u s0).2.1 + 1, (u s0).2.2) := by
      show pSq u _ s0 = _
      rw [pSq_y hb]
      refine (if_pos ⟨hc1, hc2⟩).trans ?_
      rw [pSq_t (pTk_y rfl)]
    obtain ⟨I, A, J, B, hM, hQ, e1, e2, e3, e4, e5, e6⟩ := id hI
    refine g_istore_n dX12_isCompare_78 (by decide) rfl ?_
    refine g_iload_n dX12_isCompare_79 rfl ?_
    refine g_iconst (-1) dX12_isCompare_80 (by decide) ?_
    refine g_icmp_ne 86 dX12_isCompare_81 (by decide) (fun c_81 => ?_) (fun c_81 => ?_)
    · refine g_aload_n dX12_isCompare_86 rfl ?_
      refine g_dup dX12_isCompare_87 rfl ?_
      refine g_getf fl12_265 hM.1 rfl dX12_isCompare_88 ?_
      rw [e5]
      refine g_iconst (nI 1) dX12_isCompare_91 (by decide) ?_
      first | refine g_iaddN dX12_isCompare_92 ?_ | refine g_iadd dX12_isCompare_92 ?_
      refine md_put3 fl12_265 hM OffM.rf dX12_isCompare_93 (fun h2 hM2 hO2 => ?_)
      have hI2 := RcS.t1 hq hM2 hO2 hQ e1 e2 e3 e4 (e6 rfl)
      refine g_aload_n dX12_isCompare_96 rfl ?_
      refine g_aload_n dX12_isCompare_97 rfl ?_
      refine g_callV0 kX12_307 (hB _ _ _ p1 hI2) hM2.1 rfl rfl rfl (Nat.le_of_ble_eq_true rfl) (by decide) (Nat.le_refl _) (Nat.zero_le _) (Nat.zero_le _) dX12_isCompare_98 ?_
      rintro v1 h3 z1 ⟨rfl, rfl, hI3, hO3⟩
      obtain ⟨fs3, hg3⟩ := hI3.at
      refine g_if_neB 106 dX12_isCompare_101 (by decide) (fun c_101 => ?_) (fun c_101 => ?_)
      · refine g_aload_n dX12_isCompare_106 rfl ?_
        refine g_aload_n dX12_isCompare_107 rfl ?_
        refine g_iload_n dX12_isCompare_108 rfl ?_
        refine g_iconst (nI 0) dX12_isCompare_109 (by decide) ?_
        rw [c_101] at hI3
        obtain ⟨q1, q2, q3⟩ := p3 c_101
        refine g_callV0 kX12_280 (m12_put (tkk n f (u s0).2.1) 0 hq q1 hI3) hg3 rfl rfl rfl (Nat.le_of_ble_eq_true rfl) (by decide) (by show 0 + 1 ≤ d + 1; omega) (Nat.zero_le _) (Nat.zero_le _) dX12_isCompare_110 ?_
        rintro v1 h4 z1 ⟨rfl, rfl, hI4, hO4⟩
        refine g_iconst (nI 1) dX12_isCompare_113 (by decide) ?_
        exact g_iret hE rfl (⟨by rw [hF, pSq_y c_101]; rfl, rfl, by rw [hF, pSq_y c_101]; exact hI4, ((hO.trans hO2.toR).trans hO3).trans hO4⟩) dX12_isCompare_114
      · refine g_iconst (nI 0) dX12_isCompare_104 (by decide) ?_
        exact g_iret hE rfl (⟨by rw [hF, pSq_n c_101]; rfl, rfl, by rw [hF, pSq_n c_101]; exact hI3.f0 dp, (hO.trans hO2.toR).trans hO3⟩) dX12_isCompare_105
    · exact absurd ((nI_toInt (show rc (tkk n f (u s0).2.1) < 2 ^ 31 by omega)).symm.trans (congrArg Int32.toInt c_81)) (by show ¬ ((rc (tkk n f (u s0).2.1) : Nat) : Int) = -1; omega)
  refine g_aload_n dX12_isCompare_0 rfl ?_
  refine g_aload_n dX12_isCompare_1 rfl ?_
  refine g_callV0 kX12_307 (hB _ _ _ hs0 hR0) hg0 rfl rfl rfl (Nat.le_of_ble_eq_true rfl) (by decide) (Nat.le_refl _) (Nat.zero_le _) (Nat.zero_le _) dX12_isCompare_2 ?_
  rintro v1 h1 z1 ⟨rfl, rfl, hI, hO⟩
  refine g_if_neB 10 dX12_isCompare_5 (by decide) (fun c_5 => ?_) (fun c_5 => ?_)
  · rw [c_5] at hI
    obtain ⟨I, A, J, B, hM, hQ, e1, e2, e3, e4, e5, e6⟩ := id hI
    have hk := (hT (u s0).2.1 p0.1).1
    rw [← e2 1 (by decide)] at hk
    have hk39 := tkk_lt n f (u s0).2.1
    have hkb := kd_lt _ hk39
    have hs1 := p0.1
    refine g_aload_n dX12_isCompare_10 rfl ?_
    refine g_getf fl12_24 hM.1 rfl dX12_isCompare_11 ?_
    refine g_aload_n dX12_isCompare_14 rfl ?_
    refine g_getf fl12_265 hM.1 rfl dX12_isCompare_15 ?_
    rw [e5]
    refine g_ialdN (hM.2.1 1 (by decide)) (by show (u s0).2.1 < 401; omega) (by decide) dX12_isCompare_18 ?_
    rw [hk]
    refine g_istore_n dX12_isCompare_19 (by decide) rfl ?_
    refine g_iload_n dX12_isCompare_20 rfl ?_
    refine g_bipush (nI 60) dX12_isCompare_21 (by decide) ?_
    refine g_icmp_neN 31 dX12_isCompare_23 (by decide) (by omega) (by omega) (fun c_23 => ?_) (fun c_23 => ?_)
    · refine g_iload_n dX12_isCompare_31 rfl ?_
      refine g_bipush (nI 62) dX12_isCompare_32 (by decide) ?_
      refine g_icmp_neN 42 dX12_isCompare_34 (by decide) (by omega) (by omega) (fun c_34 => ?_) (fun c_34 => ?_)
      · refine g_iload_n dX12_isCompare_42 rfl ?_
        refine g_bipush (nI 61) dX12_isCompare_43 (by decide) ?_
        refine g_icmp_neN 53 dX12_isCompare_45 (by decide) (by omega) (by omega) (fun c_45 => ?_) (fun c_45 => ?_)
        · refine g_iload_n dX12_isCompare_53 rfl ?_
          refine g_sipush (nI 316) dX12_isCompare_54 (by decide) ?_
          refine g_icmp_neN 65 dX12_isCompare_57 (by decide) (by omega) (by omega) (fun c_57 => ?_) (fun c_57 => ?_)
          · refine g_iload_n dX12_isCompare_65 rfl ?_
            refine g_sipush (nI 318) dX12_isCompare_66 (by decide) ?_
            refine g_icmp_neN 77 dX12_isCompare_69 (by decide) (by omega) (by omega) (fun c_69 => ?_) (fun c_69 => ?_)
            · refine g_iconst (-1) dX12_isCompare_77 (by decide) ?_
              have hno : ¬ (34 ≤ tkk n f (u s0).2.1 ∧ tkk n f (u s0).2.1 ≤ 38) := fun q => by
                rcases (show tkk n f (u s0).2.1 = 34 ∨ tkk n f (u s0).2.1 = 35 ∨ tkk n f (u s0).2.1 = 36 ∨ tkk n f (u s0).2.1 = 37 ∨ tkk n f (u s0).2.1 = 38 by omega) with e | e | e | e | e <;> rw [e] at c_23 c_34 c_45 c_57 c_69
                · exact c_23 rfl
                · exact c_34 rfl
                · exact c_45 rfl
                · exact c_57 rfl
                · exact c_69 rfl
              have hF : pCm (tkk n f) u s0 = (false, (u s0).2) := by show pSq u _ s0 = _; rw [pSq_y c_5]; exact if_neg hno
              refine g_istore_n dX12_isCompare_78 (by decide) rfl ?_
              refine g_iload_n dX12_isCompare_79 rfl ?_
              refine g_iconst (-1) dX12_isCompare_80 (by decide) ?_
              refine g_icmp_ne 86 dX12_isCompare_81 (by decide) (fun q => absurd rfl q) (fun _ => ?_)
              refine g_iconst (nI 0) dX12_isCompare_84 (by decide) ?_
              exact g_iret hE rfl (⟨by rw [hF]; rfl, rfl, by rw [hF]; exact hI.f0 dp, hO⟩) dX12_isCompare_85
            · refine g_bipush (nI 110) dX12_isCompare_72 (by decide) ?_
              refine g_goto 78 dX12_isCompare_74 (by decide) ?_
              have e9 := kd_inj _ hk39 38 (by decide) ((show kd _ = 318 by omega).trans rfl)
              have hgo := go h1 (nI (kd (tkk n f (u s0).2.1))) c_5 (by omega) (by omega) hI hO
              rw [show rc (tkk n f (u s0).2.1) = rc 38 by rw [e9]] at hgo
              exact hgo
          · refine g_bipush (nI 109) dX12_isCompare_60 (by decide) ?_
            refine g_goto 78 dX12_isCompare_62 (by decide) ?_
            have e9 := kd_inj _ hk39 37 (by decide) ((show kd _ = 316 by omega).trans rfl)
            have hgo := go h1 (nI (kd (tkk n f (u s0).2.1))) c_5 (by omega) (by omega) hI hO
            rw [show rc (tkk n f (u s0).2.1) = rc 37 by rw [e9]] at hgo
            exact hgo
        · refine g_bipush (nI 108) dX12_isCompare_48 (by decide) ?_
          refine g_goto 78 dX12_isCompare_50 (by decide) ?_
          have e9 := kd_inj _ hk39 36 (by decide) ((show kd _ = 61 by omega).trans rfl)
          have hgo := go h1 (nI (kd (tkk n f (u s0).2.1))) c_5 (by omega) (by omega) hI hO
          rw [show rc (tkk n f (u s0).2.1) = rc 36 by rw [e9]] at hgo
          exact hgo
      · refine g_bipush (nI 107) dX12_isCompare_37 (by decide) ?_
        refine g_goto 78 dX12_isCompare_39 (by decide) ?_
        have e9 := kd_inj _ hk39 35 (by decide) ((show kd _ = 62 by omega).trans rfl)
        have hgo := go h1 (nI (kd (tkk n f (u s0).2.1))) c_5 (by omega) (by omega) hI hO
        rw [show rc (tkk n f (u s0).2.1) = rc 35 by rw [e9]] at hgo
        exact hgo
    · refine g_bipush (nI 106) dX12_isCompare_26 (by decide) ?_
      refine g_goto 78 dX12_isCompare_28 (by decide) ?_
      have e9 := kd_inj _ hk39 34 (by decide) ((show kd _ = 60 by omega).trans rfl)
      have hgo := go h1 (nI (kd (tkk n f (u s0).2.1))) c_5 (by omega) (by omega) hI hO
      rw [show rc (tkk n f (u s0).2.1) = rc 34 by rw [e9]] at hgo
      exact hgo
  · rw [c_5] at hI
    refine g_iconst (nI 0) dX12_isCompare_8 (by decide) ?_
    exact g_iret hE rfl (⟨by rw [show pCm (tkk n f) u s0 = (false, (u s0).2) from pSq_n c_5]; rfl, rfl, by rw [show pCm (tkk n f) u s0 = (false, (u s0).2) from pSq_n c_5]; exact hI, hO⟩) dX12_isCompare_9
