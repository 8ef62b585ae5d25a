/-! the grammar: comparisons, both, tests -/
theorem pSq_y {a b : PF} {s : PSt} (h : (a s).1 = true) : pSq a b s = b (a s).2 := if_pos h
theorem pSq_n {a b : PF} {s : PSt} (h : (a s).1 = false) : pSq a b s = (false, (a s).2) := if_neg (by rw [h]; decide)
theorem pTk_y {K : Nat → Nat} {c : Nat} {s : PSt} (h : K s.1 = c) : pTk K c s = (true, (s.1 + 1, s.2)) := if_pos h
theorem pTk_n {K : Nat → Nat} {c : Nat} {s : PSt} (h : ¬ K s.1 = c) : pTk K c s = (false, s) := if_neg h
theorem pSq_t {a b : PF} {s t : PSt} (h : a s = (true, t)) : pSq a b s = b t := by unfold pSq; rw [h]; rfl
theorem pSq_f {a b : PF} {s t : PSt} (h : a s = (false, t)) : pSq a b s = (false, t) := by unfold pSq; rw [h]; rfl
theorem pTk_1 {K : Nat → Nat} {c : Nat} {s : PSt} (h : (pTk K c s).1 = true) : K s.1 = c := by
  unfold pTk at h
  split at h
  · assumption
  · cases h
set_option maxRecDepth 100000 in
set_option maxHeartbeats 4000000 in
theorem m1_readTest {X : gX} {K : gKo} {g p n d dp k : Nat} {f : Nat → Int32} {b : Bool} {fP : PF} (h3 : 3 ≤ d) (hK : gCo X K) (hA : ApG g p) (hP : Pg (tkk n f) (tkl n f) fP b k) (hB : GCt X K g p n f yX1_readBoth cX1_readBoth 3 d dp fP) : GCt X K g p n f yX1_readTest cX1_readTest 3 (d + 1) dp (pCh (tkk n f) opO fP) := by
  intro h z s0 ir0 W hs0 hI0
  obtain ⟨hl1, hl2, hl3⟩ := tkl_spec n f
  refine gM.of px1 (Nat.le_of_ble_eq_true rfl) ?_
  intro F hE
  have jE : ∀ (h1 : gH) (s : PSt) (dp' : Nat) (ir : Int32) (b : Bool) (v3 : Option Value), GrI X K h1 g p n f s dp' ir W → (b = true → dp' = dp) → OffG h h1 g p → pCh (tkk n f) opO fP s0 = (b, s) → G X F cX1_readTest 3 yX1_readTest.cls (d + 1, 0, 0) 0 0 58 [some (.ref g), some (.int (b2i b)), v3] [] h1 z := by
    intro h1 s dp' ir b v3 hI hdp hO hR
    rw [hR] at hE
    refine g_iload_n dX1_readTest_58 rfl ?_
    exact g_iret hE (nrB _) ⟨rfl, rfl, ⟨dp', ir, hI, hdp⟩, hO⟩ dX1_readTest_59
  have jF : ∀ (h1 : gH) (s : PSt) (dp' : Nat) (ir : Int32) (i : Nat) (v2 : Option Value), i < 400 → GrI X K h1 g p n f s dp' ir W → OffG h h1 g p → pCh (tkk n f) opO fP s0 = (false, s) → G X F cX1_readTest 3 yX1_readTest.cls (d + 1, 0, 0) 0 0 50 [some (.ref g), v2, some (.int (nI i))] [] h1 z := by
    intro h1 s dp' ir i v2 hi hI hO hR
    refine g_iconst (nI 0) dX1_readTest_50 (by decide) ?_
    refine g_istore_n dX1_readTest_51 (by decide) rfl ?_
    refine g_iincN dX1_readTest_52 rfl (by decide) rfl ?_
    refine g_goto 7 dX1_readTest_55 (by decide) ?_
    refine g_iload_n dX1_readTest_7 rfl ?_
    refine g_sipush (nI 400) dX1_readTest_8 (by decide) ?_
    refine g_icmp_geN 58 dX1_readTest_11 (by decide) (by omega) (by omega) (fun c_11 => ?_) (fun c_11 => ?_)
    · exact jE h1 s dp' ir false _ hI (fun q => by cases q) hO hR
    · refine G.eql (lv' := [some (.ref g), some (.int (b2i false)), some (.int (nI (i + 1)))]) rfl ?_
      refine g_iload_n dX1_readTest_14 rfl ?_
      refine g_if_eqB 58 dX1_readTest_15 (by decide) (fun c_15 => ?_) (fun c_15 => ?_)
      · exact jE h1 s dp' ir false _ hI (fun q => by cases q) hO hR
      · exact absurd c_15 (by decide)
  have loop : ∀ (N i : Nat) (h1 : gH) (s : PSt) (ir : Int32), PsOk n f s → 401 ≤ N + s.1 → i ≤ s.1 → GrI X K h1 g p n f s dp ir W → OffG h h1 g p → pCh (tkk n f) opO fP s0 = pLp (tkk n f) opO fP N s → G X F cX1_readTest 3 yX1_readTest.cls (d + 1, 0, 0) 0 0 7 [some (.ref g), some (.int (b2i true)), some (.int (nI i))] [] h1 z := by
    intro N
    induction N with
    | zero => intro i h1 s ir hs hN; exact absurd hs.1 (by omega)
    | succ N ih =>
      intro i h1 s ir hs hN hi hI hO hR
      have hs1 := hs.1
      have hex : ∀ h1 : gH, GrI X K h1 g p n f s dp ir W → OffG h h1 g p → opO (tkk n f s.1) = false → G X F cX1_readTest 3 yX1_readTest.cls (d + 1, 0, 0) 0 0 58 [some (.ref g), some (.int (b2i true)), some (.int (nI i))] [] h1 z := fun h1 hI hO e => jE h1 s dp ir true _ hI (fun _ => rfl) hO (by rw [hR, pLp_no e])
      have hop : opO (tkk n f s.1) = true ↔ tkk n f s.1 = 21 := by unfold opO; simp
      have hk39 := tkk_lt n f s.1
      obtain ⟨ep, S, gg, hg, hep, hT, -⟩ := id hI
      have hn0 : ¬ tkk n f s.1 = 21 → opO (tkk n f s.1) = false := fun q => by
        cases e : opO (tkk n f s.1) with
        | false => rfl
        | true => exact absurd (hop.mp e) q
      refine g_iload_n dX1_readTest_7 rfl ?_
      refine g_sipush (nI 400) dX1_readTest_8 (by decide) ?_
      refine g_icmp_geN 58 dX1_readTest_11 (by decide) (by omega) (by omega) (fun c_11 => ?_) (fun c_11 => ?_)
      · exact hex _ hI hO (hn0 (fun q => by have e4 : s.1 = tkl n f := by omega
                                            rw [e4] at q; omega))
      · refine g_iload_n dX1_readTest_14 rfl ?_
        refine g_if_eqB 58 dX1_readTest_15 (by decide) (fun c_15 => ?_) (fun c_15 => ?_)
        · exact absurd c_15 (by decide)
        · refine g_aload_n dX1_readTest_18 rfl ?_
          refine g_gets (hK.1 21 (by decide)).1 wgX1_174 dX1_readTest_19 ?_
          refine g_callV0 kX1_63 (m1_take 21 (by decide) (by decide) hK hA hs1 hI) hg rfl rfl rfl (Nat.le_of_ble_eq_true rfl) (by decide) (by show 2 + 1 ≤ d + 1; omega) (Nat.zero_le _) (Nat.zero_le _) dX1_readTest_22 ?_
          rintro v1 h2 z1 ⟨rfl, rfl, hI2, hO2⟩
          refine g_if_eqB 58 dX1_readTest_25 (by decide) (fun c_25 => ?_) (fun c_25 => ?_)
          · have hc : ¬ tkk n f s.1 = 21 := fun q => by rw [pTk_y q] at c_25; exact Bool.noConfusion (show true = false from c_25)
            rw [pTk_n hc] at hI2
            exact hex _ hI2 (hO.trans hO2) (hn0 hc)
          · have hc := pTk_1 c_25
            rw [pTk_y hc] at hI2
            obtain ⟨fs2, hg2⟩ := hI2.gat
            obtain ⟨p1, p2, p3⟩ := PsOk.op hs hc (by decide) (by decide) hP
            have hst := pLp_yes (K := tkk n f) (f := fP) (N := N) (s := s) (hop.mpr hc)
            rw [hc] at hst
            refine g_aload_n dX1_readTest_28 rfl ?_
            refine g_callV0 kX1_171 (hB _ _ _ _ _ p1 hI2) hg2 rfl rfl rfl (Nat.le_of_ble_eq_true rfl) (by decide) (Nat.le_refl _) (Nat.zero_le _) (Nat.zero_le _) dX1_readTest_29 ?_
            rintro v1 h3 z1 ⟨rfl, rfl, ⟨dp3, ir3, hI3, hdp3⟩, hO3⟩
            obtain ⟨fs3, hg3⟩ := hI3.gat
            refine g_if_eqB 50 dX1_readTest_32 (by decide) (fun c_32 => ?_) (fun c_32 => ?_)
            · exact jF _ _ dp3 ir3 i _ (by omega) hI3 ((hO.trans hO2).trans hO3) (by rw [hR, hst, if_neg (by rw [c_32]; decide)])
            · refine g_aload_n dX1_readTest_35 rfl ?_
              refine g_gets (hK.1 21 (by decide)).1 wgX1_174 dX1_readTest_36 ?_
              refine g_iconst (nI 0) dX1_readTest_39 (by decide) ?_
              have hdp3 := hdp3 c_32
              subst hdp3
              obtain ⟨q1, q2, q3⟩ := p3 c_32
              refine g_callV0 kX1_177 (m1_put 21 0 (nI 0) (by decide) hK hA q1 (fun _ => rfl) hI3) hg3 rfl rfl rfl (Nat.le_of_ble_eq_true rfl) (by decide) (by show 1 + 1 ≤ d + 1; omega) (Nat.zero_le _) (Nat.zero_le _) dX1_readTest_40 ?_
              rintro v1 h4 z1 ⟨rfl, rfl, hI4, hO4⟩
              refine g_if_eqB 50 dX1_readTest_43 (by decide) (fun c_43 => ?_) (fun c_43 => ?_)
              · exact absurd c_43 (by decide)
              · refine g_iconst (nI 1) dX1_readTest_46 (by decide) ?_
                refine g_goto 51 dX1_readTest_47 (by decide) ?_
                refine g_istore_n dX1_readTest_51 (by decide) rfl ?_
                refine g_iincN dX1_readTest_52 rfl (by decide) rfl ?_
                refine g_goto 7 dX1_readTest_55 (by decide) ?_
                exact ih (i + 1) h4 _ ir3 q2 (by show 401 ≤ N + (fP (s.1 + 1, s.2)).2.1; omega) (by show i + 1 ≤ (fP (s.1 + 1, s.2)).2.1; omega) hI4 (((hO.trans hO2).trans hO3).trans hO4) (by rw [hR, hst, if_pos c_32])
  obtain ⟨fs, hg0⟩ := hI0.gat
  have q1 := hs0.step hP (by decide) (by decide)
  refine g_aload_n dX1_readTest_0 rfl ?_
  refine g_callV0 kX1_171 (hB _ _ _ _ _ hs0 hI0) hg0 rfl rfl rfl (Nat.le_of_ble_eq_true rfl) (by decide) (Nat.le_refl _) (Nat.zero_le _) (Nat.zero_le _) dX1_readTest_1 ?_
  rintro v1 h3 z1 ⟨rfl, rfl, ⟨dp3, ir3, hI3, hdp3⟩, hO3⟩
  refine g_istore_n dX1_readTest_4 (by decide) rfl ?_
  refine g_iconst (nI 0) dX1_readTest_5 (by decide) ?_
  refine g_istore_n dX1_readTest_6 (by decide) rfl ?_
  cases hb : (fP s0).1 with
  | true =>
    have hdp3 := hdp3 hb
    subst hdp3
    exact loop 401 0 h3 _ ir3 q1 (by omega) (Nat.zero_le _) hI3 hO3 (by show pSq _ _ s0 = _; unfold pSq; rw [if_pos hb])
  | false =>
    have hR : pCh (tkk n f) opO fP s0 = (false, (fP s0).2) := by show pSq _ _ s0 = _; unfold pSq; rw [if_neg (by rw [hb]; decide)]
    refine g_iload_n dX1_readTest_7 rfl ?_
    refine g_sipush (nI 400) dX1_readTest_8 (by decide) ?_
    refine g_icmp_geN 58 dX1_readTest_11 (by decide) (by omega) (by omega) (fun c_11 => ?_) (fun c_11 => ?_)
    · exact absurd c_11 (by omega)
    · refine g_iload_n dX1_readTest_14 rfl ?_
      refine g_if_eqB 58 dX1_readTest_15 (by decide) (fun c_15 => ?_) (fun c_15 => ?_)
      · exact jE h3 _ dp3 ir3 false _ hI3 (fun q => by cases q) hO3 hR
      · exact absurd c_15 (by decide)
set_option maxRecDepth 100000 in
set_option maxHeartbeats 4000000 in
theorem m1_readBoth {X : gX} {K : gKo} {g p n d dp k : Nat} {f : Nat → Int32} {b : Bool} {fP : PF} (h3 : 3 ≤ d) (hK : gCo X K) (hA : ApG g p) (hP : Pg (tkk n f) (tkl n f) fP b k) (hB : GCt X K g p n f yX1_readSingle cX1_readSingle 1 d dp fP) : GCt X K g p n f yX1_readBoth cX1_readBoth 3 (d + 1) dp (pCh (tkk n f) opA fP) := by
  intro h z s0 ir0 W hs0 hI0
  obtain ⟨hl1, hl2, hl3⟩ := tkl_spec n f
  refine gM.of px1 (Nat.le_of_ble_eq_true rfl) ?_
  intro F hE
  have jE : ∀ (h1 : gH) (s : PSt) (dp' : Nat) (ir : Int32) (b : Bool) (v3 : Option Value), GrI X K h1 g p n f s dp' ir W → (b = true → dp' = dp) → OffG h h1 g p → pCh (tkk n f) opA fP s0 = (b, s) → G X F cX1_readBoth 3 yX1_readBoth.cls (d + 1, 0, 0) 0 0 58 [some (.ref g), some (.int (b2i b)), v3] [] h1 z := by
    intro h1 s dp' ir b v3 hI hdp hO hR
    rw [hR] at hE
    refine g_iload_n dX1_readBoth_58 rfl ?_
    exact g_iret hE (nrB _) ⟨rfl, rfl, ⟨dp', ir, hI, hdp⟩, hO⟩ dX1_readBoth_59
  have jF : ∀ (h1 : gH) (s : PSt) (dp' : Nat) (ir : Int32) (i : Nat) (v2 : Option Value), i < 400 → GrI X K h1 g p n f s dp' ir W → OffG h h1 g p → pCh (tkk n f) opA fP s0 = (false, s) → G X F cX1_readBoth 3 yX1_readBoth.cls (d + 1, 0, 0) 0 0 50 [some (.ref g), v2, some (.int (nI i))] [] h1 z := by
    intro h1 s dp' ir i v2 hi hI hO hR
    refine g_iconst (nI 0) dX1_readBoth_50 (by decide) ?_
    refine g_istore_n dX1_readBoth_51 (by decide) rfl ?_
    refine g_iincN dX1_readBoth_52 rfl (by decide) rfl ?_
    refine g_goto 7 dX1_readBoth_55 (by decide) ?_
    refine g_iload_n dX1_readBoth_7 rfl ?_
    refine g_sipush (nI 400) dX1_readBoth_8 (by decide) ?_
    refine g_icmp_geN 58 dX1_readBoth_11 (by decide) (by omega) (by omega) (fun c_11 => ?_) (fun c_11 => ?_)
    · exact jE h1 s dp' ir false _ hI (fun q => by cases q) hO hR
    · refine G.eql (lv' := [some (.ref g), some (.int (b2i false)), some (.int (nI (i + 1)))]) rfl ?_
      refine g_iload_n dX1_readBoth_14 rfl ?_
      refine g_if_eqB 58 dX1_readBoth_15 (by decide) (fun c_15 => ?_) (fun c_15 => ?_)
      · exact jE h1 s dp' ir false _ hI (fun q => by cases q) hO hR
      · exact absurd c_15 (by decide)
  have loop : ∀ (N i : Nat) (h1 : gH) (s : PSt) (ir : Int32), PsOk n f s → 401 ≤ N + s.1 → i ≤ s.1 → GrI X K h1 g p n f s dp ir W → OffG h h1 g p → pCh (tkk n f) opA fP s0 = pLp (tkk n f) opA fP N s → G X F cX1_readBoth 3 yX1_readBoth.cls (d + 1, 0, 0) 0 0 7 [some (.ref g), some (.int (b2i true)), some (.int (nI i))] [] h1 z := by
    intro N
    induction N with
    | zero => intro i h1 s ir hs hN; exact absurd hs.1 (by omega)
    | succ N ih =>
      intro i h1 s ir hs hN hi hI hO hR
      have hs1 := hs.1
      have hex : ∀ h1 : gH, GrI X K h1 g p n f s dp ir W → OffG h h1 g p → opA (tkk n f s.1) = false → G X F cX1_readBoth 3 yX1_readBoth.cls (d + 1, 0, 0) 0 0 58 [some (.ref g), some (.int (b2i true)), some (.int (nI i))] [] h1 z := fun h1 hI hO e => jE h1 s dp ir true _ hI (fun _ => rfl) hO (by rw [hR, pLp_no e])
      have hop : opA (tkk n f s.1) = true ↔ tkk n f s.1 = 20 := by unfold opA; simp
      have hk39 := tkk_lt n f s.1
      obtain ⟨ep, S, gg, hg, hep, hT, -⟩ := id hI
      have hn0 : ¬ tkk n f s.1 = 20 → opA (tkk n f s.1) = false := fun q => by
        cases e : opA (tkk n f s.1) with
        | false => rfl
        | true => exact absurd (hop.mp e) q
      refine g_iload_n dX1_readBoth_7 rfl ?_
      refine g_sipush (nI 400) dX1_readBoth_8 (by decide) ?_
      refine g_icmp_geN 58 dX1_readBoth_11 (by decide) (by omega) (by omega) (fun c_11 => ?_) (fun c_11 => ?_)
      · exact hex _ hI hO (hn0 (fun q => by have e4 : s.1 = tkl n f := by omega
                                            rw [e4] at q; omega))
      · refine g_iload_n dX1_readBoth_14 rfl ?_
        refine g_if_eqB 58 dX1_readBoth_15 (by decide) (fun c_15 => ?_) (fun c_15 => ?_)
        · exact absurd c_15 (by decide)
        · refine g_aload_n dX1_readBoth_18 rfl ?_
          refine g_gets (hK.1 20 (by decide)).1 wgX1_184 dX1_readBoth_19 ?_
          refine g_callV0 kX1_63 (m1_take 20 (by decide) (by decide) hK hA hs1 hI) hg rfl rfl rfl (Nat.le_of_ble_eq_true rfl) (by decide) (by show 2 + 1 ≤ d + 1; omega) (Nat.zero_le _) (Nat.zero_le _) dX1_readBoth_22 ?_
          rintro v1 h2 z1 ⟨rfl, rfl, hI2, hO2⟩
          refine g_if_eqB 58 dX1_readBoth_25 (by decide) (fun c_25 => ?_) (fun c_25 => ?_)
          · have hc : ¬ tkk n f s.1 = 20 := fun q => by rw [pTk_y q] at c_25; exact Bool.noConfusion (show true = false from c_25)
            rw [pTk_n hc] at hI2
            exact hex _ hI2 (hO.trans hO2) (hn0 hc)
          · have hc := pTk_1 c_25
            rw [pTk_y hc] at hI2
            obtain ⟨fs2, hg2⟩ := hI2.gat
            obtain ⟨p1, p2, p3⟩ := PsOk.op hs hc (by decide) (by decide) hP
            have hst := pLp_yes (K := tkk n f) (f := fP) (N := N) (s := s) (hop.mpr hc)
            rw [hc] at hst
            refine g_aload_n dX1_readBoth_28 rfl ?_
            refine g_callV0 kX1_181 (hB _ _ _ _ _ p1 hI2) hg2 rfl rfl rfl (Nat.le_of_ble_eq_true rfl) (by decide) (Nat.le_refl _) (Nat.zero_le _) (Nat.zero_le _) dX1_readBoth_29 ?_
            rintro v1 h3 z1 ⟨rfl, rfl, ⟨dp3, ir3, hI3, hdp3⟩, hO3⟩
            obtain ⟨fs3, hg3⟩ := hI3.gat
            refine g_if_eqB 50 dX1_readBoth_32 (by decide) (fun c_32 => ?_) (fun c_32 => ?_)
            · exact jF _ _ dp3 ir3 i _ (by omega) hI3 ((hO.trans hO2).trans hO3) (by rw [hR, hst, if_neg (by rw [c_32]; decide)])
            · refine g_aload_n dX1_readBoth_35 rfl ?_
              refine g_gets (hK.1 20 (by decide)).1 wgX1_184 dX1_readBoth_36 ?_
              refine g_iconst (nI 0) dX1_readBoth_39 (by decide) ?_
              have hdp3 := hdp3 c_32
              subst hdp3
              obtain ⟨q1, q2, q3⟩ := p3 c_32
              refine g_callV0 kX1_177 (m1_put 20 0 (nI 0) (by decide) hK hA q1 (fun _ => rfl) hI3) hg3 rfl rfl rfl (Nat.le_of_ble_eq_true rfl) (by decide) (by show 1 + 1 ≤ d + 1; omega) (Nat.zero_le _) (Nat.zero_le _) dX1_readBoth_40 ?_
              rintro v1 h4 z1 ⟨rfl, rfl, hI4, hO4⟩
              refine g_if_eqB 50 dX1_readBoth_43 (by decide) (fun c_43 => ?_) (fun c_43 => ?_)
              · exact absurd c_43 (by decide)
              · refine g_iconst (nI 1) dX1_readBoth_46 (by decide) ?_
                refine g_goto 51 dX1_readBoth_47 (by decide) ?_
                refine g_istore_n dX1_readBoth_51 (by decide) rfl ?_
                refine g_iincN dX1_readBoth_52 rfl (by decide) rfl ?_
                refine g_goto 7 dX1_readBoth_55 (by decide) ?_
                exact ih (i + 1) h4 _ ir3 q2 (by show 401 ≤ N + (fP (s.1 + 1, s.2)).2.1; omega) (by show i + 1 ≤ (fP (s.1 + 1, s.2)).2.1; omega) hI4 (((hO.trans hO2).trans hO3).trans hO4) (by rw [hR, hst, if_pos c_32])
  obtain ⟨fs, hg0⟩ := hI0.gat
  have q1 := hs0.step hP (by decide) (by decide)
  refine g_aload_n dX1_readBoth_0 rfl ?_
  refine g_callV0 kX1_181 (hB _ _ _ _ _ hs0 hI0) hg0 rfl rfl rfl (Nat.le_of_ble_eq_true rfl) (by decide) (Nat.le_refl _) (Nat.zero_le _) (Nat.zero_le _) dX1_readBoth_1 ?_
  rintro v1 h3 z1 ⟨rfl, rfl, ⟨dp3, ir3, hI3, hdp3⟩, hO3⟩
  refine g_istore_n dX1_readBoth_4 (by decide) rfl ?_
  refine g_iconst (nI 0) dX1_readBoth_5 (by decide) ?_
  refine g_istore_n dX1_readBoth_6 (by decide) rfl ?_
  cases hb : (fP s0).1 with
  | true =>
    have hdp3 := hdp3 hb
    subst hdp3
    exact loop 401 0 h3 _ ir3 q1 (by omega) (Nat.zero_le _) hI3 hO3 (by show pSq _ _ s0 = _; unfold pSq; rw [if_pos hb])
  | false =>
    have hR : pCh (tkk n f) opA fP s0 = (false, (fP s0).2) := by show pSq _ _ s0 = _; unfold pSq; rw [if_neg (by rw [hb]; decide)]
    refine g_iload_n dX1_readBoth_7 rfl ?_
    refine g_sipush (nI 400) dX1_readBoth_8 (by decide) ?_
    refine g_icmp_geN 58 dX1_readBoth_11 (by decide) (by omega) (by omega) (fun c_11 => ?_) (fun c_11 => ?_)
    · exact absurd c_11 (by omega)
    · refine g_iload_n dX1_readBoth_14 rfl ?_
      refine g_if_eqB 58 dX1_readBoth_15 (by decide) (fun c_15 => ?_) (fun c_15 => ?_)
      · exact jE h3 _ dp3 ir3 false _ hI3 (fun q => by cases q) hO3 hR
      · exact absurd c_15 (by decide)
set_option maxRecDepth 100000 in
set_option maxHeartbeats 4000000 in
theorem m1_readComparison {X : gX} {K : gKo} {g p n d dp k : Nat} {f : Nat → Int32} {b : Bool} {u : PF} (h3 : 3 ≤ d) (hK : gCo X K) (hA : ApG g p) (hP : Pg (tkk n f) (tkl n f) u b k) (hB : GCt X K g p n f yX1_readSum cX1_readSum 4 d dp u) : GCt X K g p n f yX1_readComparison cX1_readComparison 2 (d + 1) dp (pCm (tkk n f) u) := by
  intro h z s0 ir0 W hs0 hI0
  obtain ⟨hl1, hl2, hl3⟩ := tkl_spec n f
  have p0 := hs0.step hP (by decide) (by decide)
  have hfin : ∀ (b : Bool) (h1 : gH) (s : PSt) (dp' : Nat) (ir : Int32), GrI X K h1 g p n f s dp' ir W → (b = true → dp' = dp) → OffG h h1 g p → pCm (tkk n f) u s0 = (b, s) → some (Value.int (b2i b)) = some (.int (b2i (pCm (tkk n f) u s0).1)) ∧ z = z ∧ (∃ dp' ir', GrI X K h1 g p n f (pCm (tkk n f) u s0).2 dp' ir' W ∧ ((pCm (tkk n f) u s0).1 = true → dp' = dp)) ∧ OffG h h1 g p := by
    intro b h1 s dp' ir hI hdp hO hR
    rw [hR]
    exact ⟨rfl, rfl, ⟨dp', ir, hI, hdp⟩, hO⟩
  obtain ⟨fs0, hg0⟩ := hI0.gat
  refine gM.of px1 (Nat.le_of_ble_eq_true rfl) ?_
  intro F hE
  refine g_aload_n dX1_readComparison_0 rfl ?_
  refine g_callV0 kX1_164 (hB _ _ _ _ _ hs0 hI0) hg0 rfl rfl rfl (Nat.le_of_ble_eq_true rfl) (by decide) (Nat.le_refl _) (Nat.zero_le _) (Nat.zero_le _) dX1_readComparison_1 ?_
  rintro v1 h1 z1 ⟨rfl, rfl, ⟨dp1, ir1, hI1, hdp1⟩, hO1⟩
  refine g_if_neB 9 dX1_readComparison_4 (by decide) (fun c_4 => ?_) (fun c_4 => ?_)
  · have hdp1 := hdp1 c_4
    subst hdp1
    obtain ⟨ep, S, gg, hg, hep, hT, -⟩ := id hI1
    obtain ⟨kf, S1, T1, en, hTT, -⟩ := hT
    have hk39 := tkk_lt n f (u s0).2.1
    refine g_aload_n dX1_readComparison_9 rfl ?_
    refine g_getf fl1_12 hg rfl dX1_readComparison_10 ?_
    refine g_getf fl1_41 hTT.1.1 rfl dX1_readComparison_13 ?_
    refine g_astore_n dX1_readComparison_16 (by decide) rfl ?_
    refine g_aload_n dX1_readComparison_17 rfl ?_
    refine g_callS0 kX1_218 (m1_isComparison hk39 hK) rfl rfl (Nat.le_of_ble_eq_true rfl) (by decide) (by show 0 + 1 ≤ d + 1; omega) (Nat.zero_le _) (Nat.zero_le _) dX1_readComparison_18 ?_
    rintro v1 h2 z1 ⟨rfl, rfl, rfl⟩
    refine g_if_eqB 52 dX1_readComparison_21 (by decide) (fun c_21 => ?_) (fun c_21 => ?_)
    · refine g_iconst (nI 0) dX1_readComparison_52 (by decide) ?_
      exact g_iret hE rfl (hfin false _ _ _ _ hI1 (fun q => by cases q) hO1 (by show pSq u _ s0 = _; rw [pSq_y c_4]; exact if_neg (of_decide_eq_false c_21))) dX1_readComparison_53
    · refine g_aload_n dX1_readComparison_24 rfl ?_
      refine g_aload_n dX1_readComparison_25 rfl ?_
      have hcc := of_decide_eq_true c_21
      obtain ⟨p1, p2, p3⟩ := PsOk.op p0 rfl (by omega) (by omega) hP
      refine g_callV0 kX1_63 (m1_take (tkk n f (u s0).2.1) (by omega) hk39 hK hA p0.1 hI1) hg rfl rfl rfl (Nat.le_of_ble_eq_true rfl) (by decide) (by show 2 + 1 ≤ d + 1; omega) (Nat.zero_le _) (Nat.zero_le _) dX1_readComparison_26 ?_
      rintro v1 h3 z1 ⟨rfl, rfl, hI3, hO3⟩
      rw [pTk_y rfl] at hI3 ⊢
      obtain ⟨fs3, hg3⟩ := hI3.gat
      refine g_if_eqB 52 dX1_readComparison_29 (by decide) (fun c_29 => ?_) (fun c_29 => ?_)
      · exact Bool.noConfusion (show true = false from c_29)
      · refine g_aload_n dX1_readComparison_32 rfl ?_
        refine g_callV0 kX1_164 (hB _ _ _ _ _ p1 hI3) hg3 rfl rfl rfl (Nat.le_of_ble_eq_true rfl) (by decide) (Nat.le_refl _) (Nat.zero_le _) (Nat.zero_le _) dX1_readComparison_33 ?_
        rintro v1 h4 z1 ⟨rfl, rfl, ⟨dp4, ir4, hI4, hdp4⟩, hO4⟩
        obtain ⟨fs4, hg4⟩ := hI4.gat
        refine g_if_eqB 52 dX1_readComparison_36 (by decide) (fun c_36 => ?_) (fun c_36 => ?_)
        · refine g_iconst (nI 0) dX1_readComparison_52 (by decide) ?_
          exact g_iret hE rfl (hfin false _ _ _ _ hI4 (fun q => by cases q) ((hO1.trans hO3).trans hO4) (by show pSq u _ s0 = _; rw [pSq_y c_4]; refine (if_pos hcc).trans ?_; rw [pSq_t (pTk_y rfl), pSq_n c_36])) dX1_readComparison_53
        · refine g_aload_n dX1_readComparison_39 rfl ?_
          refine g_aload_n dX1_readComparison_40 rfl ?_
          refine g_iconst (nI 0) dX1_readComparison_41 (by decide) ?_
          have hdp4 := hdp4 c_36
          subst hdp4
          obtain ⟨q1, q2, q3⟩ := p3 c_36
          refine g_callV0 kX1_177 (m1_put (tkk n f (u s0).2.1) 0 (nI 0) hk39 hK hA q1 (fun _ => by unfold xvW; rw [if_neg (by show ¬ (tkk n f (u s0).2.1 = 15 ∨ tkk n f (u s0).2.1 = 16 ∨ tkk n f (u s0).2.1 = 18); omega)]) hI4) hg4 rfl rfl rfl (Nat.le_of_ble_eq_true rfl) (by decide) (by show 1 + 1 ≤ d + 1; omega) (Nat.zero_le _) (Nat.zero_le _) dX1_readComparison_42 ?_
          rintro v1 h5 z1 ⟨rfl, rfl, hI5, hO5⟩
          refine g_if_eqB 52 dX1_readComparison_45 (by decide) (fun c_45 => ?_) (fun c_45 => ?_)
          · exact absurd c_45 (by decide)
          · refine g_iconst (nI 1) dX1_readComparison_48 (by decide) ?_
            refine g_goto 53 dX1_readComparison_49 (by decide) ?_
            exact g_iret hE rfl (hfin true _ _ _ _ hI5 (fun _ => rfl) (((hO1.trans hO3).trans hO4).trans hO5) (by show pSq u _ s0 = _; rw [pSq_y c_4]; refine (if_pos hcc).trans ?_; rw [pSq_t (pTk_y rfl), pSq_y c_36]; rfl)) dX1_readComparison_53
  · refine g_iconst (nI 0) dX1_readComparison_7 (by decide) ?_
    exact g_iret hE rfl (hfin false _ _ _ _ hI1 (fun q => by cases q) hO1 (by show pSq u _ s0 = _; rw [pSq_n c_4])) dX1_readComparison_8
