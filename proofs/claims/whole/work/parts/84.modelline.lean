/-! the reference: a line, the book -/
theorem kd_act : ∀ t, t < 39 → ((1 ≤ kd t ∧ kd t ≤ 4) ↔ (6 ≤ t ∧ t ≤ 9)) := by decide
theorem pLn_len (K nu : Nat → Nat) (s : PLt) : (pLn K nu s).2.2.length ≤ s.2.length + 1 := by
  unfold pLn
  split
  · exact Nat.le_succ _
  · split
    · rw [pOr_eq]
      split
      · split
        · show (s.2 ++ [_]).length ≤ _; rw [List.length_append]; exact Nat.le_refl _
        · exact Nat.le_succ _
      · exact Nat.le_succ _
    · exact Nat.le_succ _
theorem RsR.trans {R R' R'' : rEn} (h : RsR R R') (g : RsR R' R'') : RsR R R'' := ⟨fun j a => (g.1 j a).trans (h.1 j a), g.2.1.trans h.2.1, g.2.2.1.trans h.2.2.1, g.2.2.2.1.trans h.2.2.2.1, fun k a b c d => (g.2.2.2.2.1 k a b c d).trans (h.2.2.2.2.1 k a b c d), g.2.2.2.2.2.trans h.2.2.2.2.2⟩
theorem RbS.re {X : gX} {h : gH} {m c pl q n : Nat} {f : Nat → Int32} {R R1 : rEn} {s : PLt} {b : Bool} (h1 : RsR R R1) (g : RbS X h m c pl q n f R1 s b) : RbS X h m c pl q n f R s b := by
  obtain ⟨R2, a1, a2, a3⟩ := g
  exact ⟨R2, h1.trans a1, a2, a3⟩
set_option maxRecDepth 100000 in
set_option maxHeartbeats 4000000 in
theorem m12_isLine {X : gX} {h : gH} {z m c pl q n : Nat} {f : Nat → Int32} {R : rEn} {s : PLt} (hq : m + 25 ≤ q) (hT : RcT n f R) (hs : PsOk n f s.1) (hL : s.2.length ≤ 400) (hR : RbS X h m c pl q n f R s true) : gM X yX12_isLine cX12_isLine 2 (some .boolean) (44, 0, 0) [.ref m, .ref q] h z (fun r h' z' => r = some (.int (b2i (pLn (tkk n f) (tku n f) s).1)) ∧ z' = z ∧ RbS X h' m c pl q n f R (pLn (tkk n f) (tku n f) s).2 (pLn (tkk n f) (tku n f) s).1 ∧ OffR h h' m q) gNoX := by
  obtain ⟨hl1, hl2, hl3⟩ := tkl_spec n f
  obtain ⟨R1, hRR, hI, hO⟩ := hR
  have hT1 := hRR.T hT
  have hO := hO rfl
  obtain ⟨fs, hg⟩ := hI.at
  have hs1 := hs.1
  have hk39 := tkk_lt n f s.1.1
  have hkb := kd_lt _ hk39
  refine gM.of px12 (Nat.le_of_ble_eq_true rfl) ?_
  intro F hE
  refine g_aload_n dX12_isLine_0 rfl ?_
  refine g_iconst (nI 0) dX12_isLine_1 (by decide) ?_
  refine g_callV0 kX12_268 (m12_eat 5 (by decide) hq hT1 hs.1 hI) hg rfl rfl rfl (Nat.le_of_ble_eq_true rfl) (by decide) (by decide) (Nat.zero_le _) (Nat.zero_le _) dX12_isLine_2 ?_
  rintro v1 h2 z1 ⟨rfl, rfl, hI2, hO2⟩
  obtain ⟨fs2, hg2⟩ := hI2.at
  refine g_if_eqB 16 dX12_isLine_5 (by decide) (fun c_5 => ?_) (fun c_5 => ?_)
  · have hk : ¬ tkk n f s.1.1 = 5 := fun e => by rw [pTk_y e] at c_5; cases c_5
    rw [pTk_n hk] at hI2
    obtain ⟨I, A, J, B, hM, hQ, e1, e2, e3, e4, e5, e6⟩ := id hI2
    have hk1 : A 1 s.1.1 = nI (kd (tkk n f s.1.1)) := by rw [e2 1 (by decide)]; exact (hT1 s.1.1 hs.1).1
    have hF : pLn (tkk n f) (tku n f) s = pOd (tkk n f) (tku n f) s := pLn_od hk
    rw [hF] at hE
    refine g_aload_n dX12_isLine_16 rfl ?_
    refine g_getf fl12_24 hM.1 rfl dX12_isLine_17 ?_
    refine g_aload_n dX12_isLine_20 rfl ?_
    refine g_getf fl12_265 hM.1 rfl dX12_isLine_21 ?_
    rw [e5]
    refine g_ialdN (hM.2.1 1 (by decide)) (by show s.1.1 < 401; omega) (by decide) dX12_isLine_24 ?_
    rw [hk1]
    refine g_iconst (nI 1) dX12_isLine_25 (by decide) ?_
    refine g_iconst (nI 4) dX12_isLine_26 (by decide) ?_
    refine g_callS0 kX12_64 (m12_isIn (nI (kd (tkk n f s.1.1))) (nI 1) (nI 4)) rfl rfl (Nat.le_of_ble_eq_true rfl) (by decide) (by decide) (Nat.zero_le _) (Nat.zero_le _) dX12_isLine_27 ?_
    rintro v1 h2 z1 ⟨rfl, rfl, rfl⟩
    have hdd : decide (nI 1 ≤ nI (kd (tkk n f s.1.1)) ∧ nI (kd (tkk n f s.1.1)) ≤ nI 4) = decide (6 ≤ tkk n f s.1.1 ∧ tkk n f s.1.1 ≤ 9) := by
      rw [decide_eq_decide, nI_leI (by omega) (by omega), nI_leI (by omega) (by omega)]
      exact kd_act _ hk39
    rw [hdd]
    refine g_if_eqB 45 dX12_isLine_30 (by decide) (fun c_30 => ?_) (fun c_30 => ?_)
    · refine g_iconst (nI 0) dX12_isLine_45 (by decide) ?_
      exact g_iret hE rfl (⟨by rw [show pOd (tkk n f) (tku n f) s = (false, s) from if_neg (of_decide_eq_false c_30)]; rfl, rfl, by rw [show pOd (tkk n f) (tku n f) s = (false, s) from if_neg (of_decide_eq_false c_30)]; exact ⟨R1, hRR, hI2.f0 0, fun w => by cases w⟩, hO2⟩) dX12_isLine_46
    · refine g_aload_n dX12_isLine_33 rfl ?_
      refine g_aload_n dX12_isLine_34 rfl ?_
      have ha := of_decide_eq_true c_30
      have hF2 : pOd (tkk n f) (tku n f) s = pOr (tkk n f) (tku n f) s := if_pos ha
      rw [hF2] at hE
      refine g_callV0 kX12_323 (m12_isOrder hq hT1 ha hs hL hI2 hO) hM.1 rfl rfl rfl (Nat.le_of_ble_eq_true rfl) (by decide) (by decide) (Nat.zero_le _) (Nat.zero_le _) dX12_isLine_35 ?_
      rintro v1 h3 z1 ⟨rfl, rfl, hI3, hO3⟩
      refine g_if_eqB 45 dX12_isLine_38 (by decide) (fun c_38 => ?_) (fun c_38 => ?_)
      · refine g_iconst (nI 0) dX12_isLine_45 (by decide) ?_
        exact g_iret hE rfl (⟨by rw [c_38]; rfl, rfl, hI3.re hRR, hO2.trans hO3⟩) dX12_isLine_46
      · refine g_iconst (nI 1) dX12_isLine_41 (by decide) ?_
        refine g_goto 46 dX12_isLine_42 (by decide) ?_
        exact g_iret hE rfl (⟨by rw [c_38]; rfl, rfl, hI3.re hRR, hO2.trans hO3⟩) dX12_isLine_46
  · have hk := pTk_1 c_5
    rw [pTk_y hk] at hI2
    have p1 := hs.step (Ps.tk hl2 (c := 5) (by decide)) (by decide) (by decide)
    rw [pTk_y hk] at p1
    have hF : pLn (tkk n f) (tku n f) s = ((pNm (tkk n f) 1 (s.1.1 + 1, s.1.2)).1, ((pNm (tkk n f) 1 (s.1.1 + 1, s.1.2)).2, s.2)) := if_pos hk
    rw [hF] at hE
    refine g_aload_n dX12_isLine_8 rfl ?_
    refine g_bipush (nI 30) dX12_isLine_9 (by decide) ?_
    refine g_iconst (nI 1) dX12_isLine_11 (by decide) ?_
    refine g_callV0 kX12_277 (m12_eatAs 1 hq hT1 p1.1 p1.vlt hI2) hg2 rfl rfl rfl (Nat.le_of_ble_eq_true rfl) (by decide) (by decide) (Nat.zero_le _) (Nat.zero_le _) dX12_isLine_12 ?_
    rintro v1 h3 z1 ⟨rfl, rfl, hI3, hO3⟩
    exact g_iret hE (nrB _) ⟨rfl, rfl, ⟨R1, hRR, hI3, fun _ => hO⟩, hO2.trans hO3⟩ dX12_isLine_15
set_option maxRecDepth 100000 in
set_option maxHeartbeats 4000000 in
theorem m12_isBook {X : gX} {h : gH} {z m c pl q n : Nat} {f : Nat → Int32} {R : rEn} (hq : m + 25 ≤ q) (hT : RcT n f R) (hR : RbS X h m c pl q n f R ((0, [], []), []) true) : gM X yX12_isBook cX12_isBook 2 (some .boolean) (45, 0, 0) [.ref m, .ref q] h z (fun r h' z' => r = some (.int (b2i (bkR n f).1)) ∧ z' = z ∧ RbS X h' m c pl q n f R (bkR n f).2 (bkR n f).1 ∧ OffR h h' m q) gNoX := by
  obtain ⟨hl1, hl2, hl3⟩ := tkl_spec n f
  refine gM.of px12 (Nat.le_of_ble_eq_true rfl) ?_
  intro F hE
  have loop : ∀ (N : Nat) (h1 : gH) (s : PLt), 401 ≤ N + s.1.1 → s.2.length ≤ s.1.1 → BkOk n f s → RbS X h1 m c pl q n f R s true → OffR h h1 m q → bkR n f = pBk (tkk n f) (tku n f) N s → G X F cX12_isBook 2 yX12_isBook.cls (45, 0, 0) 0 0 0 [some (.ref m), some (.ref q)] [] h1 z := by
    intro N
    induction N with
    | zero => intro h1 s hN _ hB; exact absurd hB.1.1 (by omega)
    | succ N ih =>
      intro h1 s hN hL hB hR hO1 hF
      have hs := hB.1
      have hs1 := hs.1
      have hR' := hR
      obtain ⟨l1, l2, l3⟩ := pLn_ok hB
      obtain ⟨R1, hRR, hI, hO⟩ := hR
      have hT1 := hRR.T hT
      obtain ⟨I, A, J, B, hM, hQ, e1, e2, e3, e4, e5, e6⟩ := id hI
      have hk1 : A 1 s.1.1 = nI (kd (tkk n f s.1.1)) := by rw [e2 1 (by decide)]; exact (hT1 s.1.1 hs.1).1
      have hk39 := tkk_lt n f s.1.1
      have hkb := kd_lt _ hk39
      have hpb : pBk (tkk n f) (tku n f) (N + 1) s = (if tkk n f s.1.1 = 1 then (true, s) else if (pLn (tkk n f) (tku n f) s).1 = true then (if tkk n f (pLn (tkk n f) (tku n f) s).2.1.1 = 28 then pBk (tkk n f) (tku n f) N (((pLn (tkk n f) (tku n f) s).2.1.1 + 1, (pLn (tkk n f) (tku n f) s).2.1.2), (pLn (tkk n f) (tku n f) s).2.2) else (false, (pLn (tkk n f) (tku n f) s).2)) else (false, (pLn (tkk n f) (tku n f) s).2)) := rfl
      rw [hpb] at hF
      refine g_aload_n dX12_isBook_0 rfl ?_
      refine g_getf fl12_24 hM.1 rfl dX12_isBook_1 ?_
      refine g_aload_n dX12_isBook_4 rfl ?_
      refine g_getf fl12_265 hM.1 rfl dX12_isBook_5 ?_
      rw [e5]
      refine g_ialdN (hM.2.1 1 (by decide)) (by show s.1.1 < 401; omega) (by decide) dX12_isBook_8 ?_
      rw [hk1]
      refine g_bipush (nI 33) dX12_isBook_9 (by decide) ?_
      refine g_icmp_eqN 33 dX12_isBook_11 (by decide) (by omega) (by omega) (fun c_11 => ?_) (fun c_11 => ?_)
      · refine g_iconst (nI 1) dX12_isBook_33 (by decide) ?_
        exact g_iret hE rfl (⟨by rw [hF, if_pos (kd_inj _ hk39 1 (by decide) (c_11.trans rfl))]; rfl, rfl, by rw [hF, if_pos (kd_inj _ hk39 1 (by decide) (c_11.trans rfl))]; exact hR', hO1⟩) dX12_isBook_34
      · refine g_aload_n dX12_isBook_14 rfl ?_
        refine g_aload_n dX12_isBook_15 rfl ?_
        have hk : ¬ tkk n f s.1.1 = 1 := fun e => c_11 (by rw [e]; rfl)
        rw [if_neg hk] at hF
        refine g_callV0 kX12_326 (m12_isLine hq hT hs (by omega) hR') hM.1 rfl rfl rfl (Nat.le_of_ble_eq_true rfl) (by decide) (by decide) (Nat.zero_le _) (Nat.zero_le _) dX12_isBook_16 ?_
        rintro v1 h2 z1 ⟨rfl, rfl, hR2, hO2⟩
        refine g_if_eqB 31 dX12_isBook_19 (by decide) (fun c_19 => ?_) (fun c_19 => ?_)
        · refine g_iconst (nI 0) dX12_isBook_31 (by decide) ?_
          exact g_iret hE rfl (⟨by rw [hF, if_neg (by rw [c_19]; decide)]; rfl, rfl, by rw [hF, if_neg (by rw [c_19]; decide)]; rw [c_19] at hR2; exact hR2, hO1.trans hO2⟩) dX12_isBook_32
        · refine g_aload_n dX12_isBook_22 rfl ?_
          refine g_bipush (nI 59) dX12_isBook_23 (by decide) ?_
          rw [c_19] at hR2
          rw [if_pos c_19] at hF
          obtain ⟨b1, b2⟩ := l3 c_19
          obtain ⟨R2, hRR2, hI2, hO22⟩ := hR2
          have hT2 := hRR2.T hT
          obtain ⟨fs2, hg2⟩ := hI2.at
          refine g_callV0 kX12_268 (m12_eat 28 (by decide) hq hT2 l1.1 hI2) hg2 rfl rfl rfl (Nat.le_of_ble_eq_true rfl) (by decide) (by decide) (Nat.zero_le _) (Nat.zero_le _) dX12_isBook_25 ?_
          rintro v1 h3 z1 ⟨rfl, rfl, hI3, hO3⟩
          refine g_if_neB 0 dX12_isBook_28 (by decide) (fun c_28 => ?_) (fun c_28 => ?_)
          · have hk28 := pTk_1 c_28
            rw [pTk_y hk28] at hI3
            rw [if_pos hk28] at hF
            have p3 := PsOk.step l1 (Ps.tk hl2 (c := 28) (by decide)) (by decide) (by decide)
            rw [pTk_y hk28] at p3
            have hln := pLn_len (tkk n f) (tku n f) s
            exact ih h3 (((pLn (tkk n f) (tku n f) s).2.1.1 + 1, (pLn (tkk n f) (tku n f) s).2.1.2), (pLn (tkk n f) (tku n f) s).2.2) (by show 401 ≤ N + ((pLn (tkk n f) (tku n f) s).2.1.1 + 1); omega) (by show (pLn (tkk n f) (tku n f) s).2.2.length ≤ (pLn (tkk n f) (tku n f) s).2.1.1 + 1; omega) ⟨p3, b1.2.1, b1.2.2⟩ ⟨R2, hRR2, hI3, hO22⟩ ((hO1.trans hO2).trans hO3) hF
          · refine g_iconst (nI 0) dX12_isBook_31 (by decide) ?_
            exact g_iret hE rfl (⟨by rw [hF, if_neg (show ¬ tkk n f (pLn (tkk n f) (tku n f) s).2.1.1 = 28 from fun e => by rw [pTk_y e] at c_28; cases c_28)]; rfl, rfl, by rw [hF, if_neg (show ¬ tkk n f (pLn (tkk n f) (tku n f) s).2.1.1 = 28 from fun e => by rw [pTk_y e] at c_28; cases c_28)]; rw [pTk_n (show ¬ tkk n f (pLn (tkk n f) (tku n f) s).2.1.1 = 28 from fun e => by rw [pTk_y e] at c_28; cases c_28)] at hI3; exact ⟨R2, hRR2, hI3.f0 0, fun w => by cases w⟩, (hO1.trans hO2).trans hO3⟩) dX12_isBook_32
  exact loop 401 h ((0, [], []), []) (Nat.le_refl _) (Nat.le_refl _) ⟨⟨Nat.zero_le _, Nat.zero_le _, VS.nil, fun x hx => by cases hx⟩, rfl, fun o ho => by cases ho⟩ hR OffR.rf rfl
