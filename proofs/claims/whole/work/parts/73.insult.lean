/-! the grammar: an insult is declared; the plan is read -/
set_option maxRecDepth 100000 in
set_option maxHeartbeats 4000000 in
theorem m4_addInsult {X : gX} {h : gH} {z p nw no ns : Nat} {S : Nat → Option Nat} {g : Nat → Int32} {wn : Nat → Nat} {wf : Nat → Nat → Int32} {oA : Nat → Nat} {oJ : Nat → Nat → Int32} {q n t : Nat} {f : Nat → Int32} {K : gKo} (hnw : nw < 8) (hk : tkk n f t = 2) (hn : n ≤ 2000) (hT : TkO X K h q n f t) (hd : p + 69 ≤ q ∨ q + 6 ≤ p) (hP : PlB X h p nw no ns S g wn wf oA oJ) : gM X yX4_addInsult cX4_addInsult 2 none (3, 0, 0) [.ref p, .ref q] h z (fun r h' z' => r = none ∧ z' = z ∧ (∃ wg, PlB X h' p (nw + 1) no ns S g (va_up wn nw (tkn n f t).length) (va_up wf nw wg) oA oJ ∧ (hsD (tkn n f t) = false → wdf (tkn n f t).length wg (tkn n f t))) ∧ OffB h h' p 69) gNoX := by
  have hP0 := hP
  obtain ⟨kf, S1, T1, en, hTT, hR⟩ := id hT
  obtain ⟨h1, -, -, -, ⟨f5, h5, g5⟩, h6, -⟩ := hP
  refine gM.of px4 (Nat.le_of_ble_eq_true rfl) ?_
  intro F hE
  refine g_aload_n dX4_addInsult_0 rfl ?_
  refine g_getf fl4_39 h1 rfl dX4_addInsult_1 ?_
  refine g_bipush (nI 8) dX4_addInsult_4 (by decide) ?_
  refine g_icmp_geN 32 dX4_addInsult_6 (by decide) (by omega) (by omega) (fun c_6 => ?_) (fun c_6 => ?_)
  · exact absurd c_6 (by omega)
  · refine g_aload_n dX4_addInsult_9 rfl ?_
    refine g_aload_n dX4_addInsult_10 rfl ?_
    refine g_getf fl4_29 h1 rfl dX4_addInsult_11 ?_
    refine g_aload_n dX4_addInsult_14 rfl ?_
    refine g_getf fl4_39 h1 rfl dX4_addInsult_15 ?_
    refine g_aaldN h5 rfl (by omega) (by decide) (g5 nw hnw) dX4_addInsult_18 ?_
    refine g_callV0 kX4_55 (m8_spell hk hn hT (h6 nw hnw) (by omega)) hTT.1.1 rfl rfl rfl (Nat.le_of_ble_eq_true rfl) (by decide) (by decide) (by decide) (by decide) dX4_addInsult_19 ?_
    rintro v1 h3 z1 ⟨rfl, rfl, ⟨wg, hW3, hw3⟩, hO3⟩
    have hP3 := hP0.word (i := nw) (p + 5 + 2 * nw) (Or.inl ⟨hnw, rfl⟩) hW3 hO3
    refine g_aload_n dX4_addInsult_22 rfl ?_
    refine g_dup dX4_addInsult_23 rfl ?_
    refine g_getf fl4_39 hP3.1 rfl dX4_addInsult_24 ?_
    refine g_iconst (nI 1) dX4_addInsult_27 (by decide) ?_
    first | refine g_iaddN dX4_addInsult_28 ?_ | refine g_iadd dX4_addInsult_28 ?_
    refine g_putf fl4_39 (hP3.1) rfl rfl rfl (Nat.le_of_ble_eq_true rfl) dX4_addInsult_29 ?_
    exact g_vret hE (⟨rfl, rfl, ⟨wg, hP3.nws, hw3⟩, (OffB.wide hO3 (by omega) (by omega)).trans (OffB.rf.put (by omega) (by omega))⟩) dX4_addInsult_32
theorem seF_ins {n : Nat} {f : Nat → Int32} {V : List (Nat × Nat)} {t : Nat} : seF n f (V ++ [(1, t)]) = ((if (fnd (seF n f V).1 (tkn n f t)).isSome = true ∨ 8 ≤ (seF n f V).1.length ∨ hsD (tkn n f t) = true then (seF n f V).1 else (seF n f V).1 ++ [tkn n f t]), (seF n f V).2.1, if (seF n f V).2.2.1 = 0 then ((if (fnd (seF n f V).1 (tkn n f t)).isSome = true then 2 else if 8 ≤ (seF n f V).1.length then 4 else if hsD (tkn n f t) = true then 5 else 0), t) else (seF n f V).2.2) := by
  rw [seF_app]
  unfold seS se1
  rw [if_pos (show (1, t).1 = 1 from rfl)]
  by_cases e1 : (fnd (seF n f V).1 (tkn n f t)).isSome = true
  · simp only [if_pos e1, if_pos (Or.inl e1 : _ ∨ 8 ≤ (seF n f V).1.length ∨ hsD (tkn n f t) = true)]
  · by_cases e2 : 8 ≤ (seF n f V).1.length
    · simp only [if_neg e1, if_pos e2, if_pos (Or.inr (Or.inl e2) : (fnd (seF n f V).1 (tkn n f t)).isSome = true ∨ _ ∨ hsD (tkn n f t) = true)]
    · by_cases e3 : hsD (tkn n f t) = true
      · simp only [if_neg e1, if_neg e2, if_pos e3, if_pos (Or.inr (Or.inr e3) : (fnd (seF n f V).1 (tkn n f t)).isSome = true ∨ 8 ≤ (seF n f V).1.length ∨ _)]
      · simp only [if_neg e1, if_neg e2, if_neg e3, if_neg (show ¬ ((fnd (seF n f V).1 (tkn n f t)).isSome = true ∨ 8 ≤ (seF n f V).1.length ∨ hsD (tkn n f t) = true) from fun q => q.elim e1 (fun q => q.elim e2 e3))]
theorem OrOk.ins {K : gKo} {n : Nat} {f : Nat → Int32} {s : PLt} {W W' : gWo} {s' : PSt} {U : List (Nat × Nat)} (hB : BkOk n f s) (h : OrOk K n f s W) (hV : s'.2.2 = s.1.2.2 ++ U) (hA : ∀ i, W'.1 (8 + i) = W.1 (8 + i) ∧ W'.2.1 (8 + i) = W.2.1 (8 + i) ∧ W'.2.2.1 i = W.2.2.1 i ∧ ∀ j, W'.2.2.2 i j = W.2.2.2 i j) : OrOk K n f (s', s.2) W' := by
  intro he i x hx
  have he3 : (seF n f s'.2.2).2.2.1 = 0 := he
  rw [hV] at he3
  obtain ⟨m1, m2⟩ := seF_mono he3
  obtain ⟨a1, a2, a3, a4, a5, a6⟩ := h m1 i x hx
  obtain ⟨b1, b2, b3, b4⟩ := hA i
  show OrF K n f s'.2.2 W' i x
  unfold OrF
  rw [b1, b2, b3, b4, b4, b4, b4]
  refine ⟨a1, a2, fun q7 => ?_, a4, a5, a6⟩
  rw [a3 q7, hV, seF_keep he3 ((hB.2.2 x (List.mem_of_getElem? hx)).2.2.2.1 q7)]
set_option maxRecDepth 100000 in
set_option maxHeartbeats 4000000 in
theorem m1_readInsult {X : gX} {h : gH} {z g p n : Nat} {f : Nat → Int32} {K : gKo} {s : PLt} {ir : Int32} {W : gWo} (hK : gCo X K) (hd : ApG g p) (hn : n ≤ 2000) (h5 : tkk n f s.1.1 = 5) (hB : BkOk n f s) (hO : OrOk K n f s W) (hI : GrI X K h g p n f s.1 0 ir W) : gM X yX1_readInsult cX1_readInsult 1 (some .boolean) (4, 0, 0) [.ref g] h z (fun r h' z' => r = some (.int (b2i (pNm (tkk n f) 1 (s.1.1 + 1, s.1.2)).1)) ∧ z' = z ∧ (∃ W', GrI X K h' g p n f (pNm (tkk n f) 1 (s.1.1 + 1, s.1.2)).2 0 ir W' ∧ OrOk K n f ((pNm (tkk n f) 1 (s.1.1 + 1, s.1.2)).2, s.2) W') ∧ OffG h h' g p) gNoX := by
  have hd0 := hd
  have hs0 := hB.1
  have hlt0 := tk_lt (n := n) (f := f) (t := s.1.1) (by omega) hs0.1
  have hwok := hs0.ws.1
  have h80 := hwok.1
  have herr := se_err (n := n) (f := f) s.1.2.2
  have hsi := seF_ins (n := n) (f := f) (V := s.1.2.2) (t := s.1.1 + 1)
  unfold ApG at hd
  obtain ⟨fs0, hg0⟩ := hI.gat
  obtain ⟨ep0, S0, gg0, hg0, -, hT0, -⟩ := id hI
  obtain ⟨kf0, S10, T10, en0, hTT0, -⟩ := id hT0
  refine gM.of px1 (Nat.le_of_ble_eq_true rfl) ?_
  intro F hE
  have fin : ∀ (h1 : gH) (W1 : gWo), tkk n f (s.1.1 + 1) = 2 → GrI X K h1 g p n f (s.1.1 + 1, s.1.2.1, s.1.2.2 ++ [(1, s.1.1 + 1)]) 0 ir W1 → (∀ i, W1.1 (8 + i) = W.1 (8 + i) ∧ W1.2.1 (8 + i) = W.2.1 (8 + i) ∧ W1.2.2.1 i = W.2.2.1 i ∧ ∀ j, W1.2.2.2 i j = W.2.2.2 i j) → OffG h h1 g p → G X F cX1_readInsult 1 yX1_readInsult.cls (4, 0, 0) 0 0 93 [some (.ref g)] [] h1 z := by
    intro h1 W1 hk hI1 hA hO1
    have hlt : s.1.1 + 1 < tkl n f := tk_lt (by omega) (by omega)
    obtain ⟨ep1, S1, gg1, hg1, -, hT1, -⟩ := id hI1
    obtain ⟨kf1, S11, T11, en1, hTT1, -⟩ := id hT1
    have ee : pNm (tkk n f) 1 (s.1.1 + 1, s.1.2) = (true, (s.1.1 + 2, s.1.2.1, s.1.2.2 ++ [(1, s.1.1 + 1)])) := if_pos hk
    rw [ee] at hE
    refine g_aload_n dX1_readInsult_93 rfl ?_
    refine g_getf fl1_12 hg1 rfl dX1_readInsult_94 ?_
    refine g_callV0 kX1_70 (m8_advance hlt hT1) hTT1.1.1 rfl rfl rfl (Nat.le_of_ble_eq_true rfl) (by decide) (by decide) (by decide) (by decide) dX1_readInsult_97 ?_
    rintro v1 h3 z1 ⟨rfl, rfl, hT2, hO2⟩
    have hI3 := hI1.adv hd0 hT2 hO2
    refine g_iconst (nI 1) dX1_readInsult_100 (by decide) ?_
    exact g_iret hE rfl (⟨rfl, rfl, ⟨W1, hI3, hO.ins hB rfl hA⟩, hO1.trans (hO2.toG (by omega))⟩) dX1_readInsult_101
  refine g_aload_n dX1_readInsult_0 rfl ?_
  refine g_getf fl1_12 hg0 rfl dX1_readInsult_1 ?_
  refine g_callV0 kX1_70 (m8_advance hlt0 hT0) hTT0.1.1 rfl rfl rfl (Nat.le_of_ble_eq_true rfl) (by decide) (by decide) (by decide) (by decide) dX1_readInsult_4 ?_
  rintro v1 h1 z1 ⟨rfl, rfl, hTa, hOa⟩
  have hI1 := hI.adv hd0 hTa hOa
  have hO1 : OffG h h1 g p := hOa.toG (by omega)
  have hI1' := hI1
  obtain ⟨ep, S, gg, hg, hep, hT, hP, hst, hws⟩ := hI1
  have hg : h1 g = some (grF g p ep 0 (seF n f s.1.2.2).2.2.1 ir) := hg
  have hT : TkO X K h1 (g + 1) n f (s.1.1 + 1) := hT
  have hep : ep = (if (seF n f s.1.2.2).2.2.1 = 0 then -1 else nI (tks n f (seF n f s.1.2.2).2.2.2)) := hep
  have hP : PlB X h1 p (seF n f s.1.2.2).1.length (seF n f s.1.2.2).2.1 s.1.2.1.length S gg W.1 W.2.1 W.2.2.1 W.2.2.2 := hP
  have hws : ∀ i D, (seF n f s.1.2.2).1[i]? = some D → wdf (W.1 i) (W.2.1 i) D := hws
  obtain ⟨kf, S1, T1, en, hTT, hR⟩ := id hT
  refine g_aload_n dX1_readInsult_7 rfl ?_
  refine g_getf fl1_12 hg rfl dX1_readInsult_8 ?_
  refine g_getf fl1_41 hTT.1.1 rfl dX1_readInsult_11 ?_
  refine g_gets (hK.1 2 (by decide)).1 wgX1_77 dX1_readInsult_14 ?_
  refine g_acmp_eq 22 dX1_readInsult_17 (by decide) (fun c_17 => ?_) (fun c_17 => ?_)
  · have hk : tkk n f (s.1.1 + 1) = 2 := (hK.sm (tkk_lt n f _) (by decide)).mp c_17
    have hfl : ∀ i, fnd (seF n f s.1.2.2).1 (tkn n f (s.1.1 + 1)) = some i → i < (seF n f s.1.2.2).1.length := fun i q => (fnd_some.mp q).1
    have hon := oI_neg hfl (by have := hwok.1; omega)
    refine g_aload_n dX1_readInsult_22 rfl ?_
    refine g_getf fl1_21 hg rfl dX1_readInsult_23 ?_
    refine g_aload_n dX1_readInsult_26 rfl ?_
    refine g_getf fl1_12 hg rfl dX1_readInsult_27 ?_
    refine g_callV0 kX1_80 (m4_insultNamed hP hws hwok hk hn hT) hP.1 rfl rfl rfl (Nat.le_of_ble_eq_true rfl) (by decide) (by decide) (by decide) (by decide) dX1_readInsult_30 ?_
    rintro v1 h2 z1 ⟨rfl, rfl, rfl⟩
    refine g_if_lt 44 dX1_readInsult_33 (by decide) (fun c_33 => ?_) (fun c_33 => ?_)
    · have hno : ¬ (fnd (seF n f s.1.2.2).1 (tkn n f (s.1.1 + 1))).isSome = true := fun q => absurd c_33 (Int32.not_lt.mpr (hon.mpr q))
      refine g_aload_n dX1_readInsult_44 rfl ?_
      refine g_getf fl1_21 hg rfl dX1_readInsult_45 ?_
      refine g_getf fl1_88 hP.1 rfl dX1_readInsult_48 ?_
      refine g_bipush (nI 8) dX1_readInsult_51 (by decide) ?_
      refine g_icmp_ltN 64 dX1_readInsult_53 (by decide) (by omega) (by omega) (fun c_53 => ?_) (fun c_53 => ?_)
      · refine g_aload_n dX1_readInsult_64 rfl ?_
        refine g_getf fl1_12 hg rfl dX1_readInsult_65 ?_
        refine g_callV0 kX1_91 (m8_hasDigit hk hn hT) hTT.1.1 rfl rfl rfl (Nat.le_of_ble_eq_true rfl) (by decide) (by decide) (by decide) (by decide) dX1_readInsult_68 ?_
        rintro v1 h2 z1 ⟨rfl, rfl, rfl⟩
        refine g_if_eqB 82 dX1_readInsult_71 (by decide) (fun c_71 => ?_) (fun c_71 => ?_)
        · refine g_aload_n dX1_readInsult_82 rfl ?_
          refine g_getf fl1_21 hg rfl dX1_readInsult_83 ?_
          refine g_aload_n dX1_readInsult_86 rfl ?_
          refine g_getf fl1_12 hg rfl dX1_readInsult_87 ?_
          refine g_callV0 kX1_94 (m4_addInsult (by omega) hk hn hT (by omega) hP) hP.1 rfl rfl rfl (Nat.le_of_ble_eq_true rfl) (by decide) (by decide) (Nat.zero_le _) (Nat.zero_le _) dX1_readInsult_90 ?_
          rintro v1 h3 z1 ⟨rfl, rfl, ⟨wg, hP3, hw3⟩, hO3⟩
          have hls : (seF n f s.1.2.2).1.length < 8 := by omega
          have hde : seF n f (s.1.2.2 ++ [(1, s.1.1 + 1)]) = ((seF n f s.1.2.2).1 ++ [tkn n f (s.1.1 + 1)], (seF n f s.1.2.2).2.1, if (seF n f s.1.2.2).2.2.1 = 0 then (0, s.1.1 + 1) else (seF n f s.1.2.2).2.2) := by
            rw [hsi, if_neg (fun q => q.elim hno (fun q => q.elim (by omega) (fun q => by rw [c_71] at q; cases q))), if_neg hno, if_neg (show ¬ 8 ≤ (seF n f s.1.2.2).1.length by omega), if_neg (show ¬ hsD (tkn n f (s.1.1 + 1)) = true by rw [c_71]; decide)]
          have he0 : (seF n f (s.1.2.2 ++ [(1, s.1.1 + 1)])).2.2.1 = (seF n f s.1.2.2).2.2.1 := by
            rw [hde]; by_cases e : (seF n f s.1.2.2).2.2.1 = 0
            · simp only [if_pos e]; exact e.symm
            · simp only [if_neg e]
          refine fin h3 (va_up W.1 (seF n f s.1.2.2).1.length (tkn n f (s.1.1 + 1)).length, va_up W.2.1 (seF n f s.1.2.2).1.length wg, W.2.2.1, W.2.2.2) hk ⟨ep, S, gg, ?_, ?_, hT.off hO3 (by omega), ?_, fun j x hx => ⟨(hst j x hx).1, fun q => ?_⟩, fun i D hD => ?_⟩ (fun i => ⟨vu_ne (by omega), vu_ne (by omega), rfl, fun _ => rfl⟩) (hO1.trans (hO3.toG (by omega)))
          · show h3 g = some (grF g p ep 0 (seF n f (s.1.2.2 ++ [(1, s.1.1 + 1)])).2.2.1 ir)
            rw [he0]; exact (hO3 g (by omega)).trans hg
          · show ep = (if (seF n f (s.1.2.2 ++ [(1, s.1.1 + 1)])).2.2.1 = 0 then -1 else nI (tks n f (seF n f (s.1.2.2 ++ [(1, s.1.1 + 1)])).2.2.2))
            rw [he0, hep, hde]
            by_cases e : (seF n f s.1.2.2).2.2.1 = 0
            · simp only [if_pos e]
            · simp only [if_neg e]
          · show PlB X h3 p (seF n f (s.1.2.2 ++ [(1, s.1.1 + 1)])).1.length (seF n f (s.1.2.2 ++ [(1, s.1.1 + 1)])).2.1 _ _ _ _ _ _ _
            rw [hde, List.length_append]
            exact hP3
          · have q1 : (seF n f (s.1.2.2 ++ [(1, s.1.1 + 1)])).2.2.1 = 0 := q
            obtain ⟨m1, m2⟩ := seF_mono q1
            rw [(hst j x hx).2 m1]
            show xvW n f (seF n f s.1.2.2).1 x = xvW n f (seF n f (s.1.2.2 ++ [(1, s.1.1 + 1)])).1 x
            unfold xvW
            by_cases h15 : x.1 = 15 ∨ x.1 = 16 ∨ x.1 = 18
            · rw [if_pos h15, if_pos h15]
              obtain ⟨-, -, -, h6⟩ := seF_fine s.1.2.2 ([], 0, 0, 0) m1
              have := (h6 _ (hs0.2.2.2 x (List.mem_of_getElem? hx) h15)).2 (Or.inr rfl)
              obtain ⟨i, hi⟩ := Option.isSome_iff_exists.mp this
              have hi2 : fnd (seF n f s.1.2.2).1 (tkn n f x.2) = some i := hi
              rw [hi2, m2 _ i hi2]
            · rw [if_neg h15, if_neg h15]
          · have hD2 : (seF n f (s.1.2.2 ++ [(1, s.1.1 + 1)])).1[i]? = some D := hD
            rw [hde] at hD2
            have hD3 : ((seF n f s.1.2.2).1 ++ [tkn n f (s.1.1 + 1)])[i]? = some D := hD2
            show wdf (va_up W.1 _ _ i) (va_up W.2.1 _ wg i) D
            rcases Nat.lt_trichotomy i (seF n f s.1.2.2).1.length with q | q | q
            · rw [List.getElem?_append_left q] at hD3
              rw [vu_ne (by omega), vu_ne (by omega)]
              exact hws i D hD3
            · rw [List.getElem?_append_right (by omega), q, Nat.sub_self] at hD3
              cases hD3
              rw [q, vu_same, vu_same]
              exact hw3 c_71
            · rw [List.getElem?_append_right (by omega), List.getElem?_eq_none (by show 1 ≤ _; omega)] at hD3
              cases hD3
        · refine g_aload_n dX1_readInsult_74 rfl ?_
          refine g_iconst (nI 5) dX1_readInsult_75 (by decide) ?_
          refine g_callV0 kX1_84 (m1_note 5 herr hg hT) hg rfl rfl rfl (Nat.le_of_ble_eq_true rfl) (by decide) (by decide) (by decide) (by decide) dX1_readInsult_76 ?_
          rintro v1 h3 z1 ⟨rfl, rfl, hg3, hO3⟩
          refine g_goto 93 dX1_readInsult_79 (by decide) ?_
          have h8 : ¬ 8 ≤ (seF n f s.1.2.2).1.length := by omega
          refine fin h3 W hk (GrI.news (V' := s.1.2.2 ++ [(1, s.1.1 + 1)]) hd0 hI1' hg3 hO3 ?_ ?_ ?_ ?_ ?_) (fun i => ⟨rfl, rfl, rfl, fun _ => rfl⟩) (hO1.trans (hO3.toG (by omega)))
          · rw [hsi]; simp [hno, c_71, h8]
          · rw [hsi]
          · rw [hsi]; by_cases e : (seF n f s.1.2.2).2.2.1 = 0 <;> simp [e, hno, c_71, h8]
          · rw [hep, hsi]; by_cases e : (seF n f s.1.2.2).2.2.1 = 0 <;> simp [e, hno, c_71, h8]
          · rw [hsi]; by_cases e : (seF n f s.1.2.2).2.2.1 = 0 <;> simp [e, hno, c_71, h8]
      · refine g_aload_n dX1_readInsult_56 rfl ?_
        refine g_iconst (nI 4) dX1_readInsult_57 (by decide) ?_
        refine g_callV0 kX1_84 (m1_note 4 herr hg hT) hg rfl rfl rfl (Nat.le_of_ble_eq_true rfl) (by decide) (by decide) (by decide) (by decide) dX1_readInsult_58 ?_
        rintro v1 h3 z1 ⟨rfl, rfl, hg3, hO3⟩
        refine g_goto 93 dX1_readInsult_61 (by decide) ?_
        have h8 : 8 ≤ (seF n f s.1.2.2).1.length := by omega
        refine fin h3 W hk (GrI.news (V' := s.1.2.2 ++ [(1, s.1.1 + 1)]) hd0 hI1' hg3 hO3 ?_ ?_ ?_ ?_ ?_) (fun i => ⟨rfl, rfl, rfl, fun _ => rfl⟩) (hO1.trans (hO3.toG (by omega)))
        · rw [hsi]; simp [hno, h8]
        · rw [hsi]
        · rw [hsi]; by_cases e : (seF n f s.1.2.2).2.2.1 = 0 <;> simp [e, hno, h8]
        · rw [hep, hsi]; by_cases e : (seF n f s.1.2.2).2.2.1 = 0 <;> simp [e, hno, h8]
        · rw [hsi]; by_cases e : (seF n f s.1.2.2).2.2.1 = 0 <;> simp [e, hno, h8]
    · refine g_aload_n dX1_readInsult_36 rfl ?_
      refine g_iconst (nI 2) dX1_readInsult_37 (by decide) ?_
      refine g_callV0 kX1_84 (m1_note 2 herr hg hT) hg rfl rfl rfl (Nat.le_of_ble_eq_true rfl) (by decide) (by decide) (by decide) (by decide) dX1_readInsult_38 ?_
      rintro v1 h3 z1 ⟨rfl, rfl, hg3, hO3⟩
      refine g_goto 93 dX1_readInsult_41 (by decide) ?_
      have hsm := hon.mp (Int32.not_lt.mp c_33)
      refine fin h3 W hk (GrI.news (V' := s.1.2.2 ++ [(1, s.1.1 + 1)]) hd0 hI1' hg3 hO3 ?_ ?_ ?_ ?_ ?_) (fun i => ⟨rfl, rfl, rfl, fun _ => rfl⟩) (hO1.trans (hO3.toG (by omega)))
      · rw [hsi]; simp [hsm]
      · rw [hsi]
      · rw [hsi]; by_cases e : (seF n f s.1.2.2).2.2.1 = 0 <;> simp [e, hsm]
      · rw [hep, hsi]; by_cases e : (seF n f s.1.2.2).2.2.1 = 0 <;> simp [e, hsm]
      · rw [hsi]; by_cases e : (seF n f s.1.2.2).2.2.1 = 0 <;> simp [e, hsm]
  · refine g_iconst (nI 0) dX1_readInsult_20 (by decide) ?_
    exact g_iret hE rfl (⟨by rw [show pNm (tkk n f) 1 (s.1.1 + 1, s.1.2) = (false, (s.1.1 + 1, s.1.2)) from if_neg (fun e => c_17 ((hK.sm (tkk_lt n f _) (by decide)).mpr e))]; rfl, rfl, ⟨W, by rw [show pNm (tkk n f) 1 (s.1.1 + 1, s.1.2) = (false, (s.1.1 + 1, s.1.2)) from if_neg (fun e => c_17 ((hK.sm (tkk_lt n f _) (by decide)).mpr e))]; exact hI1', by rw [show pNm (tkk n f) 1 (s.1.1 + 1, s.1.2) = (false, (s.1.1 + 1, s.1.2)) from if_neg (fun e => c_17 ((hK.sm (tkk_lt n f _) (by decide)).mpr e))]; exact hO⟩, hO1⟩) dX1_readInsult_21
