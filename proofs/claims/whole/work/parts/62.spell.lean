/-! the tokens: a name is compared with a word, a name is spelled -/
theorem spl_le {x : Int32} (h : isLe x = true) : x - nI 96 = nI (sgD x) := by
  obtain ⟨h1, h2, h3⟩ := isLe_nat h
  have e : sgD x = x.toNatClampNeg - 96 := if_pos h
  rw [e]
  generalize x.toNatClampNeg = b at h1 h2 h3
  subst h3
  rw [pk_sub (by omega)]
theorem spl_eq {x : Int32} {w : Nat} (h : bLD x = true) (h1 : 1 ≤ w) (h2 : w ≤ 26) : nI w = x - nI 96 ↔ w = sgD x := by
  by_cases e : isLe x = true
  · rw [spl_le e]
    exact nI_eq (by omega) (by have := (sgD_ok h).2; omega)
  · unfold bLD at h
    rw [Bool.or_eq_true] at h
    obtain ⟨g1, g2, g3⟩ := isDi_nat (h.resolve_left e)
    have e2 : sgD x = x.toNatClampNeg - 21 := if_neg e
    rw [e2]
    generalize x.toNatClampNeg = b at g1 g2 g3
    subst g3
    constructor
    · intro q
      exfalso
      have q2 : nI (w + 96) = nI b := by
        rw [← nI_add, q, Int32.sub_add_cancel]
      have := (nI_eq (by omega) (by omega)).mp q2
      omega
    · intro q; omega
set_option maxRecDepth 100000 in
set_option maxHeartbeats 4000000 in
theorem m8_spells {X : gX} {h : gH} {z q n t w : Nat} {f : Nat → Int32} {K : gKo} {wn : Nat} {wf : Nat → Int32} {W : List Nat} (hk : tkk n f t = 2) (hn : n ≤ 2000) (hT : TkO X K h q n f t) (hW : WdB X h w wn wf) (hw : wdf wn wf W) (h26 : ∀ d, d ∈ W → 1 ≤ d ∧ d ≤ 26) (h10 : W.length ≤ 10) : gM X yX8_spells cX8_spells 3 (some .boolean) (2, 0, 0) [.ref q, .ref w] h z (pR h z (b2i (decide (tkn n f t = W)))) gNoX := by
  obtain ⟨kf, S, T, en, hT, hR, hen, hle⟩ := hT
  have hen := hen (by omega)
  subst hen
  obtain ⟨t1, t2, t3, t4, t5⟩ := tok_word hk
  have tl : (tkn n f t).length = tke n f t - tks n f t := nmD_len _ _ _
  obtain ⟨w1, w2⟩ := hw
  rw [wl_len] at w1 w2
  subst w1
  refine gM.of px8 (Nat.le_of_ble_eq_true rfl) ?_
  intro F hE
  have loop : ∀ (r j : Nat), j + r = W.length → W.length = tke n f t - tks n f t → (∀ i, (hi : i < j) → (hw : i < W.length) → W[i] = sgD (f (tks n f t + i))) → G X F cX8_spells 3 yX8_spells.cls (2, 0, 0) 0 0 20 [some (.ref q), some (.ref w), some (.int (nI j))] [] h z := by
    intro r
    induction r with
    | zero =>
      intro j hj hl hm
      refine g_iload_n dX8_spells_20 rfl ?_
      refine g_aload_n dX8_spells_21 rfl ?_
      refine g_getf fl8_82 hW.1 rfl dX8_spells_22 ?_
      refine g_icmp_geN 61 dX8_spells_25 (by decide) (by omega) (by omega) (fun c_25 => ?_) (fun c_25 => ?_)
      · refine g_iconst (nI 1) dX8_spells_61 (by decide) ?_
        exact g_iret hE rfl (⟨by
          rw [show tkn n f t = W from List.ext_getElem (by omega) (fun i a b => by rw [show (tkn n f t)[i] = sgD (f (tks n f t + i)) from nmD_at (by omega), hm i (by omega) b]), decide_eq_true rfl]
          rfl, rfl, rfl⟩) dX8_spells_62
      · exact absurd c_25 (by omega)
    | succ r ih =>
      intro j hj hl hm
      have hjw : j < W.length := by omega
      have hb : byt n f (tks n f t + j) = f (tks n f t + j) := by rw [byt, if_pos (by omega)]
      have hd := h26 _ (List.getElem_mem hjw)
      have hlw : wf j = nI W[j] := by rw [w2 j hjw, wl_lt hjw]
      have hs := spl_eq (t5 (tks n f t + j) (by omega) (by omega)) hd.1 hd.2
      refine g_iload_n dX8_spells_20 rfl ?_
      refine g_aload_n dX8_spells_21 rfl ?_
      refine g_getf fl8_82 hW.1 rfl dX8_spells_22 ?_
      refine g_icmp_geN 61 dX8_spells_25 (by decide) (by omega) (by omega) (fun c_25 => ?_) (fun c_25 => ?_)
      · exact absurd c_25 (by omega)
      · refine g_aload_n dX8_spells_28 rfl ?_
        refine g_getf fl8_87 hW.1 rfl dX8_spells_29 ?_
        refine g_iload_n dX8_spells_32 rfl ?_
        refine g_ialdN (hW.2) (by omega) (by decide) dX8_spells_33 ?_
        rw [hlw]
        refine g_aload_n dX8_spells_34 rfl ?_
        refine g_getf fl8_12 hT.1.1 rfl dX8_spells_35 ?_
        refine g_aload_n dX8_spells_38 rfl ?_
        refine g_getf fl8_46 hT.1.1 rfl dX8_spells_39 ?_
        refine g_iload_n dX8_spells_42 rfl ?_
        first | refine g_iaddN dX8_spells_43 ?_ | refine g_iadd dX8_spells_43 ?_
        refine g_callV0 kX8_75 (m6_byteAt (_) (by omega) hn hT.2) hT.2.1 rfl rfl rfl (Nat.le_of_ble_eq_true rfl) (by decide) (by decide) (by decide) (by decide) dX8_spells_44 ?_
        rintro v1 h2 z1 ⟨rfl, rfl, rfl⟩
        rw [hb]
        refine g_bipush (nI 96) dX8_spells_47 (by decide) ?_
        first | refine g_isubN dX8_spells_49 (by omega) ?_ | refine g_isub dX8_spells_49 ?_
        refine g_icmp_eq 55 dX8_spells_50 (by decide) (fun c_50 => ?_) (fun c_50 => ?_)
        · refine g_iincN dX8_spells_55 rfl (by decide) rfl ?_
          refine g_goto 20 dX8_spells_58 (by decide) ?_
          refine ih (j + 1) (by omega) hl (fun i a b => ?_)
          by_cases e : i = j
          · subst e; exact hs.mp c_50
          · exact hm i (by omega) b
        · refine g_iconst (nI 0) dX8_spells_53 (by decide) ?_
          exact g_iret hE rfl (⟨by
            rw [decide_eq_false (fun e => c_50 (hs.mpr ?_))]
            · rfl
            · have e3 : (tkn n f t)[j]'(by rw [tl]; omega) = sgD (f (tks n f t + j)) := nmD_at (by omega)
              rw [← e3]
              exact (List.getElem_of_eq e.symm hjw), rfl, rfl⟩) dX8_spells_54
  refine g_aload_n dX8_spells_0 rfl ?_
  refine g_getf fl8_38 hT.1.1 rfl dX8_spells_1 ?_
  refine g_aload_n dX8_spells_4 rfl ?_
  refine g_getf fl8_46 hT.1.1 rfl dX8_spells_5 ?_
  rw [show nI (tks n f t) = nI (tks n f t) from rfl]
  refine g_isubN dX8_spells_8 (by omega) ?_
  refine g_aload_n dX8_spells_9 rfl ?_
  refine g_getf fl8_82 hW.1 rfl dX8_spells_10 ?_
  refine g_icmp_eqN 18 dX8_spells_13 (by decide) (by omega) (by omega) (fun c_13 => ?_) (fun c_13 => ?_)
  · refine g_iconst (nI 0) dX8_spells_18 (by decide) ?_
    refine g_istore_n dX8_spells_19 (by decide) rfl ?_
    exact loop W.length 0 (by omega) (by omega) (fun i a b => absurd a (Nat.not_lt_zero _))
  · refine g_iconst (nI 0) dX8_spells_16 (by decide) ?_
    exact g_iret hE rfl (⟨by
      rw [decide_eq_false (fun e => c_13 (by rw [← e, tl]))]
      rfl, rfl, rfl⟩) dX8_spells_17
set_option maxRecDepth 100000 in
set_option maxHeartbeats 4000000 in
theorem m8_spell {X : gX} {h : gH} {z q n t w : Nat} {f : Nat → Int32} {K : gKo} {wn : Nat} {wf : Nat → Int32} (hk : tkk n f t = 2) (hn : n ≤ 2000) (hT : TkO X K h q n f t) (hW : WdB X h w wn wf) (hd : w + 2 ≤ q ∨ q + 6 ≤ w) : gM X yX8_spell cX8_spell 3 none (2, 0, 0) [.ref q, .ref w] h z (fun r h' z' => r = none ∧ z' = z ∧ (∃ g, WdB X h' w (tkn n f t).length g ∧ (hsD (tkn n f t) = false → wdf (tkn n f t).length g (tkn n f t))) ∧ OffB h h' w 2) gNoX := by
  obtain ⟨kf, S, T, en, hT, hR, hen, hle⟩ := hT
  have hen := hen (by omega)
  subst hen
  obtain ⟨t1, t2, t3, t4, t5⟩ := tok_word hk
  have tl : (tkn n f t).length = tke n f t - tks n f t := nmD_len _ _ _
  refine gM.of px8 (Nat.le_of_ble_eq_true rfl) ?_
  intro F hE
  have loop : ∀ (r j : Nat) (g : Nat → Int32) (h1 : gH), j + r = tke n f t - tks n f t → WdB X h1 w j g → (∀ i, i < j → g i = f (tks n f t + i) - nI 96) → OffB h h1 w 2 → G X F cX8_spell 3 yX8_spell.cls (2, 0, 0) 0 0 10 [some (.ref q), some (.ref w), some (.int (nI (tks n f t + j)))] [] h1 z := by
    intro r
    induction r with
    | zero =>
      intro j g h1 hj hW hg hO
      have hT := hT.off hO (by omega)
      have hfin : hsD (tkn n f t) = false → wdf (tkn n f t).length g (tkn n f t) := fun hs => ⟨(wl_len _).symm, fun i hi => by
        rw [wl_len, tl] at hi
        rw [hg i (by omega), wl_lt (by rw [tl]; exact hi), show (tkn n f t)[i]'(by rw [tl]; exact hi) = sgD (f (tks n f t + i)) from nmD_at hi]
        have h5 := t5 (tks n f t + i) (by omega) (by omega)
        refine spl_le ?_
        have h6 := List.any_eq_false.mp hs (sgD (f (tks n f t + i))) (List.mem_map.mpr ⟨i, List.mem_range.mpr hi, rfl⟩)
        rw [sgD_dig h5] at h6
        unfold bLD at h5
        rw [Bool.or_eq_true] at h5
        exact h5.resolve_right h6⟩
      refine g_iload_n dX8_spell_10 rfl ?_
      refine g_aload_n dX8_spell_11 rfl ?_
      refine g_getf fl8_38 hT.1.1 rfl dX8_spell_12 ?_
      refine g_icmp_geN 63 dX8_spell_15 (by decide) (by omega) (by omega) (fun c_15 => ?_) (fun c_15 => ?_)
      · exact g_vret hE (⟨rfl, rfl, ⟨g, by rw [tl, ← hj]; exact hW, hfin⟩, hO⟩) dX8_spell_63
      · exact absurd c_15 (by omega)
    | succ r ih =>
      intro j g h1 hj hW hg hO
      have hT := hT.off hO (by omega)
      have hb : byt n f (tks n f t + j) = f (tks n f t + j) := by rw [byt, if_pos (by omega)]
      refine g_iload_n dX8_spell_10 rfl ?_
      refine g_aload_n dX8_spell_11 rfl ?_
      refine g_getf fl8_38 hT.1.1 rfl dX8_spell_12 ?_
      refine g_icmp_geN 63 dX8_spell_15 (by decide) (by omega) (by omega) (fun c_15 => ?_) (fun c_15 => ?_)
      · exact absurd c_15 (by omega)
      · refine g_aload_n dX8_spell_18 rfl ?_
        refine g_getf fl8_82 hW.1 rfl dX8_spell_19 ?_
        refine g_bipush (nI 10) dX8_spell_22 (by decide) ?_
        refine g_icmp_geN 63 dX8_spell_24 (by decide) (by omega) (by omega) (fun c_24 => ?_) (fun c_24 => ?_)
        · exact absurd c_24 (by omega)
        · refine g_aload_n dX8_spell_27 rfl ?_
          refine g_getf fl8_87 hW.1 rfl dX8_spell_28 ?_
          refine g_aload_n dX8_spell_31 rfl ?_
          refine g_getf fl8_82 hW.1 rfl dX8_spell_32 ?_
          refine g_aload_n dX8_spell_35 rfl ?_
          refine g_getf fl8_12 hT.1.1 rfl dX8_spell_36 ?_
          refine g_iload_n dX8_spell_39 rfl ?_
          refine g_callV0 kX8_75 (m6_byteAt (_) (by omega) hn hT.2) hT.2.1 rfl rfl rfl (Nat.le_of_ble_eq_true rfl) (by decide) (by decide) (by decide) (by decide) dX8_spell_40 ?_
          rintro v1 h2 z1 ⟨rfl, rfl, rfl⟩
          rw [hb]
          refine g_bipush (nI 96) dX8_spell_43 (by decide) ?_
          first | refine g_isubN dX8_spell_45 (by omega) ?_ | refine g_isub dX8_spell_45 ?_
          refine g_iastN hW.2 (by omega) (by decide) dX8_spell_46 ?_
          refine g_aload_n dX8_spell_47 rfl ?_
          refine g_dup dX8_spell_48 rfl ?_
          refine g_getf fl8_82 ((gset_ne (by omega)).trans hW.1) rfl dX8_spell_49 ?_
          refine g_iconst (nI 1) dX8_spell_52 (by decide) ?_
          first | refine g_iaddN dX8_spell_53 ?_ | refine g_iadd dX8_spell_53 ?_
          refine g_putf fl8_82 ((gset_ne (by omega)).trans hW.1) rfl rfl rfl (Nat.le_of_ble_eq_true rfl) dX8_spell_54 ?_
          refine g_iincN dX8_spell_57 rfl (by decide) rfl ?_
          refine g_goto 10 dX8_spell_60 (by decide) ?_
          refine ih (j + 1) (upd g j (f (tks n f t + j) - nI 96)) _ (by omega) ⟨gset_same, (gset_ne (by omega)).trans gset_same⟩ (fun i hi => ?_) ((hO.put (by omega) (by omega)).put (by omega) (by omega))
          by_cases e : i = j
          · subst e; exact upd_same
          · rw [upd_ne e]; exact hg i (by omega)
  refine g_aload_n dX8_spell_0 rfl ?_
  refine g_iconst (nI 0) dX8_spell_1 (by decide) ?_
  refine g_putf fl8_82 hW.1 rfl rfl rfl (Nat.le_of_ble_eq_true rfl) dX8_spell_2 ?_
  refine g_aload_n dX8_spell_5 rfl ?_
  refine g_getf fl8_46 ((gset_ne (by omega)).trans hT.1.1) rfl dX8_spell_6 ?_
  refine g_istore_n dX8_spell_9 (by decide) rfl ?_
  exact loop (tke n f t - tks n f t) 0 wf _ (by omega) ⟨gset_same, (gset_ne (by omega)).trans hW.2⟩ (fun i hi => absurd hi (Nat.not_lt_zero _)) (OffB.rf.put (by omega) (by omega))
