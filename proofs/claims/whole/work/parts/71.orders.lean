/-! the grammar: an order is read -/
theorem PlB.word {X : gX} {h h' : gH} {p nw no ns i n' : Nat} {S : Nat → Option Nat} {g : Nat → Int32} {wn : Nat → Nat} {wf : Nat → Nat → Int32} {oA : Nat → Nat} {oJ : Nat → Nat → Int32} {f' : Nat → Int32} (hP : PlB X h p nw no ns S g wn wf oA oJ) (a : Nat) (ha : (i < 8 ∧ a = p + 5 + 2 * i) ∨ (8 ≤ i ∧ i < 24 ∧ a = p + 22 + 3 * (i - 8))) (hW : WdB X h' a n' f') (hO : OffB h h' a 2) : PlB X h' p nw no ns S g (va_up wn i n') (va_up wf i f') oA oJ := by
  obtain ⟨h1, ⟨f2, h2, g2⟩, h3, h4, ⟨f5, h5, g5⟩, h6, h7⟩ := hP
  refine ⟨(hO _ (by omega)).trans h1, ⟨f2, (hO _ (by omega)).trans h2, g2⟩, (hO _ (by omega)).trans h3, (hO _ (by omega)).trans h4, ⟨f5, (hO _ (by omega)).trans h5, g5⟩, fun j hj => ?_, fun k hk => ⟨(hO _ (by omega)).trans (h7 k hk).1, ?_⟩⟩
  · by_cases e : j = i
    · subst e
      rw [vu_same, vu_same]
      rw [show p + 5 + 2 * j = a by omega]
      exact hW
    · rw [vu_ne e, vu_ne e]
      exact (h6 j hj).off hO (by omega)
  · by_cases e : 8 + k = i
    · subst e
      rw [vu_same, vu_same]
      rw [show p + 22 + 3 * k = a by omega]
      exact hW
    · rw [vu_ne e, vu_ne e]
      exact (h7 k hk).2.off hO (by omega)
/-- an order's own object -/
abbrev orF (p k a : Nat) (J : Nat → Int32) : va_E := .inr (1, [.ref (p + 22 + 3 * k), .ref a, .int (J 0), .int (J 1), .int (J 2), .int (J 3)])
theorem PlB.ord {X : gX} {h : gH} {p nw no ns k a : Nat} {S : Nat → Option Nat} {g : Nat → Int32} {wn : Nat → Nat} {wf : Nat → Nat → Int32} {oA : Nat → Nat} {oJ : Nat → Nat → Int32} {J : Nat → Int32} (hP : PlB X h p nw no ns S g wn wf oA oJ) (hk : k < 16) : PlB X (gset h (p + 21 + 3 * k) (orF p k a J)) p nw no ns S g wn wf (va_up oA k a) (va_up oJ k J) := by
  obtain ⟨h1, ⟨f2, h2, g2⟩, h3, h4, ⟨f5, h5, g5⟩, h6, h7⟩ := hP
  refine ⟨(gset_ne (by omega)).trans h1, ⟨f2, (gset_ne (by omega)).trans h2, g2⟩, (gset_ne (by omega)).trans h3, (gset_ne (by omega)).trans h4, ⟨f5, (gset_ne (by omega)).trans h5, g5⟩, fun j hj => (h6 j hj).off (b := p + 21 + 3 * k) (m := 1) (fun q hq => gset_ne (by omega)) (by omega), fun i hi => ⟨?_, (h7 i hi).2.off (b := p + 21 + 3 * k) (m := 1) (fun q hq => gset_ne (by omega)) (by omega)⟩⟩
  by_cases e : i = k
  · subst e
    rw [vu_same, vu_same]
    exact gset_same
  · rw [vu_ne e, vu_ne e]
    exact (gset_ne (by omega)).trans (h7 i hi).1
theorem GrI.ord {X : gX} {K : gKo} {h : gH} {g p n dp k a : Nat} {f : Nat → Int32} {s : PSt} {ir : Int32} {W : gWo} {J : Nat → Int32} (hI : GrI X K h g p n f s dp ir W) (hd : ApG g p) (hk : k < 16) : GrI X K (gset h (p + 21 + 3 * k) (orF p k a J)) g p n f s dp ir (W.1, W.2.1, va_up W.2.2.1 k a, va_up W.2.2.2 k J) := by
  obtain ⟨ep, S, gg, hg, hep, hT, hP, hst, hws⟩ := hI
  unfold ApG at hd
  exact ⟨ep, S, gg, (gset_ne (by omega)).trans hg, hep, hT.put (by omega), hP.ord hk, hst, hws⟩
theorem GrI.orc {X : gX} {K : gKo} {h : gH} {g p n dp k : Nat} {f : Nat → Int32} {s : PSt} {ir : Int32} {W : gWo} (hI : GrI X K h g p n f s dp ir W) (hk : k < 16) : h (p + 21 + 3 * k) = some (orF p k (W.2.2.1 k) (W.2.2.2 k)) := by
  obtain ⟨ep, S, gg, hg, hep, hT, hP, hst, hws⟩ := hI
  exact (hP.2.2.2.2.2.2 k hk).1
theorem GrI.plc {X : gX} {K : gKo} {h : gH} {g p n dp : Nat} {f : Nat → Int32} {s : PSt} {ir : Int32} {W : gWo} (hI : GrI X K h g p n f s dp ir W) : ∃ r0 r1 r2 r6, h p = some (.inr (3, [.ref r0, .ref r1, .ref r2, .int (nI (seF n f s.2.2).1.length), .int (nI (seF n f s.2.2).2.1), .int (nI s.2.1.length), .ref r6])) := by
  obtain ⟨ep, S, gg, hg, hep, hT, hP, hst, hws⟩ := hI
  exact ⟨_, _, _, _, hP.1⟩
theorem GrI.adv {X : gX} {K : gKo} {h h' : gH} {g p n dp : Nat} {f : Nat → Int32} {s : PSt} {ir : Int32} {W : gWo} (hI : GrI X K h g p n f s dp ir W) (hd : ApG g p) (hT : TkO X K h' (g + 1) n f (s.1 + 1)) (hO : OffB h h' (g + 1) 6) : GrI X K h' g p n f (s.1 + 1, s.2) dp ir W := by
  obtain ⟨ep, S, gg, hg, hep, -, hP, hst, hws⟩ := hI
  unfold ApG at hd
  exact ⟨ep, S, gg, (hO g (by omega)).trans hg, hep, hT, hP.off hO (by omega), hst, hws⟩
/-- W' differs from W in the word, the operand and nothing else of order k -/
def WsM (k : Nat) (W W' : gWo) : Prop := W'.2.2.1 = W.2.2.1 ∧ (∀ i, i ≠ 8 + k → W'.1 i = W.1 i ∧ W'.2.1 i = W.2.1 i) ∧ ∀ i j, (i ≠ k ∨ j ≠ 0) → W'.2.2.2 i j = W.2.2.2 i j
theorem WsM.rf {k : Nat} {W : gWo} : WsM k W W := ⟨rfl, fun _ _ => ⟨rfl, rfl⟩, fun _ _ _ => rfl⟩
theorem seF_word {n : Nat} {f : Nat → Int32} {V : List (Nat × Nat)} {t : Nat} : seF n f (V ++ [(3, t)]) = ((seF n f V).1, (seF n f V).2.1, if (seF n f V).2.2.1 = 0 then ((if hsD (tkn n f t) = true then 5 else 0), t) else (seF n f V).2.2) := by
  rw [seF_app]
  unfold seS se1
  rw [if_neg (show ¬ (3, t).1 = 1 by show ¬ 3 = 1; decide), if_neg (show ¬ (3, t).1 = 2 by show ¬ 3 = 2; decide), if_pos (show (3, t).1 = 3 from rfl)]
  by_cases e : hsD (tkn n f t) = true
  · simp only [if_pos e]
  · simp only [if_neg e]
theorem seF_order {n : Nat} {f : Nat → Int32} {V : List (Nat × Nat)} {t : Nat} : seF n f (V ++ [(2, t)]) = ((seF n f V).1, (if 16 ≤ (seF n f V).2.1 then (seF n f V).2.1 else (seF n f V).2.1 + 1), if (seF n f V).2.2.1 = 0 then ((if 16 ≤ (seF n f V).2.1 then 4 else 0), t) else (seF n f V).2.2) := by
  rw [seF_app]
  unfold seS se1
  rw [if_neg (show ¬ (2, t).1 = 1 by show ¬ 2 = 1; decide), if_pos (show (2, t).1 = 2 from rfl)]
  by_cases e : 16 ≤ (seF n f V).2.1
  · simp only [if_pos e]
  · simp only [if_neg e]
/-- the same but for an error and where it stands -/
theorem GrI.news {X : gX} {K : gKo} {h : gH} {g p n dp er' : Nat} {f : Nat → Int32} {s : PSt} {ir ep' : Int32} {W : gWo} {V' : List (Nat × Nat)} {h1 : gH} (hd : ApG g p) (hI : GrI X K h g p n f s dp ir W) (hg : h1 g = some (grF g p ep' dp er' ir)) (hO : OffB h h1 g 1) (e1 : (seF n f V').1 = (seF n f s.2.2).1) (e2 : (seF n f V').2.1 = (seF n f s.2.2).2.1) (e3 : er' = (seF n f V').2.2.1) (e4 : ep' = (if (seF n f V').2.2.1 = 0 then -1 else nI (tks n f (seF n f V').2.2.2))) (e5 : (seF n f V').2.2.1 = 0 → (seF n f s.2.2).2.2.1 = 0) : GrI X K h1 g p n f (s.1, s.2.1, V') dp ir W := by
  obtain ⟨ep, S, gg, -, hep, hT, hP, hst, hws⟩ := hI
  unfold ApG at hd
  refine ⟨ep', S, gg, by rw [← e3]; exact hg, e4, hT.off hO (by omega), ?_, fun j x hx => ⟨(hst j x hx).1, fun q => ?_⟩, ?_⟩
  · show PlB X h1 p (seF n f V').1.length (seF n f V').2.1 s.2.1.length _ _ _ _ _ _
    rw [e1, e2]; exact hP.off hO (by omega)
  · show gg j = xvW n f (seF n f V').1 x
    rw [e1]; exact (hst j x hx).2 (e5 q)
  · show ∀ i D, (seF n f V').1[i]? = some D → _
    rw [e1]; exact hws
set_option maxRecDepth 100000 in
set_option maxHeartbeats 4000000 in
theorem m1_readHeard {X : gX} {h : gH} {z g p n dp : Nat} {f : Nat → Int32} {K : gKo} {s : PSt} {ir : Int32} {W : gWo} (k : Nat) (hk16 : k < 16) (hK : gCo X K) (hd : ApG g p) (hn : n ≤ 2000) (hs : PsOk n f s) (hI : GrI X K h g p n f s dp ir W) : gM X yX1_readHeard cX1_readHeard 2 (some .boolean) (4, 0, 0) [.ref g, .ref (p + 22 + 3 * k)] h z (fun r h' z' => r = some (.int (b2i (pNm (tkk n f) 3 s).1)) ∧ z' = z ∧ (∃ W', GrI X K h' g p n f (pNm (tkk n f) 3 s).2 dp ir W' ∧ WsM k W W' ∧ ((pNm (tkk n f) 3 s).1 = true → hsD (tkn n f s.1) = false → wdf (W'.1 (8 + k)) (W'.2.1 (8 + k)) (tkn n f s.1))) ∧ OffG h h' g p) gNoX := by
  have hI0 := hI
  have hd0 := hd
  have herr := se_err (n := n) (f := f) s.2.2
  have hsw := seF_word (n := n) (f := f) (V := s.2.2) (t := s.1)
  have hws8 := hs.ws.1.1
  unfold ApG at hd
  obtain ⟨ep, S, gg, hg, hep, hT, hP, hst, hws⟩ := hI
  obtain ⟨kf, S1, T1, en, hTT, hR⟩ := id hT
  refine gM.of px1 (Nat.le_of_ble_eq_true rfl) ?_
  intro F hE
  have fin : ∀ (h1 : gH), tkk n f s.1 = 2 → GrI X K h1 g p n f (s.1, s.2.1, s.2.2 ++ [(3, s.1)]) dp ir W → OffB h h1 g 1 → G X F cX1_readHeard 2 yX1_readHeard.cls (4, 0, 0) 0 0 30 [some (.ref g), some (.ref (p + 22 + 3 * k))] [] h1 z := by
    intro h1 hk hI1 hO1
    have hlt : s.1 < tkl n f := tk_lt (by omega) hs.1
    obtain ⟨ep1, S2, gg2, hg1, hep1, hT1, hP1, hst1, hws1⟩ := id hI1
    obtain ⟨kf, S1, T1, en, hTT, hR⟩ := id hT1
    have ee : pNm (tkk n f) 3 s = (true, (s.1 + 1, s.2.1, s.2.2 ++ [(3, s.1)])) := if_pos hk
    rw [ee] at hE
    refine g_aload_n dX1_readHeard_30 rfl ?_
    refine g_getf fl1_12 hg1 rfl dX1_readHeard_31 ?_
    refine g_aload_n dX1_readHeard_34 rfl ?_
    refine g_callV0 kX1_167 (m8_spell hk hn hT1 (hP1.2.2.2.2.2.2 k hk16).2 (by omega)) hTT.1.1 rfl rfl rfl (Nat.le_of_ble_eq_true rfl) (by decide) (by decide) (by decide) (by decide) dX1_readHeard_35 ?_
    rintro v1 h3 z1 ⟨rfl, rfl, ⟨wg, hW3, hw3⟩, hO3⟩
    have hP3 := hP1.word (i := 8 + k) (p + 22 + 3 * k) (Or.inr ⟨by omega, by omega, by omega⟩) hW3 hO3
    have hT3 := hT1.off hO3 (by omega)
    obtain ⟨kf3, S3, T3, en3, hTT3, hR3⟩ := id hT3
    refine g_aload_n dX1_readHeard_38 rfl ?_
    refine g_getf fl1_12 ((hO3 g (by omega)).trans hg1) rfl dX1_readHeard_39 ?_
    refine g_callV0 kX1_70 (m8_advance hlt hT3) hTT3.1.1 rfl rfl rfl (Nat.le_of_ble_eq_true rfl) (by decide) (by decide) (by decide) (by decide) dX1_readHeard_42 ?_
    rintro v1 h4 z1 ⟨rfl, rfl, hT4, hO4⟩
    refine g_iconst (nI 1) dX1_readHeard_45 (by decide) ?_
    refine g_iret hE rfl (⟨rfl, rfl, ⟨(va_up W.1 (8 + k) (tkn n f s.1).length, va_up W.2.1 (8 + k) wg, W.2.2.1, W.2.2.2), ⟨ep1, S2, gg2, (hO4 g (by omega)).trans ((hO3 g (by omega)).trans hg1), hep1, hT4, hP3.off hO4 (by omega), hst1, fun i D hD => ?_⟩, ⟨rfl, fun i hi => ⟨vu_ne hi, vu_ne hi⟩, fun _ _ _ => rfl⟩, fun _ q => ?_⟩, ((hO1.toG (by omega)).trans (hO3.toG (by omega))).trans (hO4.toG (by omega))⟩) dX1_readHeard_46
    · have hi : i < (seF n f s.2.2).1.length := by
        have h9 : (seF n f (s.2.2 ++ [(3, s.1)])).1[i]? = some D := hD
        rw [hsw] at h9
        exact (List.getElem?_eq_some_iff.mp h9).1
      show wdf (va_up W.1 (8 + k) _ i) (va_up W.2.1 (8 + k) wg i) D
      rw [vu_ne (by omega), vu_ne (by omega)]
      exact hws1 i D hD
    · show wdf (va_up W.1 (8 + k) _ (8 + k)) (va_up W.2.1 (8 + k) wg (8 + k)) _
      rw [vu_same, vu_same]
      exact hw3 q
  refine g_aload_n dX1_readHeard_0 rfl ?_
  refine g_getf fl1_12 hg rfl dX1_readHeard_1 ?_
  refine g_getf fl1_41 hTT.1.1 rfl dX1_readHeard_4 ?_
  refine g_gets (hK.1 2 (by decide)).1 wgX1_77 dX1_readHeard_7 ?_
  refine g_acmp_eq 15 dX1_readHeard_10 (by decide) (fun c_10 => ?_) (fun c_10 => ?_)
  · have hk : tkk n f s.1 = 2 := (hK.sm (tkk_lt n f s.1) (by decide)).mp c_10
    refine g_aload_n dX1_readHeard_15 rfl ?_
    refine g_getf fl1_12 hg rfl dX1_readHeard_16 ?_
    refine g_callV0 kX1_91 (m8_hasDigit hk hn hT) hTT.1.1 rfl rfl rfl (Nat.le_of_ble_eq_true rfl) (by decide) (by decide) (by decide) (by decide) dX1_readHeard_19 ?_
    rintro v1 h2 z1 ⟨rfl, rfl, rfl⟩
    refine g_if_eqB 30 dX1_readHeard_22 (by decide) (fun c_22 => ?_) (fun c_22 => ?_)
    · refine fin _ hk (GrI.news (V' := s.2.2 ++ [(3, s.1)]) hd0 hI0 hg OffB.rf (by rw [hsw]) (by rw [hsw]) (by rw [hsw, c_22]; by_cases e : (seF n f s.2.2).2.2.1 = 0 <;> simp [e]) ?_ ?_) OffB.rf
      · rw [hep, hsw, c_22]; by_cases e : (seF n f s.2.2).2.2.1 = 0 <;> simp [e]
      · rw [hsw, c_22]; by_cases e : (seF n f s.2.2).2.2.1 = 0 <;> simp [e]
    · refine g_aload_n dX1_readHeard_25 rfl ?_
      refine g_iconst (nI 5) dX1_readHeard_26 (by decide) ?_
      refine g_callV0 kX1_84 (m1_note 5 herr hg hT) hg rfl rfl rfl (Nat.le_of_ble_eq_true rfl) (by decide) (by decide) (by decide) (by decide) dX1_readHeard_27 ?_
      rintro v1 h3 z1 ⟨rfl, rfl, hg3, hO3⟩
      refine fin _ hk (GrI.news (V' := s.2.2 ++ [(3, s.1)]) hd0 hI0 hg3 hO3 (by rw [hsw]) (by rw [hsw]) (by rw [hsw, c_22]; by_cases e : (seF n f s.2.2).2.2.1 = 0 <;> simp [e]) ?_ ?_) hO3
      · rw [hep, hsw, c_22]; by_cases e : (seF n f s.2.2).2.2.1 = 0 <;> simp [e]
      · rw [hsw, c_22]; by_cases e : (seF n f s.2.2).2.2.1 = 0 <;> simp [e]
  · refine g_iconst (nI 0) dX1_readHeard_13 (by decide) ?_
    exact g_iret hE rfl (⟨by rw [show pNm (tkk n f) 3 s = (false, s) from if_neg (fun e => c_10 ((hK.sm (tkk_lt n f s.1) (by decide)).mpr e))]; rfl, rfl, ⟨W, by rw [show pNm (tkk n f) 3 s = (false, s) from if_neg (fun e => c_10 ((hK.sm (tkk_lt n f s.1) (by decide)).mpr e))]; exact hI0, WsM.rf, fun q => by rw [show pNm (tkk n f) 3 s = (false, s) from if_neg (fun e => c_10 ((hK.sm (tkk_lt n f s.1) (by decide)).mpr e))] at q; cases q⟩, OffG.rf⟩) dX1_readHeard_14
set_option maxRecDepth 100000 in
set_option maxHeartbeats 4000000 in
theorem m1_readWhat {X : gX} {h : gH} {z g p n dp : Nat} {f : Nat → Int32} {K : gKo} {s : PSt} {ir : Int32} {W : gWo} (a k : Nat) (hk16 : k < 16) (ha : 6 ≤ a ∧ a ≤ 9) (hK : gCo X K) (hd : ApG g p) (hn : n ≤ 2000) (hs : PsOk n f s) (hI : GrI X K h g p n f s 0 ir W) (hoA : W.2.2.1 k = K.1 a) : gM X yX1_readWhat cX1_readWhat 3 (some .boolean) (32, 0, 0) [.ref g, .ref (p + 21 + 3 * k)] h z (fun r h' z' => r = some (.int (b2i (pWh (tkk n f) (tku n f) a s).1)) ∧ z' = z ∧ (∃ dp' ir' W', GrI X K h' g p n f (pWh (tkk n f) (tku n f) a s).2 dp' ir' W' ∧ WsM k W W' ∧ ((pWh (tkk n f) (tku n f) a s).1 = true → dp' = 0 ∧ (a = 6 → hsD (tkn n f s.1) = false → wdf (W'.1 (8 + k)) (W'.2.1 (8 + k)) (tkn n f s.1)) ∧ (a = 7 → W'.2.2.2 k 0 = oI (fnd (seF n f s.2.2).1 (tkn n f s.1))))) ∧ OffG h h' g p) gNoX := by
  have ho := hI.orc hk16
  rw [hoA] at ho
  obtain ⟨fs, hg⟩ := hI.gat
  refine gM.of px1 (Nat.le_of_ble_eq_true rfl) ?_
  intro F hE
  refine g_aload_n dX1_readWhat_0 rfl ?_
  refine g_getf fl1_108 ho rfl dX1_readWhat_1 ?_
  refine g_gets (hK.1 6 (by decide)).1 wgX1_135 dX1_readWhat_4 ?_
  refine g_acmp_ne 19 dX1_readWhat_7 (by decide) (fun c_7 => ?_) (fun c_7 => ?_)
  · refine g_aload_n dX1_readWhat_19 rfl ?_
    refine g_getf fl1_108 ho rfl dX1_readWhat_20 ?_
    refine g_gets (hK.1 7 (by decide)).1 wgX1_138 dX1_readWhat_23 ?_
    refine g_acmp_ne 44 dX1_readWhat_26 (by decide) (fun c_26 => ?_) (fun c_26 => ?_)
    · refine g_aload_n dX1_readWhat_44 rfl ?_
      refine g_callV0 kX1_164 ((lvV_ct hK hd hn 8 (Nat.le_refl _)).2 _ _ _ _ _ hs hI) hg rfl rfl rfl (Nat.le_of_ble_eq_true rfl) (by decide) (by decide) (Nat.zero_le _) (Nat.zero_le _) dX1_readWhat_45 ?_
      rintro v1 h2 z1 ⟨rfl, rfl, ⟨dp2, ir2, hI2, hdp2⟩, hO2⟩
      have h8 : ¬ a = 6 ∧ ¬ a = 7 := ⟨fun q => c_7 ((hK.sm (by omega) (by decide)).mpr q), fun q => c_26 ((hK.sm (by omega) (by decide)).mpr q)⟩
      have hF : pWh (tkk n f) (tku n f) a = (lvV (tkk n f) (tku n f) 8).2 := by unfold pWh; rw [if_neg h8.1, if_neg h8.2]
      rw [hF] at hE
      exact g_iret hE (nrB _) ⟨rfl, rfl, ⟨dp2, ir2, W, hI2, WsM.rf, fun q => ⟨hdp2 q, (fun q => absurd q h8.1), fun q => absurd q h8.2⟩⟩, hO2⟩ dX1_readWhat_48
    · refine g_aload_n dX1_readWhat_29 rfl ?_
      refine g_callV0 kX1_155 (m1_readInsultName 4 (Or.inl rfl) hK hd hn hs hI) hg rfl rfl rfl (Nat.le_of_ble_eq_true rfl) (by decide) (by decide) (Nat.zero_le _) (Nat.zero_le _) dX1_readWhat_30 ?_
      rintro v1 h2 z1 ⟨rfl, rfl, ⟨ir2, hI2, hir2⟩, hO2⟩
      obtain ⟨ep2, S2, gg2, hg2, -⟩ := id hI2
      have ho2 := hI2.orc hk16
      refine g_istore_n dX1_readWhat_33 (by decide) rfl ?_
      refine g_aload_n dX1_readWhat_34 rfl ?_
      refine g_aload_n dX1_readWhat_35 rfl ?_
      refine g_getf fl1_158 hg2 rfl dX1_readWhat_36 ?_
      refine g_putf fl1_161 ho2 rfl rfl rfl (Nat.le_of_ble_eq_true rfl) dX1_readWhat_39 ?_
      refine g_iload_n dX1_readWhat_42 rfl ?_
      have ha7 : a = 7 := (hK.sm (by omega) (by decide)).mp c_26
      subst ha7
      refine g_iret hE (nrB _) ⟨rfl, rfl, ⟨0, ir2, _, hI2.ord hd hk16 (a := W.2.2.1 k) (J := upd (W.2.2.2 k) 0 ir2), ⟨?_, fun _ _ => ⟨rfl, rfl⟩, fun i j hij => ?_⟩, fun q => ⟨rfl, (fun q => by omega), fun _ => ?_⟩⟩, fun q a1 a2 => (gset_ne (by unfold ApG at hd; omega)).trans (hO2 q a1 a2)⟩ dX1_readWhat_43
      · funext i
        by_cases e : i = k
        · subst e; exact vu_same
        · exact vu_ne e
      · show va_up W.2.2.2 k (upd (W.2.2.2 k) 0 ir2) i j = W.2.2.2 i j
        by_cases e : i = k
        · subst e; rw [vu_same, upd_ne (by omega)]
        · rw [vu_ne e]
      · show va_up W.2.2.2 k (upd (W.2.2.2 k) 0 ir2) k 0 = _
        rw [vu_same, upd_same]; exact hir2 q
  · refine g_aload_n dX1_readWhat_10 rfl ?_
    refine g_aload_n dX1_readWhat_11 rfl ?_
    refine g_getf fl1_147 ho rfl dX1_readWhat_12 ?_
    refine g_callV0 kX1_151 (m1_readHeard k hk16 hK hd hn hs hI) hg rfl rfl rfl (Nat.le_of_ble_eq_true rfl) (by decide) (by decide) (Nat.zero_le _) (Nat.zero_le _) dX1_readWhat_15 ?_
    rintro v1 h2 z1 ⟨rfl, rfl, ⟨W2, hI2, hM2, hw2⟩, hO2⟩
    have ha6 : a = 6 := (hK.sm (by omega) (by decide)).mp c_7
    subst ha6
    exact g_iret hE (nrB _) ⟨rfl, rfl, ⟨0, ir, W2, hI2, hM2, fun q => ⟨rfl, fun _ => hw2 q, fun q => by omega⟩⟩, hO2⟩ dX1_readWhat_18
