/-! the grammar: the name of an insult is read -/
set_option maxRecDepth 100000 in
set_option maxHeartbeats 4000000 in
theorem m4_insultNamed {X : gX} {h : gH} {z p q n t no ns : Nat} {S : Nat → Option Nat} {g : Nat → Int32} {wn : Nat → Nat} {wf : Nat → Nat → Int32} {oA : Nat → Nat} {oJ : Nat → Nat → Int32} {f : Nat → Int32} {K : gKo} {Ws : List (List Nat)} (hP : PlB X h p Ws.length no ns S g wn wf oA oJ) (hws : ∀ i D, Ws[i]? = some D → wdf (wn i) (wf i) D) (hok : WsOk Ws) (hk : tkk n f t = 2) (hn : n ≤ 2000) (hT : TkO X K h q n f t) : gM X yX4_insultNamed cX4_insultNamed 3 (some .int) (3, 0, 0) [.ref p, .ref q] h z (pR h z (oI (fnd Ws (tkn n f t)))) gNoX := by
  obtain ⟨h8, hD⟩ := hok
  obtain ⟨kf, S1, T1, en, hTT, hR⟩ := id hT
  obtain ⟨f5, h5, g5⟩ := hP.2.2.2.2.1
  refine gM.of px4 (Nat.le_of_ble_eq_true rfl) ?_
  intro F hE
  have loop : ∀ (r i : Nat), i + r = Ws.length → (∀ j, j < i → Ws.getD j [] ≠ tkn n f t) → G X F cX4_insultNamed 3 yX4_insultNamed.cls (3, 0, 0) 0 0 2 [some (.ref p), some (.ref q), some (.int (nI i))] [] h z := by
    intro r
    induction r with
    | zero =>
      intro i hi hm
      refine g_iload_n dX4_insultNamed_2 rfl ?_
      refine g_aload_n dX4_insultNamed_3 rfl ?_
      refine g_getf fl4_39 hP.1 rfl dX4_insultNamed_4 ?_
      refine g_icmp_geN 31 dX4_insultNamed_7 (by decide) (by omega) (by omega) (fun c_7 => ?_) (fun c_7 => ?_)
      · refine g_iconst (-1) dX4_insultNamed_31 (by decide) ?_
        exact g_iret hE rfl (⟨by
          rw [show fnd Ws (tkn n f t) = none from fstA_none.mpr (fun j _ hj => decide_eq_false (hm j (by omega)))]
          rfl, rfl, rfl⟩) dX4_insultNamed_32
      · exact absurd c_7 (by omega)
    | succ r ih =>
      intro i hi hm
      have hil : i < Ws.length := by omega
      have hget : Ws[i]? = some Ws[i] := List.getElem?_eq_getElem hil
      have hDi := hD _ (List.getElem_mem hil)
      have hgd : Ws.getD i [] = Ws[i] := by rw [List.getD_eq_getElem?_getD, hget]; rfl
      refine g_iload_n dX4_insultNamed_2 rfl ?_
      refine g_aload_n dX4_insultNamed_3 rfl ?_
      refine g_getf fl4_39 hP.1 rfl dX4_insultNamed_4 ?_
      refine g_icmp_geN 31 dX4_insultNamed_7 (by decide) (by omega) (by omega) (fun c_7 => ?_) (fun c_7 => ?_)
      · exact absurd c_7 (by omega)
      · refine g_aload_n dX4_insultNamed_10 rfl ?_
        refine g_aload_n dX4_insultNamed_11 rfl ?_
        refine g_getf fl4_29 hP.1 rfl dX4_insultNamed_12 ?_
        refine g_iload_n dX4_insultNamed_15 rfl ?_
        refine g_aaldN h5 rfl (by omega) (by decide) (g5 i (by omega)) dX4_insultNamed_16 ?_
        refine g_callV0 kX4_49 (m8_spells hk hn hT (hP.2.2.2.2.2.1 i (by omega)) (hws i _ hget) hDi.2 hDi.1.2) hTT.1.1 rfl rfl rfl (Nat.le_of_ble_eq_true rfl) (by decide) (by decide) (by decide) (by decide) dX4_insultNamed_17 ?_
        rintro v1 h2 z1 ⟨rfl, rfl, rfl⟩
        refine g_if_eqB 25 dX4_insultNamed_20 (by decide) (fun c_20 => ?_) (fun c_20 => ?_)
        · refine g_iincN dX4_insultNamed_25 rfl (by decide) rfl ?_
          refine g_goto 2 dX4_insultNamed_28 (by decide) ?_
          refine ih (i + 1) (by omega) (fun j hj => ?_)
          by_cases e : j = i
          · subst e; rw [hgd]; exact fun q => of_decide_eq_false c_20 q.symm
          · exact hm j (by omega)
        · refine g_iload_n dX4_insultNamed_23 rfl ?_
          exact g_iret hE rfl (⟨by
            rw [show fnd Ws (tkn n f t) = some i from fnd_some.mpr ⟨hil, by rw [hgd]; exact (of_decide_eq_true c_20).symm, hm⟩]
            rfl, rfl, rfl⟩) dX4_insultNamed_24
  refine g_iconst (nI 0) dX4_insultNamed_0 (by decide) ?_
  refine g_istore_n dX4_insultNamed_1 (by decide) rfl ?_
  exact loop Ws.length 0 (by omega) (fun j hj => absurd hj (Nat.not_lt_zero _))
theorem oI_neg {o : Option Nat} {k : Nat} (h : ∀ i, o = some i → i < k) (hk : k < 2 ^ 31) : (0 ≤ oI o) ↔ o.isSome = true := by
  cases o with
  | none => exact ⟨fun q => absurd q (by decide), fun q => by cases q⟩
  | some i => exact ⟨fun _ => rfl, fun _ => Int32.not_lt.mp (nI_pos (by have := h i rfl; omega))⟩
theorem seF_name {n : Nat} {f : Nat → Int32} {V : List (Nat × Nat)} {m t : Nat} (hm : m = 4 ∨ m = 5) : seF n f (V ++ [(m, t)]) = ((seF n f V).1, (seF n f V).2.1, if (seF n f V).2.2.1 = 0 then ((if (fnd (seF n f V).1 (tkn n f t)).isSome = true then 0 else 3), t) else (seF n f V).2.2) := by
  rw [seF_app]
  unfold seS se1
  rw [if_neg (show ¬ (m, t).1 = 1 by show ¬ m = 1; omega), if_neg (show ¬ (m, t).1 = 2 by show ¬ m = 2; omega), if_neg (show ¬ (m, t).1 = 3 by show ¬ m = 3; omega)]
  show (_, _, _) = (_, _, _)
  by_cases e : (fnd (seF n f V).1 (tkn n f t)).isSome = true
  · simp only [if_pos e]
  · simp only [if_neg e]
theorem se_err {n : Nat} {f : Nat → Int32} (V : List (Nat × Nat)) : (seF n f V).2.2.1 < 10 := by
  have key : ∀ (V : List (Nat × Nat)) (a : SeM), a.2.2.1 < 10 → (V.foldl (seS n f) a).2.2.1 < 10 := by
    intro V
    induction V with
    | nil => intro a ha; exact ha
    | cons e V ih =>
      intro a ha
      refine ih _ ?_
      unfold seS se1
      show (if a.2.2.1 = 0 then _ else a.2.2).1 < 10
      split
      · show (ite _ _ _ : Nat × List (List Nat) × Nat).1 < 10
        repeat' split
        all_goals exact Nat.le_of_ble_eq_true rfl
      · exact ha
  exact key V _ (by decide)
set_option maxRecDepth 100000 in
set_option maxHeartbeats 4000000 in
theorem m1_readInsultName {X : gX} {h : gH} {z g p n dp : Nat} {f : Nat → Int32} {K : gKo} {s : PSt} {ir : Int32} {W : gWo} (m : Nat) (hm : m = 4 ∨ m = 5) (hK : gCo X K) (hd : ApG g p) (hn : n ≤ 2000) (hs : PsOk n f s) (hI : GrI X K h g p n f s dp ir W) : gM X yX1_readInsultName cX1_readInsultName 1 (some .boolean) (4, 0, 0) [.ref g] h z (fun r h' z' => r = some (.int (b2i (pNm (tkk n f) m s).1)) ∧ z' = z ∧ (∃ ir', GrI X K h' g p n f (pNm (tkk n f) m s).2 dp ir' W ∧ ((pNm (tkk n f) m s).1 = true → ir' = oI (fnd (seF n f s.2.2).1 (tkn n f s.1)))) ∧ OffG h h' g p) gNoX := by
  have hI0 := hI
  have hwok := hs.ws.1
  have herr := se_err (n := n) (f := f) s.2.2
  have hsn := seF_name (n := n) (f := f) (V := s.2.2) (t := s.1) hm
  unfold ApG at hd
  obtain ⟨ep, S, gg, hg, hep, hT, hP, hst, hws⟩ := hI
  obtain ⟨kf, S1, T1, en, hTT, hR⟩ := id hT
  refine gM.of px1 (Nat.le_of_ble_eq_true rfl) ?_
  intro F hE
  have fin : ∀ (h1 : gH) (ep' : Int32) (er' : Nat), tkk n f s.1 = 2 → h1 g = some (grF g p ep' dp er' (oI (fnd (seF n f s.2.2).1 (tkn n f s.1)))) → er' = (seF n f (s.2.2 ++ [(m, s.1)])).2.2.1 → ep' = (if (seF n f (s.2.2 ++ [(m, s.1)])).2.2.1 = 0 then -1 else nI (tks n f (seF n f (s.2.2 ++ [(m, s.1)])).2.2.2)) → OffB h h1 g 1 → G X F cX1_readInsultName 1 yX1_readInsultName.cls (4, 0, 0) 0 0 42 [some (.ref g)] [] h1 z := by
    intro h1 ep' er' hk hg1 he1 hp1 hO1
    have hlt : s.1 < tkl n f := tk_lt (by omega) hs.1
    have hT1 := hT.off hO1 (by omega)
    obtain ⟨kf, S1, T1, en, hTT, hR⟩ := id hT1
    have ee : pNm (tkk n f) m s = (true, (s.1 + 1, s.2.1, s.2.2 ++ [(m, s.1)])) := if_pos hk
    rw [ee] at hE
    refine g_aload_n dX1_readInsultName_42 rfl ?_
    refine g_getf fl1_12 hg1 rfl dX1_readInsultName_43 ?_
    refine g_callV0 kX1_70 (m8_advance hlt hT1) hTT.1.1 rfl rfl rfl (Nat.le_of_ble_eq_true rfl) (by decide) (by decide) (by decide) (by decide) dX1_readInsultName_46 ?_
    rintro v1 h3 z1 ⟨rfl, rfl, hT2, hO2⟩
    refine g_iconst (nI 1) dX1_readInsultName_49 (by decide) ?_
    refine g_iret hE rfl (⟨rfl, rfl, ⟨_, ⟨ep', S, gg, ?_, hp1, hT2, ?_, ?_, ?_⟩, fun _ => rfl⟩, (hO1.toG (by omega)).trans (hO2.toG (by omega))⟩) dX1_readInsultName_50
    · show h3 g = some (grF g p ep' dp (seF n f (s.2.2 ++ [(m, s.1)])).2.2.1 _)
      rw [← he1]
      exact (hO2 g (by omega)).trans hg1
    · show PlB X h3 p (seF n f (s.2.2 ++ [(m, s.1)])).1.length (seF n f (s.2.2 ++ [(m, s.1)])).2.1 s.2.1.length _ _ _ _ _ _
      rw [hsn]
      exact (hP.off hO1 (by omega)).off hO2 (by omega)
    · intro j x hx
      obtain ⟨a1, a2⟩ := hst j x hx
      refine ⟨a1, fun q => ?_⟩
      have q2 : (seF n f (s.2.2 ++ [(m, s.1)])).2.2.1 = 0 := q
      show gg j = xvW n f (seF n f (s.2.2 ++ [(m, s.1)])).1 x
      rw [hsn] at q2 ⊢
      refine a2 ?_
      by_cases e : (seF n f s.2.2).2.2.1 = 0
      · exact e
      · simp only [if_neg e] at q2
        exact q2
    · intro i D hD
      refine hws i D ?_
      have : (seF n f (s.2.2 ++ [(m, s.1)])).1[i]? = some D := hD
      rw [hsn] at this
      exact this
  refine g_aload_n dX1_readInsultName_0 rfl ?_
  refine g_getf fl1_12 hg rfl dX1_readInsultName_1 ?_
  refine g_getf fl1_41 hTT.1.1 rfl dX1_readInsultName_4 ?_
  refine g_gets (hK.1 2 (by decide)).1 wgX1_77 dX1_readInsultName_7 ?_
  refine g_acmp_eq 15 dX1_readInsultName_10 (by decide) (fun c_10 => ?_) (fun c_10 => ?_)
  · have hk : tkk n f s.1 = 2 := (hK.sm (tkk_lt n f s.1) (by decide)).mp c_10
    have hfl : ∀ i, fnd (seF n f s.2.2).1 (tkn n f s.1) = some i → i < (seF n f s.2.2).1.length := fun i q => (fnd_some.mp q).1
    have hon := oI_neg hfl (by have := hwok.1; omega)
    refine g_aload_n dX1_readInsultName_15 rfl ?_
    refine g_aload_n dX1_readInsultName_16 rfl ?_
    refine g_getf fl1_21 hg rfl dX1_readInsultName_17 ?_
    refine g_aload_n dX1_readInsultName_20 rfl ?_
    refine g_getf fl1_12 hg rfl dX1_readInsultName_21 ?_
    refine g_callV0 kX1_80 (m4_insultNamed hP hws hwok hk hn hT) hP.1 rfl rfl rfl (Nat.le_of_ble_eq_true rfl) (by decide) (by decide) (by decide) (by decide) dX1_readInsultName_24 ?_
    rintro v1 h2 z1 ⟨rfl, rfl, rfl⟩
    refine g_putf fl1_158 hg rfl rfl rfl (Nat.le_of_ble_eq_true rfl) dX1_readInsultName_27 ?_
    refine g_aload_n dX1_readInsultName_30 rfl ?_
    refine g_getf fl1_158 gset_same rfl dX1_readInsultName_31 ?_
    refine g_if_ge 42 dX1_readInsultName_34 (by decide) (fun c_34 => ?_) (fun c_34 => ?_)
    · exact fin _ ep (seF n f s.2.2).2.2.1 hk gset_same (by rw [hsn, if_pos (hon.mp c_34)]; split <;> simp [*]) (by rw [hep, hsn, if_pos (hon.mp c_34)]; by_cases e : (seF n f s.2.2).2.2.1 = 0 <;> simp [e]) (OffB.rf.put (by omega) (by omega))
    · refine g_aload_n dX1_readInsultName_37 rfl ?_
      refine g_iconst (nI 3) dX1_readInsultName_38 (by decide) ?_
      have hT1 := hT.put (b := g) (e := grF g p ep dp (seF n f s.2.2).2.2.1 (oI (fnd (seF n f s.2.2).1 (tkn n f s.1)))) (by omega)
      refine g_callV0 kX1_84 (m1_note 3 herr gset_same hT1) gset_same rfl rfl rfl (Nat.le_of_ble_eq_true rfl) (by decide) (by decide) (by decide) (by decide) dX1_readInsultName_39 ?_
      rintro v1 h3 z1 ⟨rfl, rfl, hg3, hO3⟩
      have hno : ¬ (fnd (seF n f s.2.2).1 (tkn n f s.1)).isSome = true := fun q => c_34 (hon.mpr q)
      refine fin _ _ _ hk hg3 (by rw [hsn, if_neg hno]; by_cases e : (seF n f s.2.2).2.2.1 = 0 <;> simp [e]) ?_ ((OffB.rf.put (by omega) (by omega)).trans hO3)
      rw [hep, hsn, if_neg hno]
      by_cases e : (seF n f s.2.2).2.2.1 = 0 <;> simp [e]
  · refine g_iconst (nI 0) dX1_readInsultName_13 (by decide) ?_
    exact g_iret hE rfl (⟨by rw [show pNm (tkk n f) m s = (false, s) from if_neg (fun e => c_10 ((hK.sm (tkk_lt n f s.1) (by decide)).mpr e))]; rfl, rfl, ⟨ir, by rw [show pNm (tkk n f) m s = (false, s) from if_neg (fun e => c_10 ((hK.sm (tkk_lt n f s.1) (by decide)).mpr e))]; exact hI0, fun q => by rw [show pNm (tkk n f) m s = (false, s) from if_neg (fun e => c_10 ((hK.sm (tkk_lt n f s.1) (by decide)).mpr e))] at q; cases q⟩, OffG.rf⟩) dX1_readInsultName_14
set_option maxRecDepth 100000 in
set_option maxHeartbeats 4000000 in
theorem m1_isComparison {X : gX} {h : gH} {z c : Nat} {K : gKo} (hc : c < 39) (hK : gCo X K) : gM X yX1_isComparison cX1_isComparison 1 (some .boolean) (0, 0, 0) [.ref (K.1 c)] h z (pR h z (b2i (decide (34 ≤ c ∧ c ≤ 38)))) gNoX := by
  refine gM.of px1 (Nat.le_of_ble_eq_true rfl) ?_
  intro F hE
  refine g_aload_n dX1_isComparison_0 rfl ?_
  refine g_gets (hK.1 34 (by decide)).1 wgX1_221 dX1_isComparison_1 ?_
  refine g_acmp_eq 35 dX1_isComparison_4 (by decide) (fun c_4 => ?_) (fun c_4 => ?_)
  · refine g_iconst (nI 1) dX1_isComparison_35 (by decide) ?_
    refine g_goto 40 dX1_isComparison_36 (by decide) ?_
    exact g_iret hE rfl (by simp only [hK.sm hc (show (34 : Nat) < 39 by decide), hK.sm hc (show (35 : Nat) < 39 by decide), hK.sm hc (show (36 : Nat) < 39 by decide), hK.sm hc (show (37 : Nat) < 39 by decide), hK.sm hc (show (38 : Nat) < 39 by decide)] at *; exact ⟨by first | (rw [decide_eq_true (by omega)]; rfl) | (rw [decide_eq_false (by omega)]; rfl), rfl, rfl⟩) dX1_isComparison_40
  · refine g_aload_n dX1_isComparison_7 rfl ?_
    refine g_gets (hK.1 35 (by decide)).1 wgX1_224 dX1_isComparison_8 ?_
    refine g_acmp_eq 35 dX1_isComparison_11 (by decide) (fun c_11 => ?_) (fun c_11 => ?_)
    · refine g_iconst (nI 1) dX1_isComparison_35 (by decide) ?_
      refine g_goto 40 dX1_isComparison_36 (by decide) ?_
      exact g_iret hE rfl (by simp only [hK.sm hc (show (34 : Nat) < 39 by decide), hK.sm hc (show (35 : Nat) < 39 by decide), hK.sm hc (show (36 : Nat) < 39 by decide), hK.sm hc (show (37 : Nat) < 39 by decide), hK.sm hc (show (38 : Nat) < 39 by decide)] at *; exact ⟨by first | (rw [decide_eq_true (by omega)]; rfl) | (rw [decide_eq_false (by omega)]; rfl), rfl, rfl⟩) dX1_isComparison_40
    · refine g_aload_n dX1_isComparison_14 rfl ?_
      refine g_gets (hK.1 36 (by decide)).1 wgX1_227 dX1_isComparison_15 ?_
      refine g_acmp_eq 35 dX1_isComparison_18 (by decide) (fun c_18 => ?_) (fun c_18 => ?_)
      · refine g_iconst (nI 1) dX1_isComparison_35 (by decide) ?_
        refine g_goto 40 dX1_isComparison_36 (by decide) ?_
        exact g_iret hE rfl (by simp only [hK.sm hc (show (34 : Nat) < 39 by decide), hK.sm hc (show (35 : Nat) < 39 by decide), hK.sm hc (show (36 : Nat) < 39 by decide), hK.sm hc (show (37 : Nat) < 39 by decide), hK.sm hc (show (38 : Nat) < 39 by decide)] at *; exact ⟨by first | (rw [decide_eq_true (by omega)]; rfl) | (rw [decide_eq_false (by omega)]; rfl), rfl, rfl⟩) dX1_isComparison_40
      · refine g_aload_n dX1_isComparison_21 rfl ?_
        refine g_gets (hK.1 37 (by decide)).1 wgX1_230 dX1_isComparison_22 ?_
        refine g_acmp_eq 35 dX1_isComparison_25 (by decide) (fun c_25 => ?_) (fun c_25 => ?_)
        · refine g_iconst (nI 1) dX1_isComparison_35 (by decide) ?_
          refine g_goto 40 dX1_isComparison_36 (by decide) ?_
          exact g_iret hE rfl (by simp only [hK.sm hc (show (34 : Nat) < 39 by decide), hK.sm hc (show (35 : Nat) < 39 by decide), hK.sm hc (show (36 : Nat) < 39 by decide), hK.sm hc (show (37 : Nat) < 39 by decide), hK.sm hc (show (38 : Nat) < 39 by decide)] at *; exact ⟨by first | (rw [decide_eq_true (by omega)]; rfl) | (rw [decide_eq_false (by omega)]; rfl), rfl, rfl⟩) dX1_isComparison_40
        · refine g_aload_n dX1_isComparison_28 rfl ?_
          refine g_gets (hK.1 38 (by decide)).1 wgX1_233 dX1_isComparison_29 ?_
          refine g_acmp_ne 39 dX1_isComparison_32 (by decide) (fun c_32 => ?_) (fun c_32 => ?_)
          · refine g_iconst (nI 0) dX1_isComparison_39 (by decide) ?_
            exact g_iret hE rfl (by simp only [hK.sm hc (show (34 : Nat) < 39 by decide), hK.sm hc (show (35 : Nat) < 39 by decide), hK.sm hc (show (36 : Nat) < 39 by decide), hK.sm hc (show (37 : Nat) < 39 by decide), hK.sm hc (show (38 : Nat) < 39 by decide)] at *; exact ⟨by first | (rw [decide_eq_true (by omega)]; rfl) | (rw [decide_eq_false (by omega)]; rfl), rfl, rfl⟩) dX1_isComparison_40
          · refine g_iconst (nI 1) dX1_isComparison_35 (by decide) ?_
            refine g_goto 40 dX1_isComparison_36 (by decide) ?_
            exact g_iret hE rfl (by simp only [hK.sm hc (show (34 : Nat) < 39 by decide), hK.sm hc (show (35 : Nat) < 39 by decide), hK.sm hc (show (36 : Nat) < 39 by decide), hK.sm hc (show (37 : Nat) < 39 by decide), hK.sm hc (show (38 : Nat) < 39 by decide)] at *; exact ⟨by first | (rw [decide_eq_true (by omega)]; rfl) | (rw [decide_eq_false (by omega)]; rfl), rfl, rfl⟩) dX1_isComparison_40
set_option maxRecDepth 100000 in
set_option maxHeartbeats 4000000 in
theorem m1_isAction {X : gX} {h : gH} {z c : Nat} {K : gKo} (hc : c < 39) (hK : gCo X K) : gM X yX1_isAction cX1_isAction 1 (some .boolean) (0, 0, 0) [.ref (K.1 c)] h z (pR h z (b2i (decide (6 ≤ c ∧ c ≤ 9)))) gNoX := by
  refine gM.of px1 (Nat.le_of_ble_eq_true rfl) ?_
  intro F hE
  refine g_aload_n dX1_isAction_0 rfl ?_
  refine g_gets (hK.1 6 (by decide)).1 wgX1_135 dX1_isAction_1 ?_
  refine g_acmp_eq 28 dX1_isAction_4 (by decide) (fun c_4 => ?_) (fun c_4 => ?_)
  · refine g_iconst (nI 1) dX1_isAction_28 (by decide) ?_
    refine g_goto 33 dX1_isAction_29 (by decide) ?_
    exact g_iret hE rfl (by simp only [hK.sm hc (show (6 : Nat) < 39 by decide), hK.sm hc (show (7 : Nat) < 39 by decide), hK.sm hc (show (8 : Nat) < 39 by decide), hK.sm hc (show (9 : Nat) < 39 by decide)] at *; exact ⟨by first | (rw [decide_eq_true (by omega)]; rfl) | (rw [decide_eq_false (by omega)]; rfl), rfl, rfl⟩) dX1_isAction_33
  · refine g_aload_n dX1_isAction_7 rfl ?_
    refine g_gets (hK.1 7 (by decide)).1 wgX1_138 dX1_isAction_8 ?_
    refine g_acmp_eq 28 dX1_isAction_11 (by decide) (fun c_11 => ?_) (fun c_11 => ?_)
    · refine g_iconst (nI 1) dX1_isAction_28 (by decide) ?_
      refine g_goto 33 dX1_isAction_29 (by decide) ?_
      exact g_iret hE rfl (by simp only [hK.sm hc (show (6 : Nat) < 39 by decide), hK.sm hc (show (7 : Nat) < 39 by decide), hK.sm hc (show (8 : Nat) < 39 by decide), hK.sm hc (show (9 : Nat) < 39 by decide)] at *; exact ⟨by first | (rw [decide_eq_true (by omega)]; rfl) | (rw [decide_eq_false (by omega)]; rfl), rfl, rfl⟩) dX1_isAction_33
    · refine g_aload_n dX1_isAction_14 rfl ?_
      refine g_gets (hK.1 8 (by decide)).1 wgX1_141 dX1_isAction_15 ?_
      refine g_acmp_eq 28 dX1_isAction_18 (by decide) (fun c_18 => ?_) (fun c_18 => ?_)
      · refine g_iconst (nI 1) dX1_isAction_28 (by decide) ?_
        refine g_goto 33 dX1_isAction_29 (by decide) ?_
        exact g_iret hE rfl (by simp only [hK.sm hc (show (6 : Nat) < 39 by decide), hK.sm hc (show (7 : Nat) < 39 by decide), hK.sm hc (show (8 : Nat) < 39 by decide), hK.sm hc (show (9 : Nat) < 39 by decide)] at *; exact ⟨by first | (rw [decide_eq_true (by omega)]; rfl) | (rw [decide_eq_false (by omega)]; rfl), rfl, rfl⟩) dX1_isAction_33
      · refine g_aload_n dX1_isAction_21 rfl ?_
        refine g_gets (hK.1 9 (by decide)).1 wgX1_144 dX1_isAction_22 ?_
        refine g_acmp_ne 32 dX1_isAction_25 (by decide) (fun c_25 => ?_) (fun c_25 => ?_)
        · refine g_iconst (nI 0) dX1_isAction_32 (by decide) ?_
          exact g_iret hE rfl (by simp only [hK.sm hc (show (6 : Nat) < 39 by decide), hK.sm hc (show (7 : Nat) < 39 by decide), hK.sm hc (show (8 : Nat) < 39 by decide), hK.sm hc (show (9 : Nat) < 39 by decide)] at *; exact ⟨by first | (rw [decide_eq_true (by omega)]; rfl) | (rw [decide_eq_false (by omega)]; rfl), rfl, rfl⟩) dX1_isAction_33
        · refine g_iconst (nI 1) dX1_isAction_28 (by decide) ?_
          refine g_goto 33 dX1_isAction_29 (by decide) ?_
          exact g_iret hE rfl (by simp only [hK.sm hc (show (6 : Nat) < 39 by decide), hK.sm hc (show (7 : Nat) < 39 by decide), hK.sm hc (show (8 : Nat) < 39 by decide), hK.sm hc (show (9 : Nat) < 39 by decide)] at *; exact ⟨by first | (rw [decide_eq_true (by omega)]; rfl) | (rw [decide_eq_false (by omega)]; rfl), rfl, rfl⟩) dX1_isAction_33
