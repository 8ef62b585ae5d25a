/-! the grammar: the plan is read -/
theorem PlB.nss {X : gX} {h : gH} {p nw no ns ns' : Nat} {S : Nat → Option Nat} {g : Nat → Int32} {wn : Nat → Nat} {wf : Nat → Nat → Int32} {oA : Nat → Nat} {oJ : Nat → Nat → Int32} (hP : PlB X h p nw no ns S g wn wf oA oJ) : PlB X (gset h p (.inr (3, [.ref (p + 1), .ref (p + 2), .ref (p + 3), .int (nI nw), .int (nI no), .int (nI ns'), .ref (p + 4)]))) p nw no ns' S g wn wf oA oJ := by
  obtain ⟨h1, ⟨f2, h2, g2⟩, h3, h4, ⟨f5, h5, g5⟩, h6, h7⟩ := hP
  exact ⟨gset_same, ⟨f2, (gset_ne (by omega)).trans h2, g2⟩, (gset_ne (by omega)).trans h3, (gset_ne (by omega)).trans h4, ⟨f5, (gset_ne (by omega)).trans h5, g5⟩, fun i hi => (h6 i hi).off (b := p) (m := 1) (fun q hq => gset_ne (by omega)) (by omega), fun k hk => ⟨(gset_ne (by omega)).trans (h7 k hk).1, (h7 k hk).2.off (b := p) (m := 1) (fun q hq => gset_ne (by omega)) (by omega)⟩⟩
set_option maxRecDepth 100000 in
set_option maxHeartbeats 4000000 in
theorem m4_clear {X : gX} {h : gH} {z p nw no ns : Nat} {S : Nat → Option Nat} {g : Nat → Int32} {wn : Nat → Nat} {wf : Nat → Nat → Int32} {oA : Nat → Nat} {oJ : Nat → Nat → Int32} (hP : PlB X h p nw no ns S g wn wf oA oJ) : gM X yX4_clear cX4_clear 1 none (0, 0, 0) [.ref p] h z (fun r h' z' => r = none ∧ z' = z ∧ PlB X h' p 0 0 0 S g wn wf oA oJ ∧ OffB h h' p 1) gNoX := by
  have hPa := hP.nws (nw' := 0)
  have hPb := hPa.nos (no' := 0)
  have hPc := hPb.nss (ns' := 0)
  refine gM.of px4 (Nat.le_of_ble_eq_true rfl) ?_
  intro F hE
  refine g_aload_n dX4_clear_0 rfl ?_
  refine g_iconst (nI 0) dX4_clear_1 (by decide) ?_
  refine g_putf fl4_39 (hP.1) rfl rfl rfl (Nat.le_of_ble_eq_true rfl) dX4_clear_2 ?_
  refine g_aload_n dX4_clear_5 rfl ?_
  refine g_iconst (nI 0) dX4_clear_6 (by decide) ?_
  refine g_putf fl4_43 (hPa.1) rfl rfl rfl (Nat.le_of_ble_eq_true rfl) dX4_clear_7 ?_
  refine g_aload_n dX4_clear_10 rfl ?_
  refine g_iconst (nI 0) dX4_clear_11 (by decide) ?_
  refine g_putf fl4_46 (hPb.1) rfl rfl rfl (Nat.le_of_ble_eq_true rfl) dX4_clear_12 ?_
  exact g_vret hE (⟨rfl, rfl, hPc, ((OffB.rf.put (by omega) (by omega)).put (by omega) (by omega)).put (by omega) (by omega)⟩) dX4_clear_15
theorem pLn_ok {n : Nat} {f : Nat → Int32} {s : PLt} (h : BkOk n f s) : PsOk n f (pLn (tkk n f) (tku n f) s).2.1 ∧ s.1.1 ≤ (pLn (tkk n f) (tku n f) s).2.1.1 ∧ ((pLn (tkk n f) (tku n f) s).1 = true → BkOk n f (pLn (tkk n f) (tku n f) s).2 ∧ s.1.1 < (pLn (tkk n f) (tku n f) s).2.1.1) := by
  have hl := (tkl_spec n f).2.1
  unfold pLn
  by_cases e5 : tkk n f s.1.1 = 5
  · rw [if_pos e5]
    have h1 := h.1.step (Ps.tk hl (c := 5) (by decide)) (by decide) (by decide)
    rw [pTk_y e5] at h1
    have hN : Ps (tkk n f) (tkl n f) (pNm (tkk n f) 1) 1 0 (fun X => X = []) := Ps.nm hl (by decide) (by decide)
    have h2 := h1.step hN (by decide) (by decide)
    obtain ⟨X, V, a1, a2, -⟩ := h1.mono hN
    have a2' : s.1.1 + 1 ≤ (pNm (tkk n f) 1 (s.1.1 + 1, s.1.2)).2.1 := a2
    refine ⟨h2, by show s.1.1 ≤ (pNm (tkk n f) 1 (s.1.1 + 1, s.1.2)).2.1; omega, fun _ => ⟨⟨h2, ?_, fun o ho => ?_⟩, by show s.1.1 < (pNm (tkk n f) 1 (s.1.1 + 1, s.1.2)).2.1; omega⟩⟩
    · show s.2.length = nOr (pNm (tkk n f) 1 (s.1.1 + 1, s.1.2)).2.2.2
      rw [(NoO.nm (K := tkk n f) (m := 1) (by decide)).len]
      exact h.2.1
    · show OrK (pNm (tkk n f) 1 (s.1.1 + 1, s.1.2)).2.2.1 (pNm (tkk n f) 1 (s.1.1 + 1, s.1.2)).2.2.2 o
      rw [show (pNm (tkk n f) 1 (s.1.1 + 1, s.1.2)).2.2.1 = s.1.2.1 ++ X from by rw [a1], show (pNm (tkk n f) 1 (s.1.1 + 1, s.1.2)).2.2.2 = s.1.2.2 ++ V from by rw [a1]]
      exact (h.2.2 o ho).app
  · rw [if_neg e5]
    by_cases ha : 6 ≤ tkk n f s.1.1 ∧ tkk n f s.1.1 ≤ 9
    · rw [if_pos ha]
      obtain ⟨b1, b2, b3⟩ := pOr_ok h ha
      exact ⟨b1, Nat.le_of_lt b2, fun q => ⟨b3 q, b2⟩⟩
    · rw [if_neg ha]
      exact ⟨h.1, Nat.le_refl _, fun q => by cases q⟩
theorem pLn_od {K nu : Nat → Nat} {s : PLt} (h : K s.1.1 ≠ 5) : pLn K nu s = pOd K nu s := by
  unfold pLn pOd; rw [if_neg h]
/-- a tape that was read -/
def bkR (n : Nat) (f : Nat → Int32) : Bool × PLt := pBk (tkk n f) (tku n f) 401 ((0, [], []), [])
def bkE (n : Nat) (f : Nat → Int32) : Nat := if (bkR n f).1 = true then (seF n f (bkR n f).2.1.2.2).2.2.1 else 1
def bkP (n : Nat) (f : Nat → Int32) : Int32 := if (bkR n f).1 = true then (if (seF n f (bkR n f).2.1.2.2).2.2.1 = 0 then -1 else nI (tks n f (seF n f (bkR n f).2.1.2.2).2.2.2)) else nI (tks n f (bkR n f).2.1.1)
theorem PlC.of {X : gX} {K : gKo} {h : gH} {g p n : Nat} {f : Nat → Int32} {s : PLt} {dp : Nat} {ir : Int32} {W : gWo} (hB : BkOk n f s) (hO : OrOk K n f s W) (hI : GrI X K h g p n f s.1 dp ir W) (he : (seF n f s.1.2.2).2.2.1 = 0) : PlC X K h p (plM n f s) := by
  obtain ⟨ep, S, gg, -, -, -, hP, hst, hws⟩ := hI
  refine ⟨S, gg, W.1, W.2.1, W.2.2.1, W.2.2.2, ?_, fun i hi => hws i _ (getD_mem hi).2, fun k hk => ?_, fun j hj => ?_⟩
  · show PlB X h p (seF n f s.1.2.2).1.length s.2.length s.1.2.1.length S gg W.1 W.2.1 W.2.2.1 W.2.2.2
    rw [hB.2.1, ← seF_cnt he]; exact hP
  · have hk2 : k < s.2.length := hk
    obtain ⟨a1, a2, a3, a4, a5, a6⟩ := hO he k _ (getD_mem (d := (0, 0, 0, 0, 0)) hk2).2
    refine ⟨a1, a2, fun q7 => ?_, a4, a5, a6⟩
    show W.2.2.2 k 0 = nI ((fnd (seF n f s.1.2.2).1 (tkn n f (s.2.getD k (0, 0, 0, 0, 0)).2.1)).getD 0)
    have q7' : (s.2.getD k (0, 0, 0, 0, 0)).1 = 7 := q7
    rw [a3 q7']
    obtain ⟨-, -, -, h6⟩ := seF_fine s.1.2.2 ([], 0, 0, 0) he
    have := (h6 _ ((hB.2.2 _ (getD_mem (d := (0, 0, 0, 0, 0)) hk2).1).2.2.2.1 q7')).2 (Or.inl rfl)
    obtain ⟨i, hi⟩ := Option.isSome_iff_exists.mp this
    have hi2 : fnd (seF n f s.1.2.2).1 (tkn n f (s.2.getD k (0, 0, 0, 0, 0)).2.1) = some i := hi
    rw [hi2]; rfl
  · have hj2 : j < s.1.2.1.length := hj
    have := hst j _ (getD_mem (d := (0, 0)) hj2).2
    exact ⟨this.1, this.2 he⟩
set_option maxRecDepth 100000 in
set_option maxHeartbeats 4000000 in
theorem m1_readPlan {X : gX} {h : gH} {z g p n nw no ns dp er la k kd st en : Nat} {S0 : Nat → Option Nat} {g0 : Nat → Int32} {wn : Nat → Nat} {wf : Nat → Nat → Int32} {oA : Nat → Nat} {oJ : Nat → Nat → Int32} {f : Nat → Int32} {kf : Nat → Option Nat} {S T : Nat → Int32} {K : gKo} {ep ir : Int32} (hK : gCo X K) (hd : ApG g p) (hn : n ≤ 2000) (hg : h g = some (grF g p ep dp er ir)) (hT : TkT X h (g + 1) n f kf S T la k kd st en) (hP : PlB X h p nw no ns S0 g0 wn wf oA oJ) : gM X yX1_readPlan cX1_readPlan 3 (some .int) (38, 0, 0) [.ref g] h z (fun r h' z' => r = some (.int (nI (bkE n f))) ∧ z' = z ∧ (∃ dp' ir', h' g = some (grF g p (bkP n f) dp' (bkE n f) ir')) ∧ (∃ t, TkO X K h' (g + 1) n f t) ∧ (∃ nw no ns S g0 wn wf oA oJ, PlB X h' p nw no ns S g0 wn wf oA oJ) ∧ (bkE n f = 0 → PlC X K h' p (plM n f (bkR n f).2)) ∧ OffG h h' g p) gNoX := by
  have hd0 := hd
  unfold ApG at hd
  have hl4 := (tkl_spec n f).1
  refine gM.of px1 (Nat.le_of_ble_eq_true rfl) ?_
  intro F hE
  have fin1 : ∀ (h1 : gH) (x1 x2 : Option Value) (s : PLt) (dp : Nat) (ir : Int32) (W : gWo), bkR n f = (true, s) → BkOk n f s → OrOk K n f s W → GrI X K h1 g p n f s.1 dp ir W → OffG h h1 g p → G X F cX1_readPlan 3 yX1_readPlan.cls (38, 0, 0) 0 0 115 [some (.ref g), x1, x2] [] h1 z := by
    intro h1 x1 x2 s dp ir W hR hB hO hI hO1
    have e1 : bkE n f = (seF n f s.1.2.2).2.2.1 := by unfold bkE; rw [hR]; rfl
    have e2 : bkP n f = (if (seF n f s.1.2.2).2.2.1 = 0 then -1 else nI (tks n f (seF n f s.1.2.2).2.2.2)) := by unfold bkP; rw [hR]; rfl
    obtain ⟨ep, S, gg, hg, hep, hT, hP, hst, hws⟩ := id hI
    rw [e1, e2, hR] at hE
    refine g_aload_n dX1_readPlan_115 rfl ?_
    refine g_getf fl1_35 hg rfl dX1_readPlan_116 ?_
    exact g_iret hE rfl (⟨rfl, rfl, ⟨dp, ir, by rw [← hep]; exact hg⟩, ⟨_, hT⟩, ⟨_, _, _, _, _, _, _, _, _, hP⟩, fun q => PlC.of hB hO hI q, hO1⟩) dX1_readPlan_119
  have fin2 : ∀ (h1 : gH) (x1 x2 : Option Value) (s : PLt) (dp : Nat) (ir : Int32) (W : gWo), bkR n f = (false, s) → GrI X K h1 g p n f s.1 dp ir W → OffG h h1 g p → G X F cX1_readPlan 3 yX1_readPlan.cls (38, 0, 0) 0 0 90 [some (.ref g), x1, x2] [] h1 z := by
    intro h1 x1 x2 s dp ir W hR hI hO1
    have e1 : bkE n f = 1 := by unfold bkE; rw [hR]; rfl
    have e2 : bkP n f = nI (tks n f s.1.1) := by unfold bkP; rw [hR]; rfl
    obtain ⟨ep, S, gg, hg, hep, hT, hP, hst, hws⟩ := id hI
    obtain ⟨kf, S1, T1, en, hTT, hRR⟩ := id hT
    rw [e1, e2, hR] at hE
    have tg : ∀ e, TkO X K (gset h1 g e) (g + 1) n f s.1.1 := fun e => hT.put (by omega)
    have pg : ∀ e, PlB X (gset h1 g e) p _ _ _ S gg W.1 W.2.1 W.2.2.1 W.2.2.2 := fun e => hP.put (by omega)
    have og : ∀ e1 e2, OffG h (gset (gset h1 g e1) g e2) g p := fun e1 e2 q a1 a2 => (gset_ne (by omega)).trans ((gset_ne (by omega)).trans (hO1 q a1 a2))
    refine g_aload_n dX1_readPlan_90 rfl ?_
    refine g_iconst (nI 1) dX1_readPlan_91 (by decide) ?_
    refine g_putf fl1_35 (hg) rfl rfl rfl (Nat.le_of_ble_eq_true rfl) dX1_readPlan_92 ?_
    refine g_aload_n dX1_readPlan_95 rfl ?_
    refine g_aload_n dX1_readPlan_96 rfl ?_
    refine g_getf fl1_12 gset_same rfl dX1_readPlan_97 ?_
    refine g_getf fl1_67 ((gset_ne (by omega)).trans hTT.1.1) rfl dX1_readPlan_100 ?_
    refine g_putf fl1_38 (gset_same) rfl rfl rfl (Nat.le_of_ble_eq_true rfl) dX1_readPlan_103 ?_
    refine g_goto 115 dX1_readPlan_106 (by decide) ?_
    refine g_aload_n dX1_readPlan_115 rfl ?_
    refine g_getf fl1_35 gset_same rfl dX1_readPlan_116 ?_
    exact g_iret hE rfl (⟨rfl, rfl, ⟨dp, ir, gset_same⟩, ⟨_, (tg _).put (by omega)⟩, ⟨_, _, _, _, _, _, _, _, _, (pg _).put (by omega)⟩, fun q => absurd q (by decide), og _ _⟩) dX1_readPlan_119
  have loop : ∀ (N i : Nat) (h1 : gH) (x2 : Option Value) (s : PLt) (ir : Int32) (W : gWo), i + N = 401 → 2 * i ≤ s.1.1 → BkOk n f s → OrOk K n f s W → GrI X K h1 g p n f s.1 0 ir W → OffG h h1 g p → bkR n f = pBk (tkk n f) (tku n f) N s → G X F cX1_readPlan 3 yX1_readPlan.cls (38, 0, 0) 0 0 31 [some (.ref g), some (.int (nI i)), x2] [] h1 z := by
    intro N
    induction N with
    | zero =>
      intro i h1 x2 s ir W hi h2 hB hO hI hO1 hR
      have := hB.1.1
      exact absurd hi (by omega)
    | succ N ih =>
      intro i h1 x2 s ir W hi h2 hB hO hI hO1 hR
      have hs1 := hB.1.1
      obtain ⟨ep, S, gg, hg, hep, hT, hP, hst, hws⟩ := id hI
      obtain ⟨kf, S1, T1, en, hTT, hRR⟩ := id hT
      obtain ⟨l1, l2, l3⟩ := pLn_ok hB
      have mid : ∀ (h2 : gH) (dp2 : Nat) (ir2 : Int32) (W2 : gWo), tkk n f s.1.1 ≠ 1 → GrI X K h2 g p n f (pLn (tkk n f) (tku n f) s).2.1 dp2 ir2 W2 → ((pLn (tkk n f) (tku n f) s).1 = true → dp2 = 0 ∧ OrOk K n f (pLn (tkk n f) (tku n f) s).2 W2) → OffG h h2 g p → G X F cX1_readPlan 3 yX1_readPlan.cls (38, 0, 0) 0 0 75 [some (.ref g), some (.int (nI i)), x2] [.int (b2i (pLn (tkk n f) (tku n f) s).1)] h2 z := by
        intro h2 dp2 ir2 W2 hk1 hI2 hd2 hO2
        obtain ⟨ep2, S2, gg2, hg2, -⟩ := id hI2
        refine g_istore_n dX1_readPlan_75 (by decide) rfl ?_
        refine g_iload_n dX1_readPlan_76 rfl ?_
        refine g_if_eqB 90 dX1_readPlan_77 (by decide) (fun c_77 => ?_) (fun c_77 => ?_)
        · refine fin2 _ _ _ (pLn (tkk n f) (tku n f) s).2 _ _ _ ?_ hI2 hO2
          rw [hR]
          unfold pBk
          rw [if_neg hk1, if_neg (by rw [c_77]; decide)]
        · refine g_aload_n dX1_readPlan_80 rfl ?_
          refine g_gets (hK.1 28 (by decide)).1 wgX1_60 dX1_readPlan_81 ?_
          refine g_callV0 kX1_63 (m1_take (s := (pLn (tkk n f) (tku n f) s).2.1) 28 (by decide) (by decide) hK hd0 l1.1 hI2) hg2 rfl rfl rfl (Nat.le_of_ble_eq_true rfl) (by decide) (by decide) (Nat.zero_le _) (Nat.zero_le _) dX1_readPlan_84 ?_
          rintro v1 h3 z1 ⟨rfl, rfl, hI3, hO3⟩
          have hO13 := hO2.trans hO3
          refine g_if_neB 109 dX1_readPlan_87 (by decide) (fun c_87 => ?_) (fun c_87 => ?_)
          · refine g_iincN dX1_readPlan_109 rfl (by decide) rfl ?_
            refine g_goto 31 dX1_readPlan_112 (by decide) ?_
            obtain ⟨hd20, hO20⟩ := hd2 c_77
            obtain ⟨b1, b2⟩ := l3 c_77
            subst hd20
            have hk28 : tkk n f (pLn (tkk n f) (tku n f) s).2.1.1 = 28 := pTk_1 c_87
            rw [pTk_y hk28] at hI3
            have hq := PsOk.step b1.1 (Ps.tk (tkl_spec n f).2.1 (c := 28) (by decide)) (by decide) (by decide)
            rw [pTk_y hk28] at hq
            refine ih (i + 1) _ _ (((pLn (tkk n f) (tku n f) s).2.1.1 + 1, (pLn (tkk n f) (tku n f) s).2.1.2), (pLn (tkk n f) (tku n f) s).2.2) _ _ (by omega) (by show 2 * (i + 1) ≤ (pLn (tkk n f) (tku n f) s).2.1.1 + 1; omega) ⟨hq, b1.2.1, b1.2.2⟩ hO20 hI3 hO13 ?_
            rw [hR]
            rw [show pBk (tkk n f) (tku n f) (N + 1) s = (if tkk n f s.1.1 = 1 then (true, s) else if (pLn (tkk n f) (tku n f) s).1 = true then (if tkk n f (pLn (tkk n f) (tku n f) s).2.1.1 = 28 then pBk (tkk n f) (tku n f) N (((pLn (tkk n f) (tku n f) s).2.1.1 + 1, (pLn (tkk n f) (tku n f) s).2.1.2), (pLn (tkk n f) (tku n f) s).2.2) else (false, (pLn (tkk n f) (tku n f) s).2)) else (false, (pLn (tkk n f) (tku n f) s).2)) from rfl, if_neg hk1, if_pos c_77, if_pos hk28]
          · obtain ⟨hd20, hO20⟩ := hd2 c_77
            subst hd20
            have hk28 : ¬ tkk n f (pLn (tkk n f) (tku n f) s).2.1.1 = 28 := fun e => by rw [pTk_y e] at c_87; cases c_87
            rw [show pTk (tkk n f) 28 (pLn (tkk n f) (tku n f) s).2.1 = (false, (pLn (tkk n f) (tku n f) s).2.1) from if_neg hk28] at hI3
            refine fin2 _ _ _ (pLn (tkk n f) (tku n f) s).2 _ _ _ ?_ hI3 hO13
            rw [hR]
            unfold pBk
            rw [if_neg hk1, if_pos c_77, if_neg hk28]
      refine g_iload_n dX1_readPlan_31 rfl ?_
      refine g_sipush (nI 400) dX1_readPlan_32 (by decide) ?_
      refine g_icmp_geN 115 dX1_readPlan_35 (by decide) (by omega) (by omega) (fun c_35 => ?_) (fun c_35 => ?_)
      · exact absurd c_35 (by omega)
      · refine g_aload_n dX1_readPlan_38 rfl ?_
        refine g_getf fl1_12 hg rfl dX1_readPlan_39 ?_
        refine g_getf fl1_41 hTT.1.1 rfl dX1_readPlan_42 ?_
        refine g_gets (hK.1 1 (by decide)).1 wgX1_45 dX1_readPlan_45 ?_
        refine g_acmp_eq 115 dX1_readPlan_48 (by decide) (fun c_48 => ?_) (fun c_48 => ?_)
        · have hk1 : tkk n f s.1.1 = 1 := (hK.sm (tkk_lt n f s.1.1) (by decide)).mp c_48
          refine fin1 _ _ _ s _ _ _ ?_ hB hO hI hO1
          rw [hR]
          unfold pBk
          rw [if_pos hk1]
        · refine g_aload_n dX1_readPlan_51 rfl ?_
          refine g_getf fl1_12 hg rfl dX1_readPlan_52 ?_
          refine g_getf fl1_41 hTT.1.1 rfl dX1_readPlan_55 ?_
          refine g_gets (hK.1 5 (by decide)).1 wgX1_50 dX1_readPlan_58 ?_
          refine g_acmp_ne 71 dX1_readPlan_61 (by decide) (fun c_61 => ?_) (fun c_61 => ?_)
          · refine g_aload_n dX1_readPlan_71 rfl ?_
            refine g_callV0 kX1_57 (m1_readOrder hK hd0 hn hB hO hI) hg rfl rfl rfl (Nat.le_of_ble_eq_true rfl) (by decide) (by decide) (Nat.zero_le _) (Nat.zero_le _) dX1_readPlan_72 ?_
            rintro v1 h2 z1 ⟨rfl, rfl, ⟨dp2, ir2, W2, hI2, hd2⟩, hOO⟩
            have h5 : tkk n f s.1.1 ≠ 5 := fun e => c_61 ((hK.sm (tkk_lt n f s.1.1) (by decide)).mpr e)
            rw [← pLn_od h5] at hI2 hd2 ⊢
            exact mid _ dp2 ir2 W2 (fun e => c_48 ((hK.sm (tkk_lt n f s.1.1) (by decide)).mpr e)) hI2 hd2 (hO1.trans hOO)
          · have h5 : tkk n f s.1.1 = 5 := (hK.sm (tkk_lt n f s.1.1) (by decide)).mp (by first | exact c_61 | exact Classical.not_not.mp c_61)
            refine g_aload_n dX1_readPlan_64 rfl ?_
            refine g_callV0 kX1_53 (m1_readInsult hK hd0 hn h5 hB hO hI) hg rfl rfl rfl (Nat.le_of_ble_eq_true rfl) (by decide) (by decide) (Nat.zero_le _) (Nat.zero_le _) dX1_readPlan_65 ?_
            rintro v1 h2 z1 ⟨rfl, rfl, ⟨W2, hI2, hO2⟩, hOO⟩
            refine g_goto 75 dX1_readPlan_68 (by decide) ?_
            have e5 : pLn (tkk n f) (tku n f) s = ((pNm (tkk n f) 1 (s.1.1 + 1, s.1.2)).1, ((pNm (tkk n f) 1 (s.1.1 + 1, s.1.2)).2, s.2)) := if_pos h5
            have e6 : (pNm (tkk n f) 1 (s.1.1 + 1, s.1.2)).1 = (pLn (tkk n f) (tku n f) s).1 := by rw [e5]
            rw [e6]
            exact mid _ 0 ir W2 (fun e => c_48 ((hK.sm (tkk_lt n f s.1.1) (by decide)).mpr e)) (by rw [e5]; exact hI2) (fun _ => ⟨rfl, by rw [e5]; exact hO2⟩) (hO1.trans hOO)
  refine g_aload_n dX1_readPlan_0 rfl ?_
  refine g_getf fl1_12 hg rfl dX1_readPlan_1 ?_
  refine g_callV0 kX1_25 (m8_split hK hT hn) hT.1.1 rfl rfl rfl (Nat.le_of_ble_eq_true rfl) (by decide) (by decide) (Nat.zero_le _) (Nat.zero_le _) dX1_readPlan_4 ?_
  rintro v1 h1 z1 ⟨rfl, rfl, hT1, hO1⟩
  have hP1 := hP.off hO1 (by omega)
  have hg1 : h1 g = some (grF g p ep dp er ir) := (hO1 g (by omega)).trans hg
  refine g_aload_n dX1_readPlan_7 rfl ?_
  refine g_getf fl1_21 hg1 rfl dX1_readPlan_8 ?_
  refine g_callV0 kX1_28 (m4_clear hP1) hP1.1 rfl rfl rfl (Nat.le_of_ble_eq_true rfl) (by decide) (by decide) (Nat.zero_le _) (Nat.zero_le _) dX1_readPlan_11 ?_
  rintro v1 h2 z1 ⟨rfl, rfl, hP2, hO2⟩
  have hT2 := hT1.off hO2 (by omega)
  have hg2 : h2 g = some (grF g p ep dp er ir) := (hO2 g (by omega)).trans hg1
  refine g_aload_n dX1_readPlan_14 rfl ?_
  refine g_iconst (nI 0) dX1_readPlan_15 (by decide) ?_
  refine g_putf fl1_31 (hg2) rfl rfl rfl (Nat.le_of_ble_eq_true rfl) dX1_readPlan_16 ?_
  refine g_aload_n dX1_readPlan_19 rfl ?_
  refine g_iconst (nI 0) dX1_readPlan_20 (by decide) ?_
  refine g_putf fl1_35 (gset_same) rfl rfl rfl (Nat.le_of_ble_eq_true rfl) dX1_readPlan_21 ?_
  refine g_aload_n dX1_readPlan_24 rfl ?_
  refine g_iconst (-1) dX1_readPlan_25 (by decide) ?_
  refine g_putf fl1_38 (gset_same) rfl rfl rfl (Nat.le_of_ble_eq_true rfl) dX1_readPlan_26 ?_
  refine g_iconst (nI 0) dX1_readPlan_29 (by decide) ?_
  refine g_istore_n dX1_readPlan_30 (by decide) rfl ?_
  have hI0 : ∀ h3 : gH, h3 g = some (grF g p (-1) 0 0 ir) → OffB h2 h3 g 1 → G X F cX1_readPlan 3 yX1_readPlan.cls (38, 0, 0) 0 0 31 [some (.ref g), some (.int (nI 0)), none] [] h3 z1 := fun h3 e1 e2 =>
    loop 401 0 h3 none ((0, [], []), []) ir (wn, wf, oA, oJ) rfl (Nat.zero_le _) ⟨⟨Nat.zero_le _, Nat.zero_le _, VS.nil, fun x hx => by cases hx⟩, rfl, fun o ho => by cases ho⟩ (fun _ k o ho => by cases ho) ⟨-1, S0, g0, e1, rfl, hT2.off e2 (by omega), hP2.off e2 (by omega), (fun j x hx => by cases hx), (fun i D hD => by cases hD)⟩ (fun q a1 a2 => (e2 q (by omega)).trans ((hO2 q (by omega)).trans (hO1 q (by omega)))) rfl
  exact hI0 _ gset_same (((OffB.rf.put (by omega) (by omega)).put (by omega) (by omega)).put (by omega) (by omega))
