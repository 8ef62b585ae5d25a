/-! the grammar: chains of products, sums, tests -/
/-- what a reading method of the grammar does: the parser F -/
def GCt (X : gX) (K : gKo) (g p n : Nat) (f : Nat → Int32) (y : MethodName) (cc : ByteArray) (nL d dp : Nat) (F : PF) : Prop := ∀ (h : gH) (z : Nat) (s : PSt) (ir : Int32) (W : gWo), PsOk n f s → GrI X K h g p n f s dp ir W → gM X y cc nL (some .boolean) (d, 0, 0) [.ref g] h z (fun r h' z' => r = some (.int (b2i (F s).1)) ∧ z' = z ∧ (∃ dp' ir', GrI X K h' g p n f (F s).2 dp' ir' W ∧ ((F s).1 = true → dp' = dp)) ∧ OffG h h' g p) gNoX
theorem GrI.gat {X : gX} {K : gKo} {h : gH} {g p n dp : Nat} {f : Nat → Int32} {s : PSt} {ir : Int32} {W : gWo} (hI : GrI X K h g p n f s dp ir W) : ∃ fs, h g = some (.inr (0, fs)) := by
  obtain ⟨ep, S, gg, hg, -⟩ := hI
  exact ⟨_, hg⟩
theorem pLp_yes {K : Nat → Nat} {op : Nat → Bool} {f : PF} {N : Nat} {s : PSt} (h : op (K s.1) = true) : pLp K op f (N + 1) s = if (f (s.1 + 1, s.2)).1 = true then pLp K op f N (pPt (K s.1) 0 (f (s.1 + 1, s.2)).2).2 else (false, (f (s.1 + 1, s.2)).2) := by
  have e1 : pLp K op f (N + 1) s = pSq (pTk K (K s.1)) (pSq f (pSq (pPt (K s.1) 0) (pLp K op f N))) s := if_pos h
  rw [e1]
  have e2 : pTk K (K s.1) s = (true, (s.1 + 1, s.2)) := if_pos rfl
  unfold pSq
  rw [e2]
  rfl
theorem pLp_no {K : Nat → Nat} {op : Nat → Bool} {f : PF} {N : Nat} {s : PSt} (h : op (K s.1) = false) : pLp K op f N s = (true, s) := by
  cases N with
  | zero => rfl
  | succ N => exact if_neg (by rw [h]; decide)
/-- behind an operator and what follows it there is room for its step -/
theorem PsOk.op {n : Nat} {f : Nat → Int32} {s : PSt} {F : PF} {b : Bool} {k c : Nat} (h : PsOk n f s) (hc : tkk n f s.1 = c) (h2 : 2 ≤ c) (hn : ¬ (c = 15 ∨ c = 16 ∨ c = 18)) (hF : Pg (tkk n f) (tkl n f) F b k) : PsOk n f (s.1 + 1, s.2) ∧ PsOk n f (F (s.1 + 1, s.2)).2 ∧ ((F (s.1 + 1, s.2)).1 = true → (F (s.1 + 1, s.2)).2.2.1.length < 400 ∧ PsOk n f (pPt c 0 (F (s.1 + 1, s.2)).2).2 ∧ s.1 + 1 ≤ (F (s.1 + 1, s.2)).2.1) := by
  obtain ⟨hl1, hl2, hl3⟩ := tkl_spec n f
  have e2 : pTk (tkk n f) c s = (true, (s.1 + 1, s.2)) := if_pos hc
  have g1 := h.step (Ps.tk hl2 h2) (by decide) (by decide)
  rw [e2] at g1
  have g2 := PsOk.step g1 hF (by decide) (by decide)
  refine ⟨g1, g2, fun q => ?_⟩
  have g3 := h.step ((Ps.tk hl2 h2).seq (hF.seq (Ps.pt (c := c) (x := 0) hn))) (by decide) (by decide)
  have e3 : pSq (pTk (tkk n f) c) (pSq F (pPt c 0)) s = pPt c 0 (F (s.1 + 1, s.2)).2 := by
    unfold pSq
    rw [e2]
    exact if_pos q
  rw [e3] at g3
  obtain ⟨X, V, a1, a2, a3, a4, a5, a6, a7⟩ := hF (s.1 + 1, s.2) g1.1
  have a8 := (a6 q).1
  have e4 : (F (s.1 + 1, s.2)).2.2.1 = s.2.1 ++ X := by rw [a1]
  have h1 := h.2.1
  have hx : (X.length : Int) + ((s.1 + 1 : Nat) : Int) + 0 ≤ ((F (s.1 + 1, s.2)).2.1 : Int) := a8
  have hy : s.1 + 1 ≤ (F (s.1 + 1, s.2)).2.1 := a2
  refine ⟨?_, g3, hy⟩
  rw [e4, List.length_append]
  omega
set_option maxRecDepth 100000 in
set_option maxHeartbeats 4000000 in
theorem m1_readSum {X : gX} {K : gKo} {g p n d dp k : Nat} {f : Nat → Int32} {b : Bool} {fP : PF} (h3 : 3 ≤ d) (hK : gCo X K) (hA : ApG g p) (hP : Pg (tkk n f) (tkl n f) fP b k) (hB : GCt X K g p n f yX1_readProduct cX1_readProduct 4 d dp fP) : GCt X K g p n f yX1_readSum cX1_readSum 4 (d + 1) dp (pCh (tkk n f) opS fP) := by
  intro h z s0 ir0 W hs0 hI0
  obtain ⟨hl1, hl2, hl3⟩ := tkl_spec n f
  refine gM.of px1 (Nat.le_of_ble_eq_true rfl) ?_
  intro F hE
  have jE : ∀ (h1 : gH) (s : PSt) (dp' : Nat) (ir : Int32) (b : Bool) (v3 v4 : Option Value), GrI X K h1 g p n f s dp' ir W → (b = true → dp' = dp) → OffG h h1 g p → pCh (tkk n f) opS fP s0 = (b, s) → G X F cX1_readSum 4 yX1_readSum.cls (d + 1, 0, 0) 0 0 79 [some (.ref g), some (.int (b2i b)), v3, v4] [] h1 z := by
    intro h1 s dp' ir b v3 v4 hI hdp hO hR
    rw [hR] at hE
    refine g_iload_n dX1_readSum_79 rfl ?_
    exact g_iret hE (nrB _) ⟨rfl, rfl, ⟨dp', ir, hI, hdp⟩, hO⟩ dX1_readSum_80
  have jF : ∀ (h1 : gH) (s : PSt) (dp' : Nat) (ir : Int32) (i : Nat) (v2 v4 : Option Value), i < 400 → GrI X K h1 g p n f s dp' ir W → OffG h h1 g p → pCh (tkk n f) opS fP s0 = (false, s) → G X F cX1_readSum 4 yX1_readSum.cls (d + 1, 0, 0) 0 0 71 [some (.ref g), v2, some (.int (nI i)), v4] [] h1 z := by
    intro h1 s dp' ir i v2 v4 hi hI hO hR
    refine g_iconst (nI 0) dX1_readSum_71 (by decide) ?_
    refine g_istore_n dX1_readSum_72 (by decide) rfl ?_
    refine g_iincN dX1_readSum_73 rfl (by decide) rfl ?_
    refine g_goto 7 dX1_readSum_76 (by decide) ?_
    refine g_iload_n dX1_readSum_7 rfl ?_
    refine g_sipush (nI 400) dX1_readSum_8 (by decide) ?_
    refine g_icmp_geN 79 dX1_readSum_11 (by decide) (by omega) (by omega) (fun c_11 => ?_) (fun c_11 => ?_)
    · exact jE h1 s dp' ir false _ _ hI (fun q => by cases q) hO hR
    · refine G.eql (lv' := [some (.ref g), some (.int (b2i false)), some (.int (nI (i + 1))), v4]) rfl ?_
      refine g_iload_n dX1_readSum_14 rfl ?_
      refine g_if_eqB 79 dX1_readSum_15 (by decide) (fun c_15 => ?_) (fun c_15 => ?_)
      · exact jE h1 s dp' ir false _ _ hI (fun q => by cases q) hO hR
      · exact absurd c_15 (by decide)
  have loop : ∀ (N i : Nat) (h1 : gH) (s : PSt) (ir : Int32) (v4 : Option Value), PsOk n f s → 401 ≤ N + s.1 → i ≤ s.1 → GrI X K h1 g p n f s dp ir W → OffG h h1 g p → pCh (tkk n f) opS fP s0 = pLp (tkk n f) opS fP N s → G X F cX1_readSum 4 yX1_readSum.cls (d + 1, 0, 0) 0 0 7 [some (.ref g), some (.int (b2i true)), some (.int (nI i)), v4] [] h1 z := by
    intro N
    induction N with
    | zero => intro i h1 s ir v4 hs hN; exact absurd hs.1 (by omega)
    | succ N ih =>
      intro i h1 s ir v4 hs hN hi hI hO hR
      have hs1 := hs.1
      have hex : ∀ v4 : Option Value, opS (tkk n f s.1) = false → G X F cX1_readSum 4 yX1_readSum.cls (d + 1, 0, 0) 0 0 79 [some (.ref g), some (.int (b2i true)), some (.int (nI i)), v4] [] h1 z := fun v4 e => jE h1 s dp ir true _ v4 hI (fun _ => rfl) hO (by rw [hR, pLp_no e])
      have hop : opS (tkk n f s.1) = true ↔ (tkk n f s.1 = 30 ∨ tkk n f s.1 = 31) := by unfold opS; simp
      have hk39 := tkk_lt n f s.1
      obtain ⟨ep, S, gg, hg, hep, hT, -⟩ := id hI
      obtain ⟨kf, S1, T1, en, hTT, -⟩ := hT
      have hn1 : s.1 = tkl n f → opS (tkk n f s.1) = false := by
        intro e4
        cases e : opS (tkk n f s.1) with
        | false => rfl
        | true =>
          have h9 := hop.mp e
          rw [e4] at h9
          exact absurd h9 (by omega)
      have hn2 : ¬ some (K.1 (tkk n f s.1)) = some (K.1 30) → ¬ some (K.1 (tkk n f s.1)) = some (K.1 31) → opS (tkk n f s.1) = false := by
        intro a1 a2
        cases e : opS (tkk n f s.1) with
        | false => rfl
        | true =>
          rcases hop.mp e with q | q
          · exact absurd ((hK.sm hk39 (by decide)).mpr q) a1
          · exact absurd ((hK.sm hk39 (by decide)).mpr q) a2
      have go : opS (tkk n f s.1) = true → i < 400 → G X F cX1_readSum 4 yX1_readSum.cls (d + 1, 0, 0) 0 0 43 [some (.ref g), some (.int (b2i true)), some (.int (nI i)), some (.ref (K.1 (tkk n f s.1)))] [] h1 z := by
        intro hy hi4
        have hc := hop.mp hy
        obtain ⟨p1, p2, p3⟩ := PsOk.op hs rfl (by omega) (by omega) hP
        have hst := pLp_yes (K := tkk n f) (f := fP) (N := N) (s := s) hy
        have etk : pTk (tkk n f) (tkk n f s.1) s = (true, (s.1 + 1, s.2)) := if_pos rfl
        refine g_aload_n dX1_readSum_43 rfl ?_
        refine g_aload_n dX1_readSum_44 rfl ?_
        refine g_callV0 kX1_63 (m1_take (tkk n f s.1) (by omega) hk39 hK hA hs1 hI) hg rfl rfl rfl (Nat.le_of_ble_eq_true rfl) (by decide) (by show 2 + 1 ≤ d + 1; omega) (Nat.zero_le _) (Nat.zero_le _) dX1_readSum_45 ?_
        rintro v1 h2 z1 ⟨rfl, rfl, hI2, hO2⟩
        rw [etk] at hI2 ⊢
        obtain ⟨fs2, hg2⟩ := hI2.gat
        refine g_if_eqB 71 dX1_readSum_48 (by decide) (fun c_48 => ?_) (fun c_48 => ?_)
        · exact Bool.noConfusion (show true = false from c_48)
        · refine g_aload_n dX1_readSum_51 rfl ?_
          refine g_callV0 kX1_236 (hB _ _ _ _ _ p1 hI2) hg2 rfl rfl rfl (Nat.le_of_ble_eq_true rfl) (by decide) (Nat.le_refl _) (Nat.zero_le _) (Nat.zero_le _) dX1_readSum_52 ?_
          rintro v1 h3 z1 ⟨rfl, rfl, ⟨dp3, ir3, hI3, hdp3⟩, hO3⟩
          obtain ⟨fs3, hg3⟩ := hI3.gat
          refine g_if_eqB 71 dX1_readSum_55 (by decide) (fun c_55 => ?_) (fun c_55 => ?_)
          · exact jF _ _ dp3 ir3 i _ _ hi4 hI3 ((hO.trans hO2).trans hO3) (by rw [hR, hst, if_neg (by rw [c_55]; decide)])
          · refine g_aload_n dX1_readSum_58 rfl ?_
            refine g_aload_n dX1_readSum_59 rfl ?_
            refine g_iconst (nI 0) dX1_readSum_60 (by decide) ?_
            have hdp3 := hdp3 c_55
            subst hdp3
            obtain ⟨q1, q2, q3⟩ := p3 c_55
            refine g_callV0 kX1_177 (m1_put (tkk n f s.1) 0 (nI 0) hk39 hK hA q1 (fun _ => by unfold xvW; rw [if_neg (by show ¬ (tkk n f s.1 = 15 ∨ tkk n f s.1 = 16 ∨ tkk n f s.1 = 18); omega)]) hI3) hg3 rfl rfl rfl (Nat.le_of_ble_eq_true rfl) (by decide) (by show 1 + 1 ≤ d + 1; omega) (Nat.zero_le _) (Nat.zero_le _) dX1_readSum_61 ?_
            rintro v1 h4 z1 ⟨rfl, rfl, hI4, hO4⟩
            refine g_if_eqB 71 dX1_readSum_64 (by decide) (fun c_64 => ?_) (fun c_64 => ?_)
            · exact absurd c_64 (by decide)
            · refine g_iconst (nI 1) dX1_readSum_67 (by decide) ?_
              refine g_goto 72 dX1_readSum_68 (by decide) ?_
              refine g_istore_n dX1_readSum_72 (by decide) rfl ?_
              refine g_iincN dX1_readSum_73 rfl (by decide) rfl ?_
              refine g_goto 7 dX1_readSum_76 (by decide) ?_
              exact ih (i + 1) h4 _ ir3 _ q2 (by show 401 ≤ N + (fP (s.1 + 1, s.2)).2.1; omega) (by show i + 1 ≤ (fP (s.1 + 1, s.2)).2.1; omega) hI4 (((hO.trans hO2).trans hO3).trans hO4) (by rw [hR, hst, if_pos c_55])
      refine g_iload_n dX1_readSum_7 rfl ?_
      refine g_sipush (nI 400) dX1_readSum_8 (by decide) ?_
      refine g_icmp_geN 79 dX1_readSum_11 (by decide) (by omega) (by omega) (fun c_11 => ?_) (fun c_11 => ?_)
      · exact hex _ (hn1 (by omega))
      · refine g_iload_n dX1_readSum_14 rfl ?_
        refine g_if_eqB 79 dX1_readSum_15 (by decide) (fun c_15 => ?_) (fun c_15 => ?_)
        · exact absurd c_15 (by decide)
        · refine g_aload_n dX1_readSum_18 rfl ?_
          refine g_getf fl1_12 hg rfl dX1_readSum_19 ?_
          refine g_getf fl1_41 hTT.1.1 rfl dX1_readSum_22 ?_
          refine g_astore_n dX1_readSum_25 (by decide) rfl ?_
          refine g_aload_n dX1_readSum_26 rfl ?_
          refine g_gets (hK.1 30 (by decide)).1 wgX1_239 dX1_readSum_27 ?_
          refine g_acmp_eq 43 dX1_readSum_30 (by decide) (fun c_30 => ?_) (fun c_30 => ?_)
          · exact go (hop.mpr (Or.inl ((hK.sm hk39 (by decide)).mp c_30))) (by omega)
          · refine g_aload_n dX1_readSum_33 rfl ?_
            refine g_gets (hK.1 31 (by decide)).1 wgX1_242 dX1_readSum_34 ?_
            refine g_acmp_eq 43 dX1_readSum_37 (by decide) (fun c_37 => ?_) (fun c_37 => ?_)
            · exact go (hop.mpr (Or.inr ((hK.sm hk39 (by decide)).mp c_37))) (by omega)
            · refine g_goto 79 dX1_readSum_40 (by decide) ?_
              exact hex _ (hn2 c_30 c_37)
  obtain ⟨fs, hg0⟩ := hI0.gat
  have q1 := hs0.step hP (by decide) (by decide)
  refine g_aload_n dX1_readSum_0 rfl ?_
  refine g_callV0 kX1_236 (hB _ _ _ _ _ hs0 hI0) hg0 rfl rfl rfl (Nat.le_of_ble_eq_true rfl) (by decide) (Nat.le_refl _) (Nat.zero_le _) (Nat.zero_le _) dX1_readSum_1 ?_
  rintro v1 h3 z1 ⟨rfl, rfl, ⟨dp3, ir3, hI3, hdp3⟩, hO3⟩
  refine g_istore_n dX1_readSum_4 (by decide) rfl ?_
  refine g_iconst (nI 0) dX1_readSum_5 (by decide) ?_
  refine g_istore_n dX1_readSum_6 (by decide) rfl ?_
  cases hb : (fP s0).1 with
  | true =>
    have hdp3 := hdp3 hb
    subst hdp3
    exact loop 401 0 h3 _ ir3 _ q1 (by omega) (Nat.zero_le _) hI3 hO3 (by show pSq _ _ s0 = _; unfold pSq; rw [if_pos hb])
  | false =>
    have hR : pCh (tkk n f) opS fP s0 = (false, (fP s0).2) := by show pSq _ _ s0 = _; unfold pSq; rw [if_neg (by rw [hb]; decide)]
    refine g_iload_n dX1_readSum_7 rfl ?_
    refine g_sipush (nI 400) dX1_readSum_8 (by decide) ?_
    refine g_icmp_geN 79 dX1_readSum_11 (by decide) (by omega) (by omega) (fun c_11 => ?_) (fun c_11 => ?_)
    · exact absurd c_11 (by omega)
    · refine g_iload_n dX1_readSum_14 rfl ?_
      refine g_if_eqB 79 dX1_readSum_15 (by decide) (fun c_15 => ?_) (fun c_15 => ?_)
      · exact jE h3 _ dp3 ir3 false _ _ hI3 (fun q => by cases q) hO3 hR
      · exact absurd c_15 (by decide)
set_option maxRecDepth 100000 in
set_option maxHeartbeats 4000000 in
theorem m1_readProduct {X : gX} {K : gKo} {g p n d dp k : Nat} {f : Nat → Int32} {b : Bool} {fP : PF} (h3 : 3 ≤ d) (hK : gCo X K) (hA : ApG g p) (hP : Pg (tkk n f) (tkl n f) fP b k) (hB : GCt X K g p n f yX1_readValue cX1_readValue 2 d dp fP) : GCt X K g p n f yX1_readProduct cX1_readProduct 4 (d + 1) dp (pCh (tkk n f) opT fP) := by
  intro h z s0 ir0 W hs0 hI0
  obtain ⟨hl1, hl2, hl3⟩ := tkl_spec n f
  refine gM.of px1 (Nat.le_of_ble_eq_true rfl) ?_
  intro F hE
  have jE : ∀ (h1 : gH) (s : PSt) (dp' : Nat) (ir : Int32) (b : Bool) (v3 v4 : Option Value), GrI X K h1 g p n f s dp' ir W → (b = true → dp' = dp) → OffG h h1 g p → pCh (tkk n f) opT fP s0 = (b, s) → G X F cX1_readProduct 4 yX1_readProduct.cls (d + 1, 0, 0) 0 0 79 [some (.ref g), some (.int (b2i b)), v3, v4] [] h1 z := by
    intro h1 s dp' ir b v3 v4 hI hdp hO hR
    rw [hR] at hE
    refine g_iload_n dX1_readProduct_79 rfl ?_
    exact g_iret hE (nrB _) ⟨rfl, rfl, ⟨dp', ir, hI, hdp⟩, hO⟩ dX1_readProduct_80
  have jF : ∀ (h1 : gH) (s : PSt) (dp' : Nat) (ir : Int32) (i : Nat) (v2 v4 : Option Value), i < 400 → GrI X K h1 g p n f s dp' ir W → OffG h h1 g p → pCh (tkk n f) opT fP s0 = (false, s) → G X F cX1_readProduct 4 yX1_readProduct.cls (d + 1, 0, 0) 0 0 71 [some (.ref g), v2, some (.int (nI i)), v4] [] h1 z := by
    intro h1 s dp' ir i v2 v4 hi hI hO hR
    refine g_iconst (nI 0) dX1_readProduct_71 (by decide) ?_
    refine g_istore_n dX1_readProduct_72 (by decide) rfl ?_
    refine g_iincN dX1_readProduct_73 rfl (by decide) rfl ?_
    refine g_goto 7 dX1_readProduct_76 (by decide) ?_
    refine g_iload_n dX1_readProduct_7 rfl ?_
    refine g_sipush (nI 400) dX1_readProduct_8 (by decide) ?_
    refine g_icmp_geN 79 dX1_readProduct_11 (by decide) (by omega) (by omega) (fun c_11 => ?_) (fun c_11 => ?_)
    · exact jE h1 s dp' ir false _ _ hI (fun q => by cases q) hO hR
    · refine G.eql (lv' := [some (.ref g), some (.int (b2i false)), some (.int (nI (i + 1))), v4]) rfl ?_
      refine g_iload_n dX1_readProduct_14 rfl ?_
      refine g_if_eqB 79 dX1_readProduct_15 (by decide) (fun c_15 => ?_) (fun c_15 => ?_)
      · exact jE h1 s dp' ir false _ _ hI (fun q => by cases q) hO hR
      · exact absurd c_15 (by decide)
  have loop : ∀ (N i : Nat) (h1 : gH) (s : PSt) (ir : Int32) (v4 : Option Value), PsOk n f s → 401 ≤ N + s.1 → i ≤ s.1 → GrI X K h1 g p n f s dp ir W → OffG h h1 g p → pCh (tkk n f) opT fP s0 = pLp (tkk n f) opT fP N s → G X F cX1_readProduct 4 yX1_readProduct.cls (d + 1, 0, 0) 0 0 7 [some (.ref g), some (.int (b2i true)), some (.int (nI i)), v4] [] h1 z := by
    intro N
    induction N with
    | zero => intro i h1 s ir v4 hs hN; exact absurd hs.1 (by omega)
    | succ N ih =>
      intro i h1 s ir v4 hs hN hi hI hO hR
      have hs1 := hs.1
      have hex : ∀ v4 : Option Value, opT (tkk n f s.1) = false → G X F cX1_readProduct 4 yX1_readProduct.cls (d + 1, 0, 0) 0 0 79 [some (.ref g), some (.int (b2i true)), some (.int (nI i)), v4] [] h1 z := fun v4 e => jE h1 s dp ir true _ v4 hI (fun _ => rfl) hO (by rw [hR, pLp_no e])
      have hop : opT (tkk n f s.1) = true ↔ (tkk n f s.1 = 32 ∨ tkk n f s.1 = 33) := by unfold opT; simp
      have hk39 := tkk_lt n f s.1
      obtain ⟨ep, S, gg, hg, hep, hT, -⟩ := id hI
      obtain ⟨kf, S1, T1, en, hTT, -⟩ := hT
      have hn1 : s.1 = tkl n f → opT (tkk n f s.1) = false := by
        intro e4
        cases e : opT (tkk n f s.1) with
        | false => rfl
        | true =>
          have h9 := hop.mp e
          rw [e4] at h9
          exact absurd h9 (by omega)
      have hn2 : ¬ some (K.1 (tkk n f s.1)) = some (K.1 32) → ¬ some (K.1 (tkk n f s.1)) = some (K.1 33) → opT (tkk n f s.1) = false := by
        intro a1 a2
        cases e : opT (tkk n f s.1) with
        | false => rfl
        | true =>
          rcases hop.mp e with q | q
          · exact absurd ((hK.sm hk39 (by decide)).mpr q) a1
          · exact absurd ((hK.sm hk39 (by decide)).mpr q) a2
      have go : opT (tkk n f s.1) = true → i < 400 → G X F cX1_readProduct 4 yX1_readProduct.cls (d + 1, 0, 0) 0 0 43 [some (.ref g), some (.int (b2i true)), some (.int (nI i)), some (.ref (K.1 (tkk n f s.1)))] [] h1 z := by
        intro hy hi4
        have hc := hop.mp hy
        obtain ⟨p1, p2, p3⟩ := PsOk.op hs rfl (by omega) (by omega) hP
        have hst := pLp_yes (K := tkk n f) (f := fP) (N := N) (s := s) hy
        have etk : pTk (tkk n f) (tkk n f s.1) s = (true, (s.1 + 1, s.2)) := if_pos rfl
        refine g_aload_n dX1_readProduct_43 rfl ?_
        refine g_aload_n dX1_readProduct_44 rfl ?_
        refine g_callV0 kX1_63 (m1_take (tkk n f s.1) (by omega) hk39 hK hA hs1 hI) hg rfl rfl rfl (Nat.le_of_ble_eq_true rfl) (by decide) (by show 2 + 1 ≤ d + 1; omega) (Nat.zero_le _) (Nat.zero_le _) dX1_readProduct_45 ?_
        rintro v1 h2 z1 ⟨rfl, rfl, hI2, hO2⟩
        rw [etk] at hI2 ⊢
        obtain ⟨fs2, hg2⟩ := hI2.gat
        refine g_if_eqB 71 dX1_readProduct_48 (by decide) (fun c_48 => ?_) (fun c_48 => ?_)
        · exact Bool.noConfusion (show true = false from c_48)
        · refine g_aload_n dX1_readProduct_51 rfl ?_
          refine g_callV0 kX1_245 (hB _ _ _ _ _ p1 hI2) hg2 rfl rfl rfl (Nat.le_of_ble_eq_true rfl) (by decide) (Nat.le_refl _) (Nat.zero_le _) (Nat.zero_le _) dX1_readProduct_52 ?_
          rintro v1 h3 z1 ⟨rfl, rfl, ⟨dp3, ir3, hI3, hdp3⟩, hO3⟩
          obtain ⟨fs3, hg3⟩ := hI3.gat
          refine g_if_eqB 71 dX1_readProduct_55 (by decide) (fun c_55 => ?_) (fun c_55 => ?_)
          · exact jF _ _ dp3 ir3 i _ _ hi4 hI3 ((hO.trans hO2).trans hO3) (by rw [hR, hst, if_neg (by rw [c_55]; decide)])
          · refine g_aload_n dX1_readProduct_58 rfl ?_
            refine g_aload_n dX1_readProduct_59 rfl ?_
            refine g_iconst (nI 0) dX1_readProduct_60 (by decide) ?_
            have hdp3 := hdp3 c_55
            subst hdp3
            obtain ⟨q1, q2, q3⟩ := p3 c_55
            refine g_callV0 kX1_177 (m1_put (tkk n f s.1) 0 (nI 0) hk39 hK hA q1 (fun _ => by unfold xvW; rw [if_neg (by show ¬ (tkk n f s.1 = 15 ∨ tkk n f s.1 = 16 ∨ tkk n f s.1 = 18); omega)]) hI3) hg3 rfl rfl rfl (Nat.le_of_ble_eq_true rfl) (by decide) (by show 1 + 1 ≤ d + 1; omega) (Nat.zero_le _) (Nat.zero_le _) dX1_readProduct_61 ?_
            rintro v1 h4 z1 ⟨rfl, rfl, hI4, hO4⟩
            refine g_if_eqB 71 dX1_readProduct_64 (by decide) (fun c_64 => ?_) (fun c_64 => ?_)
            · exact absurd c_64 (by decide)
            · refine g_iconst (nI 1) dX1_readProduct_67 (by decide) ?_
              refine g_goto 72 dX1_readProduct_68 (by decide) ?_
              refine g_istore_n dX1_readProduct_72 (by decide) rfl ?_
              refine g_iincN dX1_readProduct_73 rfl (by decide) rfl ?_
              refine g_goto 7 dX1_readProduct_76 (by decide) ?_
              exact ih (i + 1) h4 _ ir3 _ q2 (by show 401 ≤ N + (fP (s.1 + 1, s.2)).2.1; omega) (by show i + 1 ≤ (fP (s.1 + 1, s.2)).2.1; omega) hI4 (((hO.trans hO2).trans hO3).trans hO4) (by rw [hR, hst, if_pos c_55])
      refine g_iload_n dX1_readProduct_7 rfl ?_
      refine g_sipush (nI 400) dX1_readProduct_8 (by decide) ?_
      refine g_icmp_geN 79 dX1_readProduct_11 (by decide) (by omega) (by omega) (fun c_11 => ?_) (fun c_11 => ?_)
      · exact hex _ (hn1 (by omega))
      · refine g_iload_n dX1_readProduct_14 rfl ?_
        refine g_if_eqB 79 dX1_readProduct_15 (by decide) (fun c_15 => ?_) (fun c_15 => ?_)
        · exact absurd c_15 (by decide)
        · refine g_aload_n dX1_readProduct_18 rfl ?_
          refine g_getf fl1_12 hg rfl dX1_readProduct_19 ?_
          refine g_getf fl1_41 hTT.1.1 rfl dX1_readProduct_22 ?_
          refine g_astore_n dX1_readProduct_25 (by decide) rfl ?_
          refine g_aload_n dX1_readProduct_26 rfl ?_
          refine g_gets (hK.1 32 (by decide)).1 wgX1_248 dX1_readProduct_27 ?_
          refine g_acmp_eq 43 dX1_readProduct_30 (by decide) (fun c_30 => ?_) (fun c_30 => ?_)
          · exact go (hop.mpr (Or.inl ((hK.sm hk39 (by decide)).mp c_30))) (by omega)
          · refine g_aload_n dX1_readProduct_33 rfl ?_
            refine g_gets (hK.1 33 (by decide)).1 wgX1_251 dX1_readProduct_34 ?_
            refine g_acmp_eq 43 dX1_readProduct_37 (by decide) (fun c_37 => ?_) (fun c_37 => ?_)
            · exact go (hop.mpr (Or.inr ((hK.sm hk39 (by decide)).mp c_37))) (by omega)
            · refine g_goto 79 dX1_readProduct_40 (by decide) ?_
              exact hex _ (hn2 c_30 c_37)
  obtain ⟨fs, hg0⟩ := hI0.gat
  have q1 := hs0.step hP (by decide) (by decide)
  refine g_aload_n dX1_readProduct_0 rfl ?_
  refine g_callV0 kX1_245 (hB _ _ _ _ _ hs0 hI0) hg0 rfl rfl rfl (Nat.le_of_ble_eq_true rfl) (by decide) (Nat.le_refl _) (Nat.zero_le _) (Nat.zero_le _) dX1_readProduct_1 ?_
  rintro v1 h3 z1 ⟨rfl, rfl, ⟨dp3, ir3, hI3, hdp3⟩, hO3⟩
  refine g_istore_n dX1_readProduct_4 (by decide) rfl ?_
  refine g_iconst (nI 0) dX1_readProduct_5 (by decide) ?_
  refine g_istore_n dX1_readProduct_6 (by decide) rfl ?_
  cases hb : (fP s0).1 with
  | true =>
    have hdp3 := hdp3 hb
    subst hdp3
    exact loop 401 0 h3 _ ir3 _ q1 (by omega) (Nat.zero_le _) hI3 hO3 (by show pSq _ _ s0 = _; unfold pSq; rw [if_pos hb])
  | false =>
    have hR : pCh (tkk n f) opT fP s0 = (false, (fP s0).2) := by show pSq _ _ s0 = _; unfold pSq; rw [if_neg (by rw [hb]; decide)]
    refine g_iload_n dX1_readProduct_7 rfl ?_
    refine g_sipush (nI 400) dX1_readProduct_8 (by decide) ?_
    refine g_icmp_geN 79 dX1_readProduct_11 (by decide) (by omega) (by omega) (fun c_11 => ?_) (fun c_11 => ?_)
    · exact absurd c_11 (by omega)
    · refine g_iload_n dX1_readProduct_14 rfl ?_
      refine g_if_eqB 79 dX1_readProduct_15 (by decide) (fun c_15 => ?_) (fun c_15 => ?_)
      · exact jE h3 _ dp3 ir3 false _ _ hI3 (fun q => by cases q) hO3 hR
      · exact absurd c_15 (by decide)
