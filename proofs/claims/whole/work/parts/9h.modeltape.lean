/-! the reference: the tape -/
/-- byte i of a number, the highest one first -/
def by4 (x : Int32) (i : Nat) : Int32 := (x >>> ((nI 24 - nI 8 * nI i) &&& 31)) &&& nI 255
def fdU (f : Nat → Int32) (n : Nat) (g : Nat → Int32) : Nat → Nat → Int32
  | 0 => f
  | k + 1 => upd (fdU f n g k) (n + k) (g k)
def fv (a b c d e : Int32) (k : Nat) : Int32 := [a, b, c, d, e].getD k 0
/-- the twenty bytes of five numbers -/
def fdG (a b c d e : Int32) (k : Nat) : Int32 := by4 (fv a b c d e (k / 4)) (k % 4)
theorem and255_ne (x : Int32) : x &&& nI 255 ≠ -1 := fun h => by
  have h2 := congrArg (fun y : Int32 => y.toBitVec.getLsbD 8) h
  simp only [Int32.toBitVec_and, BitVec.getLsbD_and] at h2
  have h3 : (nI 255).toBitVec.getLsbD 8 = false := by decide
  have h4 : (-1 : Int32).toBitVec.getLsbD 8 = true := by decide
  rw [h3, h4, Bool.and_false] at h2
  cases h2
theorem fdU_ne {f g : Nat → Int32} {n : Nat} (hf : ∀ j, f j ≠ -1) (hg : ∀ j, g j ≠ -1) : ∀ (k j : Nat), fdU f n g k j ≠ -1 := by
  intro k
  induction k with
  | zero => exact hf
  | succ k ih =>
    intro j
    show upd (fdU f n g k) (n + k) (g k) j ≠ -1
    by_cases h : j = n + k
    · rw [h, upd_same]; exact hg k
    · rw [upd_ne h]; exact ih j
theorem MdV.tape {X : gX} {h h1 : gH} {m pl : Nat} {L : List Int32} {I I1 : Nat → Int32} {A A1 : Nat → Nat → Int32} {V : Nat → Int64} (hV : MdV X h m pl L I A V) (hM : MdB X h1 m L.length pl I1 A1 V) (hA : ∀ j, j ≠ 0 → A1 j = A j) (h11 : I1 11 = I 11) : MdV X h1 m pl L I1 A1 V := by
  refine ⟨hM, hV.2.1, fun i hi => by rw [hA 5 (by decide)]; exact hV.2.2.1 i hi, ?_⟩
  rw [h11]
  rcases hV.2.2.2 with e | ⟨e, c⟩
  · exact Or.inl e
  · refine Or.inr ⟨e, fun p hp => ?_, fun p hp => ?_⟩
    · rw [hA 7 (by decide)]; exact c.1 p hp
    · rw [hA 8 (by decide)]; exact c.2 p hp
theorem upd_c01 {f : Nat → Int32} {a b : Int32} : upd (upd f 0 a) 1 b = upd (upd f 1 b) 0 a := by
  funext q
  by_cases h0 : q = 0
  · subst h0; rw [upd_ne (by decide), upd_same, upd_same]
  · by_cases h1 : q = 1
    · subst h1; rw [upd_same, upd_ne (by decide), upd_same]
    · rw [upd_ne h1, upd_ne h0, upd_ne h0, upd_ne h1]
theorem rem4 {k : Nat} (h : k < 2 ^ 31) : nI k - nI k / nI 4 * nI 4 = nI (k % 4) := by
  rw [pk_div h (by decide) (by decide), pk_mul, pk_sub (Nat.div_mul_le_self k 4)]
  congr 1
  omega
set_option maxRecDepth 100000 in
set_option maxHeartbeats 4000000 in
theorem mR_feed {X : gX} {h : gH} {z m pl n : Nat} {f : Nat → Int32} {P : PlM} {L : List Int32} {day car err t : Int32} (a b c d e : Int32) (hz : m + 25 ≤ z) (hzp : pl + 12 ≤ z) (hR : RefS X h m pl n f P L day car err t) : gM X yX12_feed cX12_feed 8 (some .int) (1, 1, 5) [.ref m, .int a, .int b, .int c, .int d, .int e] h z (fun r h' z' => r = some (.int (if n ≤ 1980 then nI (n + 20) else 0)) ∧ z' = (if n ≤ 1980 then z + 1 else z) ∧ RefS X h' m pl (if n ≤ 1980 then n + 20 else n) (if n ≤ 1980 then fdU f n (fdG a b c d e) 20 else f) P L day car err (if n ≤ 1980 then 0 else 1) ∧ OffZ h h' m z) gNoX := by
  obtain ⟨I, A, V, hV, ⟨i0, i1, i2, i6, i7⟩, ha, hP, hok, hpl⟩ := hR
  have hl := hV.2.1
  have hpx : pl + 12 ≤ m ∨ pl = m + 2 ∨ m + 25 ≤ pl := Or.inr hpl
  have hi : I 1 = nI n ∧ I 2 = err := ⟨i1, i2⟩
  obtain ⟨a0, hn, hf⟩ := id ha
  refine gM.of px12 (Nat.le_of_ble_eq_true rfl) ?_
  intro F hE
  have loop : ∀ (N k : Nat) (hb h1 : gH) (A1 : Nat → Nat → Int32), n ≤ 1980 → k + N = 20 → h1 z = some (gIA X 5 (fv a b c d e)) → MdB X h1 m L.length pl (upd I 0 (nI 0)) A1 V → A1 0 = fdU f n (fdG a b c d e) k → (∀ j, j ≠ 0 → A1 j = A j) → MpP X hb pl P → OffM hb h1 m → OffZ h h1 m z → G X F cX12_feed 8 yX12_feed.cls (1, 1, 5) 1 5 51 [some (.ref m), some (.int a), some (.int b), some (.int c), some (.int d), some (.int e), some (.ref z), some (.int (nI k))] [] h1 (z + 1) := by
    intro N
    induction N with
    | zero =>
      intro k hb h1 A1 hn2 hk hg hM1 hA0 hA hPb hOb hO1
      have hkL : k = 20 := by omega
      subst hkL
      simp only [if_pos hn2] at hE
      have e1 : upd I 0 (nI 0) 1 = nI n := (upd_ne (by decide)).trans i1
      refine g_iload dX12_feed_51 rfl ?_
      refine g_bipush (nI 20) dX12_feed_53 (by decide) ?_
      refine g_icmp_geN 98 dX12_feed_55 (by decide) (by omega) (by omega) (fun c_55 => ?_) (fun c_55 => ?_)
      · refine g_aload_n dX12_feed_98 rfl ?_
        refine g_dup dX12_feed_99 rfl ?_
        refine g_getf fl12_221 hM1.1 rfl dX12_feed_100 ?_
        rw [e1]
        refine g_bipush (nI 20) dX12_feed_103 (by decide) ?_
        first | refine g_iaddN dX12_feed_105 ?_ | refine g_iadd dX12_feed_105 ?_
        refine md_put1 fl12_221 hM1 OffM.rf dX12_feed_106 (fun h2 hM2 hO2 => ?_)
        have hV2 := hV.tape hM2 hA (by rw [upd_ne (by decide), upd_ne (by decide)])
        refine g_aload_n dX12_feed_109 rfl ?_
        refine g_getf fl12_221 hM2.1 rfl dX12_feed_110 ?_
        rw [upd_same]
        exact g_iret hE rfl (⟨rfl, rfl, RefS.fin (I := upd I 1 (nI (n + 20))) (A := A1) ⟨upd_same, (upd_ne (by decide)).trans i2⟩ ⟨hA0, by omega, fdU_ne hf (fun j => and255_ne _) 20⟩ hPb hok hpl hV2 (by rw [upd_c01]; exact MdQ.rf) (by rw [upd_ne (by decide), upd_ne (by decide)]; exact i6) (by rw [upd_ne (by decide), upd_ne (by decide)]; exact i7) (hOb.trans hO2), hO1.trans hO2.toZ⟩) dX12_feed_113 (by decide) (by decide)
      · exact absurd c_55 (by omega)
    | succ N ih =>
      intro k hb h1 A1 hn2 hk hg hM1 hA0 hA hPb hOb hO1
      have e1 : upd I 0 (nI 0) 1 = nI n := (upd_ne (by decide)).trans i1
      refine g_iload dX12_feed_51 rfl ?_
      refine g_bipush (nI 20) dX12_feed_53 (by decide) ?_
      refine g_icmp_geN 98 dX12_feed_55 (by decide) (by omega) (by omega) (fun c_55 => ?_) (fun c_55 => ?_)
      · exact absurd c_55 (by omega)
      · refine g_aload_n dX12_feed_58 rfl ?_
        refine g_getf fl12_9 hM1.1 rfl dX12_feed_59 ?_
        refine g_aload_n dX12_feed_62 rfl ?_
        refine g_getf fl12_221 hM1.1 rfl dX12_feed_63 ?_
        rw [e1]
        refine g_iload dX12_feed_66 rfl ?_
        first | refine g_iaddN dX12_feed_68 ?_ | refine g_iadd dX12_feed_68 ?_
        refine g_aload dX12_feed_69 rfl ?_
        refine g_iload dX12_feed_71 rfl ?_
        refine g_iconst (nI 4) dX12_feed_73 (by decide) ?_
        refine g_idivN dX12_feed_74 (by omega) (by decide) (by decide) ?_
        refine g_ialdN (j := k / 4) hg (by omega) (by decide) dX12_feed_75 ?_
        refine g_bipush (nI 24) dX12_feed_76 (by decide) ?_
        refine g_bipush (nI 8) dX12_feed_78 (by decide) ?_
        refine g_iload dX12_feed_80 rfl ?_
        refine g_iconst (nI 4) dX12_feed_82 (by decide) ?_
        refine g_irem dX12_feed_83 (by decide) ?_
        rw [rem4 (by omega)]
        refine g_imul dX12_feed_84 ?_
        refine g_isub dX12_feed_85 ?_
        refine g_ishr dX12_feed_86 ?_
        refine g_sipush (nI 255) dX12_feed_87 (by decide) ?_
        refine g_iand dX12_feed_90 ?_
        refine md_ast (h0 := h1) (q := 0) (j := n + k) (by decide) (by show n + k < 2000; omega) hM1 OffM.rf dX12_feed_91 (fun h2 hM2 hO2 => ?_)
        refine g_iincN dX12_feed_92 rfl (by decide) rfl ?_
        refine g_goto 51 dX12_feed_95 (by decide) ?_
        refine ih (k + 1) hb h2 _ hn2 (by omega) ((hO2 z (by omega) (by omega) (by omega)).trans hg) hM2 ?_ (fun j hj => (vu_ne hj).trans (hA j hj)) hPb (hOb.trans hO2) (hO1.trans hO2.toZ)
        rw [vu_same, hA0]
        rfl
  refine g_aload_n dX12_feed_0 rfl ?_
  refine g_iconst (nI 0) dX12_feed_1 (by decide) ?_
  refine md_put0 fl12_58 hV.1 OffM.rf dX12_feed_2 (fun h2 hM2 hO2 => ?_)
  have hV2 := hV.put (by decide) hM2
  have hP2 := hP.off hO2 hpx
  refine g_aload_n dX12_feed_5 rfl ?_
  refine g_getf fl12_221 hM2.1 rfl dX12_feed_6 ?_
  rw [show upd I 0 (nI 0) 1 = nI n from (upd_ne (by decide)).trans i1]
  refine g_sipush (nI 1980) dX12_feed_9 (by decide) ?_
  refine g_icmp_leN 21 dX12_feed_12 (by decide) (by omega) (by omega) (fun c_12 => ?_) (fun c_12 => ?_)
  · have hc : n ≤ 1980 := c_12
    refine g_iconst (nI 5) dX12_feed_21 (by decide) ?_
    refine g_newI wai (by decide) (by decide) (by decide) dX12_feed_22 ?_
    refine g_dup dX12_feed_24 rfl ?_
    refine g_iconst (nI 0) dX12_feed_25 (by decide) ?_
    refine g_iload_n dX12_feed_26 rfl ?_
    refine g_iastN (N := 5) (j := 0) gset_same (by decide) (by decide) dX12_feed_27 ?_
    refine G.eqh gset_gset ?_
    refine g_dup dX12_feed_28 rfl ?_
    refine g_iconst (nI 1) dX12_feed_29 (by decide) ?_
    refine g_iload_n dX12_feed_30 rfl ?_
    refine g_iastN (N := 5) (j := 1) gset_same (by decide) (by decide) dX12_feed_31 ?_
    refine G.eqh gset_gset ?_
    refine g_dup dX12_feed_32 rfl ?_
    refine g_iconst (nI 2) dX12_feed_33 (by decide) ?_
    refine g_iload_n dX12_feed_34 rfl ?_
    refine g_iastN (N := 5) (j := 2) gset_same (by decide) (by decide) dX12_feed_35 ?_
    refine G.eqh gset_gset ?_
    refine g_dup dX12_feed_36 rfl ?_
    refine g_iconst (nI 3) dX12_feed_37 (by decide) ?_
    refine g_iload dX12_feed_38 rfl ?_
    refine g_iastN (N := 5) (j := 3) gset_same (by decide) (by decide) dX12_feed_40 ?_
    refine G.eqh gset_gset ?_
    refine g_dup dX12_feed_41 rfl ?_
    refine g_iconst (nI 4) dX12_feed_42 (by decide) ?_
    refine g_iload dX12_feed_43 rfl ?_
    refine g_iastN (N := 5) (j := 4) gset_same (by decide) (by decide) dX12_feed_45 ?_
    refine G.eqh gset_gset ?_
    refine g_astore dX12_feed_46 (by decide) rfl ?_
    refine g_iconst (nI 0) dX12_feed_48 (by decide) ?_
    refine g_istore dX12_feed_49 (by decide) rfl ?_
    refine loop 20 0 (gset h2 z _) (gset h2 z _) A hc (by omega) ?_ (hM2.putz hz) a0 (fun _ _ => rfl) (hP2.putz hzp) OffM.rf (hO2.toZ.trans OffZ.new)
    rw [gset_same]
    congr 4
    funext q
    by_cases q4 : q = 4
    · subst q4; rfl
    rw [upd_ne q4]
    by_cases q3 : q = 3
    · subst q3; rfl
    rw [upd_ne q3]
    by_cases q2 : q = 2
    · subst q2; rfl
    rw [upd_ne q2]
    by_cases q1 : q = 1
    · subst q1; rfl
    rw [upd_ne q1]
    by_cases q0 : q = 0
    · subst q0; rfl
    rw [upd_ne q0]
    show (0 : Int32) = [a, b, c, d, e].getD q 0
    rw [List.getD_eq_getElem?_getD, List.getElem?_eq_none (by show 5 ≤ q; omega)]
    rfl
  · simp only [if_neg (show ¬ n ≤ 1980 from c_12)] at hE
    refine g_aload_n dX12_feed_15 rfl ?_
    refine g_iconst (nI 1) dX12_feed_16 (by decide) ?_
    refine g_callV0 kX12_366 (m12_no (nI 1) hM2) hM2.1 rfl rfl rfl (Nat.le_of_ble_eq_true rfl) (by decide) (by decide) (by decide) (by decide) dX12_feed_17 ?_
    rintro v1 h3 z1 ⟨rfl, rfl, hM3, hO3⟩
    exact g_iret hE rfl (⟨rfl, rfl, RefS.no hi ha hP hok hpl hV2 hM3 i6 i7 (hO2.trans hO3), (hO2.trans hO3).toZ⟩) dX12_feed_20
set_option maxRecDepth 100000 in
set_option maxHeartbeats 4000000 in
theorem mR_trim {X : gX} {h : gH} {z m pl n : Nat} {f : Nat → Int32} {P : PlM} {L : List Int32} {day car err t : Int32} (p : Int32) (hR : RefS X h m pl n f P L day car err t) : gM X yX12_trim cX12_trim 2 (some .int) (2, 0, 0) [.ref m, .int p] h z (fun r h' z' => r = some (.int (if p.toNatClampNeg ≤ n ∧ p = nI p.toNatClampNeg then p else 0)) ∧ z' = z ∧ RefS X h' m pl (if p.toNatClampNeg ≤ n ∧ p = nI p.toNatClampNeg then p.toNatClampNeg else n) f P L day car err (if p.toNatClampNeg ≤ n ∧ p = nI p.toNatClampNeg then 0 else 1) ∧ OffM h h' m) gNoX := by
  obtain ⟨I, A, V, hV, ⟨i0, i1, i2, i6, i7⟩, ha, hP, hok, hpl⟩ := hR
  have hl := hV.2.1
  have hpx : pl + 12 ≤ m ∨ pl = m + 2 ∨ m + 25 ≤ pl := Or.inr hpl
  have hi : I 1 = nI n ∧ I 2 = err := ⟨i1, i2⟩
  obtain ⟨a0, hn, hf⟩ := id ha
  have h0 : (0 : Int32).toInt = 0 := rfl
  have hpt : p.toNatClampNeg = p.toInt.toNat := rfl
  refine (m12_trim p hV.1).mono ?_
  rintro v h' z' ⟨rfl, hO, ⟨g1, g2, rfl, hM⟩ | ⟨g1, rfl, hM⟩⟩
  · rw [i1] at g2
    have hc : p.toNatClampNeg ≤ n ∧ p = nI p.toNatClampNeg := by
      simp only [Int32.le_iff_toInt_le, h0, nI_toInt (show n < 2 ^ 31 by omega)] at g1 g2
      refine ⟨by omega, Int32.toInt_inj.mp ?_⟩
      rw [nI_toInt (by omega)]
      omega
    simp only [if_pos hc]
    have hV2 := hV.tape hM (fun _ _ => rfl) (by rw [upd_ne (by decide), upd_ne (by decide)])
    exact ⟨trivial, trivial, RefS.fin (I := upd I 1 p) (A := A) ⟨upd_same.trans hc.2, (upd_ne (by decide)).trans i2⟩ ⟨a0, by omega, hf⟩ hP hok hpl hV2 (by rw [upd_c01]; exact MdQ.rf) (by rw [upd_ne (by decide), upd_ne (by decide)]; exact i6) (by rw [upd_ne (by decide), upd_ne (by decide)]; exact i7) hO, hO⟩
  · rw [i1] at g1
    have hc : ¬ (p.toNatClampNeg ≤ n ∧ p = nI p.toNatClampNeg) := fun w => g1 (by
      have w2 := congrArg Int32.toInt w.2
      rw [nI_toInt (by omega)] at w2
      simp only [Int32.le_iff_toInt_le, h0, nI_toInt (show n < 2 ^ 31 by omega)]
      omega)
    simp only [if_neg hc]
    exact ⟨trivial, trivial, RefS.fin hi ha hP hok hpl (hV.tape hM (fun _ _ => rfl) (by rw [upd_ne (by decide), upd_ne (by decide)])) (by rw [upd_upd]; exact MdQ.rf) (by rw [upd_upd]; exact (upd_ne (by decide)).trans i6) (by rw [upd_upd]; exact (upd_ne (by decide)).trans i7) hO, hO⟩
set_option maxRecDepth 100000 in
set_option maxHeartbeats 4000000 in
theorem mR_teach {X : gX} {h : gH} {z m pl n : Nat} {f : Nat → Int32} {P : PlM} {L : List Int32} {day car err t : Int32} {K : gKo} (hK : gCo X K) (hz : m + 25 ≤ z) (hzp : pl + 12 ≤ z) (hR : RefS X h m pl n f P L day car err t) : gM X yX12_teach cX12_teach 3 (some .int) (47, 12, 1806) [.ref m] h z (fun r h' z' => r = some (.int (nI (bkE n f))) ∧ z' = z + 12 ∧ (if bkE n f = 0 then RefS X h' m z 0 f (plM n f (bkR n f).2) [] 0 0 (bkP n f) 0 else RefS X h' m pl 0 f P L day car (bkP n f) 0) ∧ OffZ h h' m z) gNoX := by
  obtain ⟨I, A, V, hV, ⟨i0, i1, i2, i6, i7⟩, ha, hP, hok, hpl⟩ := hR
  have hl := hV.2.1
  have hpx : pl + 12 ≤ m ∨ pl = m + 2 ∨ m + 25 ≤ pl := Or.inr hpl
  have hi : I 1 = nI n ∧ I 2 = err := ⟨i1, i2⟩
  obtain ⟨a0, hn, hf⟩ := id ha
  refine (m12_teach hK hz hV.1 i1 hn (fun j _ => by rw [a0]; exact hf j)).mono ?_
  rintro v h' z' ⟨rfl, rfl, ⟨c', pl', I', A', V', hM, q0, q1, q2, qj, qk, qe, q⟩, hO⟩
  rw [a0] at qe q q2 ⊢
  refine ⟨rfl, rfl, ?_, hO⟩
  by_cases he : bkE n f = 0
  · rw [if_pos he]
    obtain ⟨rfl, rfl, q6, q7, q11, hMp⟩ := q he
    have hb1 : (bkR n f).1 = true := by
      cases hb : (bkR n f).1 with
      | true => rfl
      | false => unfold bkE at he; rw [hb] at he; cases he
    have he2 : (seF n f (bkR n f).2.1.2.2).2.2.1 = 0 := by unfold bkE at he; rw [if_pos hb1] at he; exact he
    exact ⟨I', A', V', ⟨hM, Nat.zero_le _, fun i hi => absurd hi (Nat.not_lt_zero _), Or.inl q11⟩, ⟨q0, q1, q2, q6, q7⟩, ⟨by rw [qk 0 (Or.inl rfl)]; exact a0, Nat.zero_le _, hf⟩, hMp, plM_ok (bkR_ok hb1).1 he2, Or.inr hz⟩
  · rw [if_neg he]
    obtain ⟨ec, ep, q6, q7, q11⟩ := qe he
    rw [ec, ep] at hM
    refine ⟨I', A', V', ⟨hM, hl, fun i hi => by rw [qk 5 (Or.inr (by decide))]; exact hV.2.2.1 i hi, ?_⟩, ⟨q0, q1, q2, q6.trans i6, q7.trans i7⟩, ⟨by rw [qk 0 (Or.inl rfl)]; exact a0, Nat.zero_le _, hf⟩, ?_, hok, hpl⟩
    · rw [q11]
      rcases hV.2.2.2 with e | ⟨e, c⟩
      · exact Or.inl e
      · refine Or.inr ⟨e, fun p hp => ?_, fun p hp => ?_⟩
        · rw [qk 7 (Or.inr (by decide))]; exact c.1 p hp
        · rw [qk 8 (Or.inr (by decide))]; exact c.2 p hp
    · obtain ⟨J, B, U, W, hQ, hr⟩ := hP
      refine ⟨J, B, U, W, ⟨?_, fun k hk => ?_, ?_, ?_⟩, hr⟩
      · exact (hO pl (by omega) (by omega) (by omega) (by omega)).trans hQ.1
      · have hi := po_in k hk
        exact (hO _ (by omega) (by omega) (by omega) (by omega)).trans (hQ.2.1 k hk)
      · exact (hO _ (by omega) (by omega) (by omega) (by omega)).trans hQ.2.2.1
      · exact (hO _ (by omega) (by omega) (by omega) (by omega)).trans hQ.2.2.2
set_option maxRecDepth 100000 in
set_option maxHeartbeats 4000000 in
theorem mR_thrown {X : gX} {h : gH} {z m pl n : Nat} {f : Nat → Int32} {P : PlM} {L : List Int32} {day car err t : Int32} (hR : RefS X h m pl n f P L day car err t) : gM X yX12_thrown cX12_thrown 1 (some .int) (0, 0, 0) [.ref m] h z (pR h z t) gNoX := by
  obtain ⟨I, A, V, hV, ⟨i0, i1, i2, i6, i7⟩, ha, hP, hok, hpl⟩ := hR
  have hT := m12_thrown (z := z) hV.1
  rw [i0] at hT
  exact hT
