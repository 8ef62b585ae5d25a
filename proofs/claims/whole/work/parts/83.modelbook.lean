/-! the reference: all depths of tests; an order, a line, the book -/
theorem m12_isSingle {X : gX} {m c pl q n d dp ku : Nat} {f : Nat → Int32} {R : rEn} {lo : Option (PF × PF)} {u : PF} (h2 : 2 ≤ d) (hq : m + 25 ≤ q) (hT : RcT n f R) (hu : RCt X m c pl q n f R yX12_isSum cX12_isSum 3 d dp u) (hPu : Pg (tkk n f) (tkl n f) u false ku) (hL : RLt X m c pl q n f R d dp lo) : RCt X m c pl q n f R yX12_isSingle cX12_isSingle 3 (d + 2) dp (pS (tkk n f) lo u) := by
  intro h z s0 hs0 hR0
  by_cases h19 : tkk n f s0.1 = 19
  · exact m12_isSingle_19 h2 hq hT hL h z s0 hs0 hR0 h19
  · by_cases h26 : tkk n f s0.1 = 26
    · exact m12_isSingle_26 h2 hq hT hL h z s0 hs0 hR0 h26
    · by_cases h18 : tkk n f s0.1 = 18
      · exact m12_isSingle_18 h2 hq hT hL h z s0 hs0 hR0 h18
      · exact m12_isSingle_el (m12_isCompare hq hT hPu hu) h2 hq hT hL h z s0 hs0 hR0 ⟨h19, h26, h18⟩
set_option maxRecDepth 100000 in
theorem rvT_ct {X : gX} {m c pl q n : Nat} {f : Nat → Int32} {R : rEn} (hq : m + 25 ≤ q) (hT : RcT n f R) : ∀ D, D ≤ 8 → RCt X m c pl q n f R yX12_isSingle cX12_isSingle 3 (8 + 4 * D) (8 - D) (lvT (tkk n f) (tku n f) D).1 ∧ RCt X m c pl q n f R yX12_isTest cX12_isTest 2 (10 + 4 * D) (8 - D) (lvT (tkk n f) (tku n f) D).2 := by
  have hl := (tkl_spec n f).2.1
  intro D
  induction D with
  | zero =>
    intro _
    have hs := (rvV_ct (X := X) (c := c) (pl := pl) (f := f) hq hT 0 (Nat.zero_le _)).2
    have hps := (lvV_ok (nu := tku n f) hl 0).2
    have h := m12_isSingle (f := f) (d := 6) (dp := 8) (lo := none) (by decide) hq hT hs hps ⟨Nat.le_refl _, fun _ => rfl, fun w e => by cases e⟩
    have hp := Pg.s hl none hps (fun w e => by cases e)
    exact ⟨h, m12_isTest (d := 9) (by decide) hq hT (Pg.ch hl opA_ok hp) (m12_isBoth (d := 8) (by decide) hq hT hp h)⟩
  | succ D ih =>
    intro hD
    obtain ⟨i1, i2⟩ := ih (by omega)
    obtain ⟨k1, k2⟩ := lvT_ok (nu := tku n f) hl D
    have hs := (rvV_ct (X := X) (c := c) (pl := pl) (f := f) hq hT (D + 1) hD).2
    have hps := (lvV_ok (nu := tku n f) hl (D + 1)).2
    have e8 : 8 - (D + 1) + 1 = 8 - D := by omega
    rw [show 6 + 4 * (D + 1) = 10 + 4 * D by omega] at hs
    have h := m12_isSingle (f := f) (d := 10 + 4 * D) (dp := 8 - (D + 1)) (lo := some (lvT (tkk n f) (tku n f) D)) (by omega) hq hT hs hps ⟨by omega, (fun e => by cases e), fun w e => by
      cases e
      rw [e8]
      exact ⟨by omega, ⟨_, by omega, i1⟩, i2, ⟨_, k1⟩, _, k2⟩⟩
    have hp := (lvT_ok (nu := tku n f) hl (D + 1)).1
    rw [show 10 + 4 * D + 2 = 8 + 4 * (D + 1) by omega] at h
    have h2 := m12_isBoth (d := 8 + 4 * (D + 1)) (by omega) hq hT hp h
    rw [show 8 + 4 * (D + 1) + 1 = 9 + 4 * (D + 1) by omega] at h2
    have h3 := m12_isTest (d := 9 + 4 * (D + 1)) (by omega) hq hT (Pg.ch hl opA_ok hp) h2
    rw [show 9 + 4 * (D + 1) + 1 = 10 + 4 * (D + 1) by omega] at h3
    exact ⟨h, h3⟩
/-- one number of an order is written -/
abbrev rsB (R : rEn) (j k : Nat) (x : Int32) : rEn := (R.1, R.2.1, R.2.2.1, R.2.2.2.1, va_up R.2.2.2.2.1 j (upd (R.2.2.2.2.1 j) k x), R.2.2.2.2.2)
theorem rsB_ne {R : rEn} {j k i : Nat} {x : Int32} (h : i ≠ j) : (rsB R j k x).2.2.2.2.1 i = R.2.2.2.2.1 i := vu_ne h
theorem rsB_at {R : rEn} {j k : Nat} {x : Int32} : (rsB R j k x).2.2.2.2.1 j k = x := by show va_up R.2.2.2.2.1 j (upd (R.2.2.2.2.1 j) k x) j k = x; rw [vu_same, upd_same]
theorem rsB_of {R : rEn} {j k i : Nat} {x : Int32} (h : i ≠ k) : (rsB R j k x).2.2.2.2.1 j i = R.2.2.2.2.1 j i := by show va_up R.2.2.2.2.1 j (upd (R.2.2.2.2.1 j) k x) j i = _; rw [vu_same, upd_ne h]
theorem RcS.setB {X : gX} {h : gH} {m c pl q n dp : Nat} {f : Nat → Int32} {R : rEn} {s : PSt} {b : Bool} (hR : RcS X h m c pl q n f R s dp b) (hq : m + 25 ≤ q) (j k : Nat) (x : Int32) (hj : j < 7) : RcS X (gset h (q + po j) (gIA X (pz j) (upd (R.2.2.2.2.1 j) k x))) m c pl q n f (rsB R j k x) s dp b := by
  obtain ⟨I, A, J, B, h1, h2, h3, h4, h5, h6, h7, h8⟩ := hR
  have hi := po_in j (by omega)
  have e := h6 j (by omega) (by omega)
  have hQ := h2.ast (k := j) (j := k) (x := x) (by omega)
  rw [e] at hQ
  refine ⟨I, A, J, _, h1.offq (q := q) (OffB.rf.put (by omega) (by omega)) hq, hQ, h3, h4, h5, fun i a b => ?_, h7, fun w => ?_⟩
  · show va_up B j _ i = va_up R.2.2.2.2.1 j _ i
    by_cases e2 : i = j
    · subst e2; rw [vu_same, vu_same]
    · rw [vu_ne e2, vu_ne e2]; exact h6 i a b
  · obtain ⟨a1, a2, a3, a4⟩ := h8 w
    refine ⟨a1, a2, fun i y hy => ?_, a4⟩
    rw [vu_ne (by omega), vu_ne (by omega)]
    exact a3 i y hy
/-- the rows of orders, what was read before -/
def RsR (R R' : rEn) : Prop := (∀ j, j ≠ 5 → R'.1 j = R.1 j) ∧ R'.2.1 = R.2.1 ∧ R'.2.2.1 = R.2.2.1 ∧ R'.2.2.2.1 = R.2.2.2.1 ∧ (∀ k, k ≠ 2 → k ≠ 4 → k ≠ 5 → k ≠ 6 → R'.2.2.2.2.1 k = R.2.2.2.2.1 k) ∧ R'.2.2.2.2.2 = R.2.2.2.2.2
theorem RsR.rf {R : rEn} : RsR R R := ⟨fun _ _ => rfl, rfl, rfl, rfl, fun _ _ _ _ _ => rfl, rfl⟩
theorem RsR.T {R R' : rEn} {n : Nat} {f : Nat → Int32} (h : RsR R R') (hT : RcT n f R) : RcT n f R' := fun i hi => by rw [h.2.1, h.2.2.1]; exact hT i hi
theorem RsR.b {R R' : rEn} (h : RsR R R') {j k : Nat} {x : Int32} (hj : j = 2 ∨ j = 4 ∨ j = 5 ∨ j = 6) : RsR R (rsB R' j k x) := ⟨h.1, h.2.1, h.2.2.1, h.2.2.2.1, fun i a b c d => by show va_up R'.2.2.2.2.1 j _ i = _; rw [vu_ne (by omega)]; exact h.2.2.2.2.1 i a b c d, h.2.2.2.2.2⟩
/-- the orders that were read lie in the rows -/
def RbO (R : rEn) (L : List OrT) : Prop := R.1 5 = nI L.length ∧ (L.length ≤ 16 → ∀ k o, L[k]? = some o → R.2.2.2.2.1 2 k = nI (kd o.1) ∧ R.2.2.2.2.1 4 k = nI o.2.2.1 ∧ R.2.2.2.2.1 5 k = nI o.2.2.2.1 ∧ R.2.2.2.2.1 6 k = nI o.2.2.2.2)
def RbS (X : gX) (h : gH) (m c pl q n : Nat) (f : Nat → Int32) (R : rEn) (s : PLt) (b : Bool) : Prop := ∃ R', RsR R R' ∧ RcS X h m c pl q n f R' s.1 0 b ∧ (b = true → RbO R' s.2)
theorem RbO.snoc {R R' : rEn} {L : List OrT} {o : OrT} (h : RbO R L) (h5 : R'.1 5 = nI (L.length + 1)) (hs : ∀ k, k ≠ min 15 L.length → R'.2.2.2.2.1 2 k = R.2.2.2.2.1 2 k ∧ R'.2.2.2.2.1 4 k = R.2.2.2.2.1 4 k ∧ R'.2.2.2.2.1 5 k = R.2.2.2.2.1 5 k ∧ R'.2.2.2.2.1 6 k = R.2.2.2.2.1 6 k) (hn : R'.2.2.2.2.1 2 (min 15 L.length) = nI (kd o.1) ∧ R'.2.2.2.2.1 4 (min 15 L.length) = nI o.2.2.1 ∧ R'.2.2.2.2.1 5 (min 15 L.length) = nI o.2.2.2.1 ∧ R'.2.2.2.2.1 6 (min 15 L.length) = nI o.2.2.2.2) : RbO R' (L ++ [o]) := by
  refine ⟨by rw [List.length_append]; exact h5, fun hl k x hx => ?_⟩
  rw [List.length_append] at hl
  have hl2 : L.length + 1 ≤ 16 := hl
  have hm : min 15 L.length = L.length := by omega
  rcases Nat.lt_trichotomy k L.length with w | w | w
  · rw [List.getElem?_append_left w] at hx
    obtain ⟨a1, a2, a3, a4⟩ := hs k (by omega)
    rw [a1, a2, a3, a4]
    exact h.2 (by omega) k x hx
  · rw [List.getElem?_append_right (by omega), w, Nat.sub_self] at hx
    cases hx
    rw [w, ← hm]
    exact hn
  · rw [List.getElem?_append_right (by omega), List.getElem?_eq_none (by show 1 ≤ _; omega)] at hx
    cases hx
set_option maxRecDepth 100000 in
set_option maxHeartbeats 4000000 in
theorem m12_isOrder {X : gX} {h : gH} {z m c pl q n : Nat} {f : Nat → Int32} {R : rEn} {s : PLt} (hq : m + 25 ≤ q) (hT : RcT n f R) (ha : 6 ≤ tkk n f s.1.1 ∧ tkk n f s.1.1 ≤ 9) (hs : PsOk n f s.1) (hL : s.2.length ≤ 400) (hR : RcS X h m c pl q n f R s.1 0 true) (hO : RbO R s.2) : gM X yX12_isOrder cX12_isOrder 5 (some .boolean) (43, 0, 0) [.ref m, .ref q] h z (fun r h' z' => r = some (.int (b2i (pOr (tkk n f) (tku n f) s).1)) ∧ z' = z ∧ RbS X h' m c pl q n f R (pOr (tkk n f) (tku n f) s).2 (pOr (tkk n f) (tku n f) s).1 ∧ OffR h h' m q) gNoX := by
  obtain ⟨hl1, hl2, hl3⟩ := tkl_spec n f
  have hlt := tk_lt (n := n) (f := f) (t := s.1.1) (by omega) hs.1
  have hk39 := tkk_lt n f s.1.1
  have hkb := kd_lt _ hk39
  have hkw := kd_word _ (show 5 ≤ tkk n f s.1.1 by omega) (show tkk n f s.1.1 ≤ 23 by omega)
  have hA := hs.act (by omega)
  obtain ⟨w, hw, hWp⟩ := pWh_ok (n := n) (f := f) (tkk n f s.1.1)
  have hq2 := PsOk.step hA hWp (by decide) hw
  obtain ⟨k, hk⟩ : ∃ k, k = min 15 s.2.length := ⟨_, rfl⟩
  have hk16 : k < 16 := by omega
  have hpf := pOr_eq (tkk n f) (tku n f) s
  rw [hpf]
  obtain ⟨I0, A0, J0, B0, hM0, hQ0, e10, e20, e30, e40, e50, e60⟩ := id hR
  refine gM.of px12 (Nat.le_of_ble_eq_true rfl) ?_
  intro F hE
  have hkA : A0 1 s.1.1 = nI (kd (tkk n f s.1.1)) := by rw [e20 1 (by decide)]; exact (hT s.1.1 hs.1).1
  have fin3 : ∀ (h1 : gH) (x3 x4 : Int32) (R1 : rEn), (pWh (tkk n f) (tku n f) (tkk n f s.1.1) (pAc s.1)).1 = true → (pTs (tkk n f) (tku n f) (pWh (tkk n f) (tku n f) (tkk n f s.1.1) (pAc s.1)).2).1 = true → RsR R R1 → RcS X h1 m c pl q n f R1 (pTs (tkk n f) (tku n f) (pWh (tkk n f) (tku n f) (tkk n f s.1.1) (pAc s.1)).2).2 0 true → OffR h h1 m q → R1.1 5 = nI (s.2.length + 1) → (∀ i, i ≠ k → R1.2.2.2.2.1 2 i = R.2.2.2.2.1 2 i ∧ R1.2.2.2.2.1 4 i = R.2.2.2.2.1 4 i ∧ R1.2.2.2.2.1 5 i = R.2.2.2.2.1 5 i ∧ R1.2.2.2.2.1 6 i = R.2.2.2.2.1 6 i) → R1.2.2.2.2.1 2 k = nI (kd (tkk n f s.1.1)) → R1.2.2.2.2.1 4 k = nI s.1.2.1.length → R1.2.2.2.2.1 5 k = nI (pWh (tkk n f) (tku n f) (tkk n f s.1.1) (pAc s.1)).2.2.1.length → G X F cX12_isOrder 5 yX12_isOrder.cls (43, 0, 0) 0 0 139 [some (.ref m), some (.ref q), some (.int (nI k)), some (.int x3), some (.int x4)] [] h1 z := by
    intro h1 x3 x4 R1 hwt htt hRR hI hO1 f1 f2 f3 f4 f5
    rw [if_pos hwt, if_pos htt] at hE
    obtain ⟨I1, A1, J1, B1, hM1, hQ1, e11, e21, e31, e41, e51, e61⟩ := id hI
    have hQk := hQ1.2.1 6 (by decide)
    rw [e41 6 (by decide) (by decide)] at hQk
    have hI2 := hI.setB hq 6 k (nI (pTs (tkk n f) (tku n f) (pWh (tkk n f) (tku n f) (tkk n f s.1.1) (pAc s.1)).2).2.2.1.length) (by decide)
    refine g_aload_n dX12_isOrder_139 rfl ?_
    refine g_getfN fl12_188 hQ1.1 rfl dX12_isOrder_140 ?_
    refine g_iload_n dX12_isOrder_143 rfl ?_
    refine g_aload_n dX12_isOrder_144 rfl ?_
    refine g_getfN fl12_274 hQ1.1 rfl dX12_isOrder_145 ?_
    rw [(e61 rfl).2.1]
    refine g_iastN hQk (by show k < 16; omega) (by decide) dX12_isOrder_148 ?_
    refine g_iconst (nI 1) dX12_isOrder_149 (by decide) ?_
    refine g_iret hE rfl ⟨rfl, rfl, ⟨_, hRR.b (Or.inr (Or.inr (Or.inr rfl))), hI2, fun _ => hO.snoc (by exact f1) (fun i hi => ?_) ?_⟩, fun x a b c d => (gset_ne (by have := po_in 6 (by decide); omega)).trans (hO1 x a b c d)⟩ dX12_isOrder_150
    · rw [← hk] at hi
      obtain ⟨g1, g2, g3, g4⟩ := f2 i hi
      exact ⟨(congrFun (rsB_ne (by decide)) i).trans g1, (congrFun (rsB_ne (by decide)) i).trans g2, (congrFun (rsB_ne (by decide)) i).trans g3, (rsB_of hi).trans g4⟩
    · rw [← hk]
      exact ⟨(congrFun (rsB_ne (by decide)) k).trans f3, (congrFun (rsB_ne (by decide)) k).trans f4, (congrFun (rsB_ne (by decide)) k).trans f5, rsB_at⟩
  have fin2 : ∀ (h1 : gH) (x3 : Int32) (x4 : Option Value) (R1 : rEn), RsR R R1 → RcS X h1 m c pl q n f R1 (pWh (tkk n f) (tku n f) (tkk n f s.1.1) (pAc s.1)).2 0 (pWh (tkk n f) (tku n f) (tkk n f s.1.1) (pAc s.1)).1 → OffR h h1 m q → R1.1 5 = nI (s.2.length + 1) → (∀ i, i ≠ k → R1.2.2.2.2.1 2 i = R.2.2.2.2.1 2 i ∧ R1.2.2.2.2.1 4 i = R.2.2.2.2.1 4 i) → (R1.2.2.2.2.1 5 = R.2.2.2.2.1 5 ∧ R1.2.2.2.2.1 6 = R.2.2.2.2.1 6) → R1.2.2.2.2.1 2 k = nI (kd (tkk n f s.1.1)) → R1.2.2.2.2.1 4 k = nI s.1.2.1.length → G X F cX12_isOrder 5 yX12_isOrder.cls (43, 0, 0) 0 0 102 [some (.ref m), some (.ref q), some (.int (nI k)), some (.int x3), none] [.int (b2i (pWh (tkk n f) (tku n f) (tkk n f s.1.1) (pAc s.1)).1)] h1 z := by
    intro h1 x3 x4 R1 hRR hI hO1 f1 f2 f56 f3 f4
    obtain ⟨I1, A1, J1, B1, hM1, hQ1, e11, e21, e31, e41, e51, e61⟩ := id hI
    refine g_istore dX12_isOrder_102 (by decide) rfl ?_
    refine g_iload dX12_isOrder_104 rfl ?_
    refine g_if_neB 111 dX12_isOrder_106 (by decide) (fun c_106 => ?_) (fun c_106 => ?_)
    · rw [c_106] at hI e61
      have hQk := hQ1.2.1 5 (by decide)
      rw [e41 5 (by decide) (by decide)] at hQk
      have hI2 := hI.setB hq 5 k (nI (pWh (tkk n f) (tku n f) (tkk n f s.1.1) (pAc s.1)).2.2.1.length) (by decide)
      obtain ⟨fs2, hg2⟩ := hI2.at
      have hT2 := (hRR.b (j := 5) (k := k) (x := nI (pWh (tkk n f) (tku n f) (tkk n f s.1.1) (pAc s.1)).2.2.1.length) (Or.inr (Or.inr (Or.inl rfl)))).T hT
      have hO2 : ∀ e, OffR h (gset h1 (q + po 5) e) m q := fun e x a b c d => (gset_ne (by have := po_in 5 (by decide); omega)).trans (hO1 x a b c d)
      refine g_aload_n dX12_isOrder_111 rfl ?_
      refine g_getfN fl12_170 hQ1.1 rfl dX12_isOrder_112 ?_
      refine g_iload_n dX12_isOrder_115 rfl ?_
      refine g_aload_n dX12_isOrder_116 rfl ?_
      refine g_getfN fl12_274 hQ1.1 rfl dX12_isOrder_117 ?_
      rw [(e61 rfl).2.1]
      refine g_iastN hQk (by show k < 16; omega) (by decide) dX12_isOrder_120 ?_
      refine g_aload_n dX12_isOrder_121 rfl ?_
      refine g_iconst (nI 5) dX12_isOrder_122 (by decide) ?_
      refine g_callV0 kX12_268 (m12_eat 10 (by decide) hq hT2 hq2.1 hI2) hg2 rfl rfl rfl (Nat.le_of_ble_eq_true rfl) (by decide) (by decide) (Nat.zero_le _) (Nat.zero_le _) dX12_isOrder_123 ?_
      rintro v1 h3 z1 ⟨rfl, rfl, hI3, hO3⟩
      have hO4 := (hO2 _).trans hO3
      obtain ⟨fs3, hg3⟩ := hI3.at
      refine g_if_eqB 139 dX12_isOrder_126 (by decide) (fun c_126 => ?_) (fun c_126 => ?_)
      · have hk10 : ¬ tkk n f (pWh (tkk n f) (tku n f) (tkk n f s.1.1) (pAc s.1)).2.1 = 10 := fun e => by rw [pTk_y e] at c_126; cases c_126
        have hts : (pTs (tkk n f) (tku n f) (pWh (tkk n f) (tku n f) (tkk n f s.1.1) (pAc s.1)).2) = (true, (pWh (tkk n f) (tku n f) (tkk n f s.1.1) (pAc s.1)).2) := if_neg hk10
        rw [show pTk (tkk n f) 10 (pWh (tkk n f) (tku n f) (tkk n f s.1.1) (pAc s.1)).2 = (false, (pWh (tkk n f) (tku n f) (tkk n f s.1.1) (pAc s.1)).2) from if_neg hk10] at hI3
        exact fin3 _ _ _ (rsB R1 5 k (nI (pWh (tkk n f) (tku n f) (tkk n f s.1.1) (pAc s.1)).2.2.1.length)) c_106 (by rw [hts]) (hRR.b (Or.inr (Or.inr (Or.inl rfl)))) (by rw [hts]; exact hI3) hO4 (by exact f1) (fun i hi => ⟨(congrFun (rsB_ne (by decide)) i).trans (f2 i hi).1, (congrFun (rsB_ne (by decide)) i).trans (f2 i hi).2, (rsB_of hi).trans (congrFun f56.1 i), (congrFun (rsB_ne (by decide)) i).trans (congrFun f56.2 i)⟩) ((congrFun (rsB_ne (by decide)) k).trans f3) ((congrFun (rsB_ne (by decide)) k).trans f4) rsB_at
      · refine g_aload_n dX12_isOrder_129 rfl ?_
        refine g_aload_n dX12_isOrder_130 rfl ?_
        have hk10 : tkk n f (pWh (tkk n f) (tku n f) (tkk n f s.1.1) (pAc s.1)).2.1 = 10 := pTk_1 c_126
        rw [pTk_y hk10] at hI3
        have hq8 := hq2.step (Ps.tk hl2 (c := 10) (by decide)) (by decide) (by decide)
        rw [pTk_y hk10] at hq8
        have hts : (pTs (tkk n f) (tku n f) (pWh (tkk n f) (tku n f) (tkk n f s.1.1) (pAc s.1)).2) = (lvT (tkk n f) (tku n f) 8).2 ((pWh (tkk n f) (tku n f) (tkk n f s.1.1) (pAc s.1)).2.1 + 1, (pWh (tkk n f) (tku n f) (tkk n f s.1.1) (pAc s.1)).2.2) := if_pos hk10
        refine g_callV0 kX12_294 ((rvT_ct hq hT2 8 (Nat.le_refl _)).2 _ _ _ hq8 hI3) hg3 rfl rfl rfl (Nat.le_of_ble_eq_true rfl) (by decide) (by decide) (Nat.zero_le _) (Nat.zero_le _) dX12_isOrder_131 ?_
        rintro v1 h5 z1 ⟨rfl, rfl, hI5, hO5⟩
        rw [← hts] at hI5 ⊢
        have hO6 := hO4.trans hO5
        refine g_if_neB 139 dX12_isOrder_134 (by decide) (fun c_134 => ?_) (fun c_134 => ?_)
        · rw [c_134] at hI5
          exact fin3 _ _ _ (rsB R1 5 k (nI (pWh (tkk n f) (tku n f) (tkk n f s.1.1) (pAc s.1)).2.2.1.length)) c_106 c_134 (hRR.b (Or.inr (Or.inr (Or.inl rfl)))) hI5 hO6 (by exact f1) (fun i hi => ⟨(congrFun (rsB_ne (by decide)) i).trans (f2 i hi).1, (congrFun (rsB_ne (by decide)) i).trans (f2 i hi).2, (rsB_of hi).trans (congrFun f56.1 i), (congrFun (rsB_ne (by decide)) i).trans (congrFun f56.2 i)⟩) ((congrFun (rsB_ne (by decide)) k).trans f3) ((congrFun (rsB_ne (by decide)) k).trans f4) rsB_at
        · refine g_iconst (nI 0) dX12_isOrder_137 (by decide) ?_
          rw [c_134] at hI5
          rw [if_pos c_106, if_neg (by rw [c_134]; decide)] at hE
          exact g_iret hE rfl ⟨rfl, rfl, ⟨_, hRR.b (Or.inr (Or.inr (Or.inl rfl))), hI5, fun w => by cases w⟩, hO6⟩ dX12_isOrder_138
    · refine g_iconst (nI 0) dX12_isOrder_109 (by decide) ?_
      rw [c_106] at hI
      rw [if_neg (by rw [c_106]; decide)] at hE
      exact g_iret hE rfl ⟨rfl, rfl, ⟨R1, hRR, hI, fun w => by cases w⟩, hO1⟩ dX12_isOrder_110
  refine g_bipush (nI 15) dX12_isOrder_0 (by decide) ?_
  refine g_aload_n dX12_isOrder_2 rfl ?_
  refine g_getf fl12_320 hM0.1 rfl dX12_isOrder_3 ?_
  rw [e10 5 (by decide) (by decide), hO.1]
  refine gmin wmath_min wlX12_176 (by decide) (Nat.le_of_ble_eq_true rfl) (by decide) (by decide) dX12_isOrder_6 ?_
  rw [nI_min (by omega) (by omega), ← hk]
  refine g_istore_n dX12_isOrder_9 (by decide) rfl ?_
  refine g_aload_n dX12_isOrder_10 rfl ?_
  refine g_dup dX12_isOrder_11 rfl ?_
  refine g_getf fl12_320 hM0.1 rfl dX12_isOrder_12 ?_
  rw [e10 5 (by decide) (by decide), hO.1]
  refine g_iconst (nI 1) dX12_isOrder_15 (by decide) ?_
  first | refine g_iaddN dX12_isOrder_16 ?_ | refine g_iadd dX12_isOrder_16 ?_
  refine md_put5 fl12_320 hM0 OffM.rf dX12_isOrder_17 (fun h1 hM1 hO1 => ?_)
  have hR1 : RcS X h1 m c pl q n f (upd R.1 5 (nI (s.2.length + 1)), R.2) s.1 0 true := ⟨_, A0, J0, B0, hM1, hQ0.off hO1 (by omega), fun j a b => by
    show upd I0 5 _ j = upd R.1 5 _ j
    by_cases e : j = 5
    · subst e; rw [upd_same, upd_same]
    · rw [upd_ne e, upd_ne e]; exact e10 j a b, e20, e30, e40, by rw [upd_ne (by decide)]; exact e50, fun w => ⟨by rw [upd_ne (by decide)]; exact (e60 w).1, (e60 w).2⟩⟩
  have hRR1 : RsR R (upd R.1 5 (nI (s.2.length + 1)), R.2) := ⟨fun j a => upd_ne a, rfl, rfl, rfl, fun _ _ _ _ _ => rfl, rfl⟩
  obtain ⟨I1, A1, J1, B1, hM1, hQ1, e11, e21, e31, e41, e51, e61⟩ := id hR1
  have hQk := hQ1.2.1 2 (by decide)
  rw [e41 2 (by decide) (by decide)] at hQk
  have hkA1 : A1 1 s.1.1 = nI (kd (tkk n f s.1.1)) := by rw [e21 1 (by decide)]; exact (hT s.1.1 hs.1).1
  refine g_aload_n dX12_isOrder_20 rfl ?_
  refine g_getf fl12_24 hM1.1 rfl dX12_isOrder_21 ?_
  refine g_aload_n dX12_isOrder_24 rfl ?_
  refine g_getf fl12_265 hM1.1 rfl dX12_isOrder_25 ?_
  rw [e51]
  refine g_ialdN (hM1.2.1 1 (by decide)) (by show s.1.1 < 401; omega) (by decide) dX12_isOrder_28 ?_
  rw [hkA1]
  refine g_istore_n dX12_isOrder_29 (by decide) rfl ?_
  refine g_aload_n dX12_isOrder_30 rfl ?_
  refine g_getfN fl12_151 hQ1.1 rfl dX12_isOrder_31 ?_
  refine g_iload_n dX12_isOrder_34 rfl ?_
  refine g_iload_n dX12_isOrder_35 rfl ?_
  refine g_iastN hQk (by show k < 16; omega) (by decide) dX12_isOrder_36 ?_
  have hR2 := hR1.setB hq 2 k (nI (kd (tkk n f s.1.1))) (by decide)
  have oR2 : OffR h1 (gset h1 (q + po 2) (gIA X (pz 2) (upd (((upd R.1 5 (nI (s.2.length + 1)), R.2) : rEn).2.2.2.2.1 2) k (nI (kd (tkk n f s.1.1)))))) m q := fun x a b c d => gset_ne (by have := po_in 2 (by decide); omega)
  obtain ⟨I2, A2, J2, B2, hM2, hQ2, e12, e22, e32, e42, e52, e62⟩ := id hR2
  refine g_aload_n dX12_isOrder_37 rfl ?_
  refine g_getf fl12_30 hM2.1 rfl dX12_isOrder_38 ?_
  refine g_aload_n dX12_isOrder_41 rfl ?_
  refine g_getf fl12_265 hM2.1 rfl dX12_isOrder_42 ?_
  rw [e52]
  refine g_iconst (nI 2) dX12_isOrder_45 (by decide) ?_
  refine md_ast (q := 3) (by decide) (by show s.1.1 < 401; omega) hM2 OffM.rf dX12_isOrder_46 (fun h3 hM3 hO3 => ?_)
  refine g_aload_n dX12_isOrder_47 rfl ?_
  refine g_dup dX12_isOrder_48 rfl ?_
  refine g_getf fl12_265 hM3.1 rfl dX12_isOrder_49 ?_
  rw [e52]
  refine g_iconst (nI 1) dX12_isOrder_52 (by decide) ?_
  first | refine g_iaddN dX12_isOrder_53 ?_ | refine g_iadd dX12_isOrder_53 ?_
  refine md_put3 fl12_265 hM3 OffM.rf dX12_isOrder_54 (fun h4 hM4 hO4 => ?_)
  have hR4 : RcS X h4 m c pl q n f (rsB (upd R.1 5 (nI (s.2.length + 1)), R.2) 2 k (nI (kd (tkk n f s.1.1)))) (pAc s.1) 0 true := ⟨_, _, J2, B2, hM4, (hQ2.off hO3 (by omega)).off hO4 (by omega), fun j a b => by rw [upd_ne a]; exact e12 j a b, fun j a => by rw [vu_ne a]; exact e22 j a, e32, e42, upd_same, fun w => ⟨by rw [upd_ne (by decide)]; exact (e62 w).1, (e62 w).2.1, (e62 w).2.2.1, fun i hi => by
    show _ = nI (mnV (s.1.2.2 ++ [(2, s.1.1)]) i)
    rw [mnV_app (fun e he => by have := hs.vlt e he; omega), vu_same]
    by_cases e9 : i = s.1.1
    · rw [if_pos e9, e9, upd_same]
    · rw [if_neg e9, upd_ne e9]; exact (e62 w).2.2.2 i hi⟩⟩
  obtain ⟨I4, A4, J4, B4, hM4, hQ4, e14, e24, e34, e44, e54, e64⟩ := id hR4
  have hQk4 := hQ4.2.1 4 (by decide)
  rw [e44 4 (by decide) (by decide)] at hQk4
  refine g_aload_n dX12_isOrder_57 rfl ?_
  refine g_getfN fl12_167 hQ4.1 rfl dX12_isOrder_58 ?_
  refine g_iload_n dX12_isOrder_61 rfl ?_
  refine g_aload_n dX12_isOrder_62 rfl ?_
  refine g_getfN fl12_274 hQ4.1 rfl dX12_isOrder_63 ?_
  rw [(e64 rfl).2.1]
  refine g_iastN hQk4 (by show k < 16; omega) (by decide) dX12_isOrder_66 ?_
  have hR5 := hR4.setB hq 4 k (nI s.1.2.1.length) (by decide)
  have oR5 : OffR h4 (gset h4 (q + po 4) (gIA X (pz 4) (upd ((rsB (upd R.1 5 (nI (s.2.length + 1)), R.2) 2 k (nI (kd (tkk n f s.1.1)))).2.2.2.2.1 4) k (nI s.1.2.1.length)))) m q := fun x a b c d => gset_ne (by have := po_in 4 (by decide); omega)
  have hO5 : OffR h _ m q := (((hO1.toR.trans oR2).trans hO3.toR).trans hO4.toR).trans oR5
  obtain ⟨fs5, hg5⟩ := hR5.at
  have hRR5 := (hRR1.b (j := 2) (k := k) (x := nI (kd (tkk n f s.1.1))) (Or.inl rfl)).b (j := 4) (k := k) (x := nI s.1.2.1.length) (Or.inr (Or.inl rfl))
  have hT5 := hRR5.T hT
  have g2 : ∀ i, i ≠ k → (rsB (rsB (upd R.1 5 (nI (s.2.length + 1)), R.2) 2 k (nI (kd (tkk n f s.1.1)))) 4 k (nI s.1.2.1.length)).2.2.2.2.1 2 i = R.2.2.2.2.1 2 i ∧ (rsB (rsB (upd R.1 5 (nI (s.2.length + 1)), R.2) 2 k (nI (kd (tkk n f s.1.1)))) 4 k (nI s.1.2.1.length)).2.2.2.2.1 4 i = R.2.2.2.2.1 4 i := fun i hi => ⟨(congrFun (rsB_ne (by decide)) i).trans (rsB_of hi), (rsB_of hi).trans (congrFun (rsB_ne (by decide)) i)⟩
  have g56 : (rsB (rsB (upd R.1 5 (nI (s.2.length + 1)), R.2) 2 k (nI (kd (tkk n f s.1.1)))) 4 k (nI s.1.2.1.length)).2.2.2.2.1 5 = R.2.2.2.2.1 5 ∧ (rsB (rsB (upd R.1 5 (nI (s.2.length + 1)), R.2) 2 k (nI (kd (tkk n f s.1.1)))) 4 k (nI s.1.2.1.length)).2.2.2.2.1 6 = R.2.2.2.2.1 6 := ⟨(rsB_ne (by decide)).trans (rsB_ne (by decide)), (rsB_ne (by decide)).trans (rsB_ne (by decide))⟩
  refine g_iload_n dX12_isOrder_67 rfl ?_
  refine g_iconst (nI 1) dX12_isOrder_68 (by decide) ?_
  refine g_icmp_neN 82 dX12_isOrder_69 (by decide) (by omega) (by omega) (fun c_69 => ?_) (fun c_69 => ?_)
  · refine g_iload_n dX12_isOrder_82 rfl ?_
    refine g_iconst (nI 2) dX12_isOrder_83 (by decide) ?_
    refine g_icmp_neN 97 dX12_isOrder_84 (by decide) (by omega) (by omega) (fun c_84 => ?_) (fun c_84 => ?_)
    · refine g_aload_n dX12_isOrder_97 rfl ?_
      refine g_aload_n dX12_isOrder_98 rfl ?_
      refine g_callV0 kX12_307 ((rvV_ct hq hT5 8 (Nat.le_refl _)).2 _ _ _ hA hR5) hg5 rfl rfl rfl (Nat.le_of_ble_eq_true rfl) (by decide) (by decide) (Nat.zero_le _) (Nat.zero_le _) dX12_isOrder_99 ?_
      rintro v1 h6 z1 ⟨rfl, rfl, hI6, hO6⟩
      have hO7 := hO5.trans hO6
      have hF : pWh (tkk n f) (tku n f) (tkk n f s.1.1) = (lvV (tkk n f) (tku n f) 8).2 := by unfold pWh; rw [if_neg (fun e => c_69 (by rw [e]; rfl)), if_neg (fun e => c_84 (by rw [e]; rfl))]
      rw [← hF] at hI6 ⊢
      exact fin2 h6 (nI (kd (tkk n f s.1.1))) none _ hRR5 hI6 hO7 (by show upd R.1 5 (nI (s.2.length + 1)) 5 = _; exact upd_same) g2 g56 ((congrFun (rsB_ne (by decide)) k).trans rsB_at) rsB_at
    · refine g_aload_n dX12_isOrder_87 rfl ?_
      refine g_bipush (nI 30) dX12_isOrder_88 (by decide) ?_
      refine g_iconst (nI 4) dX12_isOrder_90 (by decide) ?_
      refine g_callV0 kX12_277 (m12_eatAs 4 hq hT5 hA.1 hA.vlt hR5) hg5 rfl rfl rfl (Nat.le_of_ble_eq_true rfl) (by decide) (by decide) (Nat.zero_le _) (Nat.zero_le _) dX12_isOrder_91 ?_
      rintro v1 h6 z1 ⟨rfl, rfl, hI6, hO6⟩
      have hO7 := hO5.trans hO6
      refine g_goto 102 dX12_isOrder_94 (by decide) ?_
      have e7 := kd_inj _ hk39 7 (by decide) (c_84.trans rfl)
      have hF : pWh (tkk n f) (tku n f) (tkk n f s.1.1) = pNm (tkk n f) 4 := by rw [e7]; rfl
      rw [← hF] at hI6 ⊢
      exact fin2 h6 (nI (kd (tkk n f s.1.1))) none _ hRR5 hI6 hO7 (by show upd R.1 5 (nI (s.2.length + 1)) 5 = _; exact upd_same) g2 g56 ((congrFun (rsB_ne (by decide)) k).trans rsB_at) rsB_at
  · refine g_aload_n dX12_isOrder_72 rfl ?_
    refine g_bipush (nI 30) dX12_isOrder_73 (by decide) ?_
    refine g_iconst (nI 3) dX12_isOrder_75 (by decide) ?_
    refine g_callV0 kX12_277 (m12_eatAs 3 hq hT5 hA.1 hA.vlt hR5) hg5 rfl rfl rfl (Nat.le_of_ble_eq_true rfl) (by decide) (by decide) (Nat.zero_le _) (Nat.zero_le _) dX12_isOrder_76 ?_
    rintro v1 h6 z1 ⟨rfl, rfl, hI6, hO6⟩
    have hO7 := hO5.trans hO6
    refine g_goto 102 dX12_isOrder_79 (by decide) ?_
    have e6 := kd_inj _ hk39 6 (by decide) (c_69.trans rfl)
    have hF : pWh (tkk n f) (tku n f) (tkk n f s.1.1) = pNm (tkk n f) 3 := by rw [e6]; rfl
    rw [← hF] at hI6 ⊢
    exact fin2 h6 (nI (kd (tkk n f s.1.1))) none _ hRR5 hI6 hO7 (by show upd R.1 5 (nI (s.2.length + 1)) 5 = _; exact upd_same) g2 g56 ((congrFun (rsB_ne (by decide)) k).trans rsB_at) rsB_at
