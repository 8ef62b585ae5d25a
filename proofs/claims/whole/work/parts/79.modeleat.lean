/-! the reference: what its parser holds; a token is eaten, a step is put -/
abbrev rEn : Type := (Nat → Int32) × (Nat → Nat → Int32) × (Nat → Int64) × (Nat → Int32) × (Nat → Nat → Int32) × (Nat → Int64) × (Nat → Int64)
def mnV (V : List (Nat × Nat)) (i : Nat) : Nat := ((V.find? (fun e => e.2 == i)).map (fun e => e.1)).getD 0
theorem mnV_app {V : List (Nat × Nat)} {m t i : Nat} (h : ∀ e, e ∈ V → e.2 ≠ t) : mnV (V ++ [(m, t)]) i = if i = t then m else mnV V i := by
  unfold mnV
  rw [List.find?_append]
  by_cases e : i = t
  · subst e
    rw [if_pos rfl, List.find?_eq_none.mpr (fun e he => by simpa using h e he)]
    simp
  · rw [if_neg e]
    have e2 : (t == i) = false := beq_eq_false_iff_ne.mpr (Ne.symm e)
    cases V.find? (fun e => e.2 == i) with
    | some x => rfl
    | none => simp [List.find?, e2]
/-- nothing but the reference at m and its plan at q has changed -/
def OffR (h h' : gH) (m q : Nat) : Prop := ∀ x : Nat, x ≠ m → x ≠ m + 1 → (x < m + 14 ∨ m + 25 ≤ x) → (x < q ∨ q + 12 ≤ x) → h' x = h x
theorem OffR.rf {h : gH} {m q : Nat} : OffR h h m q := fun _ _ _ _ _ => rfl
theorem OffR.trans {h0 h1 h2 : gH} {m q : Nat} (x : OffR h0 h1 m q) (y : OffR h1 h2 m q) : OffR h0 h2 m q := fun p a b c d => (y p a b c d).trans (x p a b c d)
theorem OffM.toR {h h' : gH} {m q : Nat} (x : OffM h h' m) : OffR h h' m q := fun p a b c _ => x p a b c
theorem OffB.toR {h h' : gH} {m q b k : Nat} (x : OffB h h' b k) (hd : q ≤ b ∧ b + k ≤ q + 12) : OffR h h' m q := fun p _ _ _ a => x p (by omega)
/-- the reference reads the tape f of n bytes into the plan at q: s is how far it has come, all is well while b -/
def RcS (X : gX) (h : gH) (m c pl q n : Nat) (f : Nat → Int32) (R : rEn) (s : PSt) (dp : Nat) (b : Bool) : Prop := ∃ (I : Nat → Int32) (A : Nat → Nat → Int32) (J : Nat → Int32) (B : Nat → Nat → Int32), MdB X h m c pl I A R.2.2.1 ∧ MpB X h q J B R.2.2.2.2.2.1 R.2.2.2.2.2.2 ∧ (∀ j, j ≠ 3 → j ≠ 4 → I j = R.1 j) ∧ (∀ k, k ≠ 3 → A k = R.2.1 k) ∧ (∀ j, j ≠ 2 → J j = R.2.2.2.1 j) ∧ (∀ k, k ≠ 7 → k ≠ 8 → B k = R.2.2.2.2.1 k) ∧ I 3 = nI s.1 ∧ (b = true → I 4 = nI dp ∧ J 2 = nI s.2.1.length ∧ (∀ j x, s.2.1[j]? = some x → B 7 j = nI (rc x.1) ∧ B 8 j = nI x.2) ∧ ∀ i, i ≤ tkl n f → A 3 i = nI (mnV s.2.2 i))
def RcT (n : Nat) (f : Nat → Int32) (R : rEn) : Prop := ∀ i, i ≤ tkl n f → R.2.1 1 i = nI (kd (tkk n f i)) ∧ (tkk n f i = 3 → R.2.2.1 i = lN (tku n f i))
theorem RcS.f {X : gX} {h : gH} {m c pl q n dp : Nat} {f : Nat → Int32} {R : rEn} {s : PSt} {b : Bool} (hR : RcS X h m c pl q n f R s dp b) {dp' : Nat} {E V : List (Nat × Nat)} : RcS X h m c pl q n f R (s.1, E, V) dp' false := by
  obtain ⟨I, A, J, B, h1, h2, h3, h4, h5, h6, h7, -⟩ := hR
  exact ⟨I, A, J, B, h1, h2, h3, h4, h5, h6, h7, fun q => by cases q⟩
theorem RcS.at {X : gX} {h : gH} {m c pl q n dp : Nat} {f : Nat → Int32} {R : rEn} {s : PSt} {b : Bool} (hR : RcS X h m c pl q n f R s dp b) : ∃ fs, h m = some (.inr (10, fs)) := by
  obtain ⟨I, A, J, B, h1, -⟩ := hR
  exact ⟨_, h1.1⟩
theorem MdB.offq {X : gX} {h h' : gH} {m c pl q : Nat} {I : Nat → Int32} {A : Nat → Nat → Int32} {V : Nat → Int64} (hM : MdB X h m c pl I A V) (hO : OffB h h' q 12) (hq : m + 25 ≤ q) : MdB X h' m c pl I A V := ⟨(hO m (by omega)).trans hM.1, fun k hk => (hO _ (by have := mo_in k hk; omega)).trans (hM.2.1 k hk), (hO _ (by omega)).trans hM.2.2⟩
set_option maxRecDepth 100000 in
set_option maxHeartbeats 4000000 in
theorem m12_eat {X : gX} {h : gH} {z m c pl q n dp : Nat} {f : Nat → Int32} {R : rEn} {s : PSt} {b : Bool} (t : Nat) (ht : t < 39) (hq : m + 25 ≤ q) (hT : RcT n f R) (hs : s.1 ≤ tkl n f) (hR : RcS X h m c pl q n f R s dp b) : gM X yX12_eat cX12_eat 2 (some .boolean) (0, 0, 0) [.ref m, .int (nI (kd t))] h z (fun r h' z' => r = some (.int (b2i (pTk (tkk n f) t s).1)) ∧ z' = z ∧ RcS X h' m c pl q n f R (pTk (tkk n f) t s).2 dp b ∧ OffR h h' m q) gNoX := by
  have hl4 := (tkl_spec n f).1
  have hR0 := hR
  obtain ⟨I, A, J, B, hM, hP, e1, e2, e3, e4, e5, e6⟩ := hR
  have hk := (hT s.1 hs).1
  rw [← e2 1 (by decide)] at hk
  have hk39 := tkk_lt n f s.1
  have hkb := kd_lt _ hk39
  have hkt := kd_lt _ ht
  have hM' := hM
  refine gM.of px12 (Nat.le_of_ble_eq_true rfl) ?_
  intro F hE
  refine g_aload_n dX12_eat_0 rfl ?_
  refine g_getf fl12_24 hM.1 rfl dX12_eat_1 ?_
  refine g_aload_n dX12_eat_4 rfl ?_
  refine g_getf fl12_265 hM.1 rfl dX12_eat_5 ?_
  rw [e5]
  refine g_ialdN (hM.2.1 1 (by decide)) (by show s.1 < 401; omega) (by decide) dX12_eat_8 ?_
  rw [hk]
  refine g_iload_n dX12_eat_9 rfl ?_
  refine g_icmp_eqN 15 dX12_eat_10 (by decide) (by omega) (by omega) (fun c_10 => ?_) (fun c_10 => ?_)
  · refine g_aload_n dX12_eat_15 rfl ?_
    refine g_dup dX12_eat_16 rfl ?_
    refine g_getf fl12_265 hM.1 rfl dX12_eat_17 ?_
    rw [e5]
    refine g_iconst (nI 1) dX12_eat_20 (by decide) ?_
    first | refine g_iaddN dX12_eat_21 ?_ | refine g_iadd dX12_eat_21 ?_
    refine md_put3 fl12_265 hM OffM.rf dX12_eat_22 (fun h2 hM2 hO2 => ?_)
    refine g_iconst (nI 1) dX12_eat_25 (by decide) ?_
    exact g_iret hE rfl (⟨by rw [show pTk (tkk n f) t s = _ from if_pos (kd_inj _ hk39 t ht c_10)]; rfl, rfl, by rw [show pTk (tkk n f) t s = _ from if_pos (kd_inj _ hk39 t ht c_10)]; exact ⟨_, A, J, B, hM2, hP.off hO2 (by omega), fun j a b => by rw [upd_ne a]; exact e1 j a b, e2, e3, e4, upd_same, fun q => ⟨by rw [upd_ne (by decide)]; exact (e6 q).1, (e6 q).2⟩⟩, hO2.toR⟩) dX12_eat_26
  · refine g_iconst (nI 0) dX12_eat_13 (by decide) ?_
    exact g_iret hE rfl (⟨by rw [show pTk (tkk n f) t s = _ from if_neg (fun q => c_10 (by rw [q]))]; rfl, rfl, by rw [show pTk (tkk n f) t s = _ from if_neg (fun q => c_10 (by rw [q]))]; exact hR0, OffR.rf⟩) dX12_eat_14
set_option maxRecDepth 100000 in
set_option maxHeartbeats 4000000 in
theorem m12_eatAs {X : gX} {h : gH} {z m c pl q n dp : Nat} {f : Nat → Int32} {R : rEn} {s : PSt} (k : Nat) (hq : m + 25 ≤ q) (hT : RcT n f R) (hs : s.1 ≤ tkl n f) (hV : ∀ e, e ∈ s.2.2 → e.2 < s.1) (hR : RcS X h m c pl q n f R s dp true) : gM X yX12_eatAs cX12_eatAs 3 (some .boolean) (1, 0, 0) [.ref m, .int (nI 30), .int (nI k)] h z (fun r h' z' => r = some (.int (b2i (pNm (tkk n f) k s).1)) ∧ z' = z ∧ RcS X h' m c pl q n f R (pNm (tkk n f) k s).2 dp (pNm (tkk n f) k s).1 ∧ OffR h h' m q) gNoX := by
  have hl4 := (tkl_spec n f).1
  have hR0 := hR
  obtain ⟨I, A, J, B, hM, hP, e1, e2, e3, e4, e5, e6⟩ := hR
  have hM' := hM
  refine gM.of px12 (Nat.le_of_ble_eq_true rfl) ?_
  intro F hE
  refine g_aload_n dX12_eatAs_0 rfl ?_
  refine g_getf fl12_30 hM.1 rfl dX12_eatAs_1 ?_
  refine g_aload_n dX12_eatAs_4 rfl ?_
  refine g_getf fl12_265 hM.1 rfl dX12_eatAs_5 ?_
  rw [e5]
  refine g_iload_n dX12_eatAs_8 rfl ?_
  refine md_ast (q := 3) (by decide) (by show s.1 < 401; omega) hM OffM.rf dX12_eatAs_9 (fun h2 hM2 hO2 => ?_)
  have hP2 := hP.off hO2 (by omega)
  by_cases hk : tkk n f s.1 = 2
  case pos =>
    have hR2 : RcS X h2 m c pl q n f R (s.1, s.2.1, s.2.2 ++ [(k, s.1)]) dp true := ⟨I, _, J, B, hM2, hP2, e1, fun j a => by rw [vu_ne a]; exact e2 j a, e3, e4, e5, fun _ => ⟨(e6 rfl).1, (e6 rfl).2.1, (e6 rfl).2.2.1, fun i hi => by
      rw [mnV_app (fun e he => by have := hV e he; omega), vu_same]
      by_cases e9 : i = s.1
      · rw [if_pos e9, e9, upd_same]
      · rw [if_neg e9, upd_ne e9]; exact (e6 rfl).2.2.2 i hi⟩⟩
    have ee : pNm (tkk n f) k s = (true, (s.1 + 1, s.2.1, s.2.2 ++ [(k, s.1)])) := if_pos hk
    rw [ee] at hE
    refine g_aload_n dX12_eatAs_10 rfl ?_
    refine g_iload_n dX12_eatAs_11 rfl ?_
    refine g_callV0 kX12_268 (m12_eat (s := (s.1, s.2.1, s.2.2 ++ [(k, s.1)])) 2 (by decide) hq hT hs hR2) hM2.1 rfl rfl rfl (Nat.le_of_ble_eq_true rfl) (by decide) (by decide) (by decide) (by decide) dX12_eatAs_12 ?_
    rintro v1 h3 z1 ⟨rfl, rfl, hR3, hO3⟩
    rw [show pTk (tkk n f) 2 (s.1, s.2.1, s.2.2 ++ [(k, s.1)]) = (true, (s.1 + 1, s.2.1, s.2.2 ++ [(k, s.1)])) from if_pos hk] at hR3 ⊢
    exact g_iret hE (nrB _) ⟨rfl, rfl, hR3, hO2.toR.trans hO3⟩ dX12_eatAs_15
  have hR2 : RcS X h2 m c pl q n f R s dp false := ⟨I, _, J, B, hM2, hP2, e1, fun j a => by rw [vu_ne a]; exact e2 j a, e3, e4, e5, fun q => by cases q⟩
  have ee : pNm (tkk n f) k s = (false, s) := if_neg hk
  rw [ee] at hE
  refine g_aload_n dX12_eatAs_10 rfl ?_
  refine g_iload_n dX12_eatAs_11 rfl ?_
  refine g_callV0 kX12_268 (m12_eat (s := s) 2 (by decide) hq hT hs hR2) hM2.1 rfl rfl rfl (Nat.le_of_ble_eq_true rfl) (by decide) (by decide) (by decide) (by decide) dX12_eatAs_12 ?_
  rintro v1 h3 z1 ⟨rfl, rfl, hR3, hO3⟩
  rw [show pTk (tkk n f) 2 s = (false, s) from if_neg hk] at hR3 ⊢
  exact g_iret hE (nrB _) ⟨rfl, rfl, hR3, hO2.toR.trans hO3⟩ dX12_eatAs_15
set_option maxRecDepth 100000 in
set_option maxHeartbeats 4000000 in
theorem m12_deeper {X : gX} {h : gH} {z m c pl q n dp : Nat} {f : Nat → Int32} {R : rEn} {s : PSt} (t : Nat) (ht : t < 39) (hq : m + 25 ≤ q) (hT : RcT n f R) (hs : s.1 ≤ tkl n f) (hd : dp ≤ 8) (hR : RcS X h m c pl q n f R s dp true) : gM X yX12_deeper cX12_deeper 2 (some .boolean) (1, 0, 0) [.ref m, .int (nI (kd t))] h z (fun r h' z' => z' = z ∧ OffR h h' m q ∧ ((dp = 8 ∧ r = some (.int (b2i false)) ∧ RcS X h' m c pl q n f R s dp true) ∨ (dp < 8 ∧ (pTk (tkk n f) t s).1 = false ∧ r = some (.int (b2i false)) ∧ RcS X h' m c pl q n f R (pTk (tkk n f) t s).2 dp true) ∨ (dp < 8 ∧ (pTk (tkk n f) t s).1 = true ∧ r = some (.int (b2i true)) ∧ RcS X h' m c pl q n f R (pTk (tkk n f) t s).2 (dp + 1) true))) gNoX := by
  have hR0 := hR
  obtain ⟨I, A, J, B, hM, hP, e1, e2, e3, e4, e5, e6⟩ := hR
  refine gM.of px12 (Nat.le_of_ble_eq_true rfl) ?_
  intro F hE
  refine g_aload_n dX12_deeper_0 rfl ?_
  refine g_getf fl12_271 hM.1 rfl dX12_deeper_1 ?_
  rw [(e6 rfl).1]
  refine g_bipush (nI 8) dX12_deeper_4 (by decide) ?_
  refine g_icmp_eqN 17 dX12_deeper_6 (by decide) (by omega) (by omega) (fun c_6 => ?_) (fun c_6 => ?_)
  · refine g_iconst (nI 0) dX12_deeper_17 (by decide) ?_
    exact g_iret hE rfl (⟨rfl, OffR.rf, Or.inl ⟨c_6, rfl, hR0⟩⟩) dX12_deeper_18
  · refine g_aload_n dX12_deeper_9 rfl ?_
    refine g_iload_n dX12_deeper_10 rfl ?_
    refine g_callV0 kX12_268 (m12_eat t ht hq hT hs hR0) hM.1 rfl rfl rfl (Nat.le_of_ble_eq_true rfl) (by decide) (by decide) (by decide) (by decide) dX12_deeper_11 ?_
    rintro v1 h3 z1 ⟨rfl, rfl, hR3, hO3⟩
    obtain ⟨I2, A2, J2, B2, hM2, hP2, f1, f2, f3, f4, f5, f6⟩ := id hR3
    refine g_if_neB 19 dX12_deeper_14 (by decide) (fun c_14 => ?_) (fun c_14 => ?_)
    · refine g_aload_n dX12_deeper_19 rfl ?_
      refine g_dup dX12_deeper_20 rfl ?_
      refine g_getf fl12_271 hM2.1 rfl dX12_deeper_21 ?_
      rw [(f6 rfl).1]
      refine g_iconst (nI 1) dX12_deeper_24 (by decide) ?_
      first | refine g_iaddN dX12_deeper_25 ?_ | refine g_iadd dX12_deeper_25 ?_
      refine md_put4 fl12_271 hM2 OffM.rf dX12_deeper_26 (fun h4 hM4 hO4 => ?_)
      refine g_iconst (nI 1) dX12_deeper_29 (by decide) ?_
      exact g_iret hE rfl (⟨rfl, hO3.trans hO4.toR, Or.inr (Or.inr ⟨by omega, c_14, rfl, ⟨_, A2, J2, B2, hM4, hP2.off hO4 (by omega), fun j a b => by rw [upd_ne b]; exact f1 j a b, f2, f3, f4, by rw [upd_ne (by decide)]; exact f5, fun _ => ⟨upd_same, (f6 rfl).2⟩⟩⟩)⟩) dX12_deeper_30
    · refine g_iconst (nI 0) dX12_deeper_17 (by decide) ?_
      exact g_iret hE rfl (⟨rfl, hO3, Or.inr (Or.inl ⟨by omega, c_14, rfl, hR3⟩)⟩) dX12_deeper_18
set_option maxRecDepth 100000 in
set_option maxHeartbeats 4000000 in
theorem m12_closes {X : gX} {h : gH} {z m c pl q n dp : Nat} {f : Nat → Int32} {R : rEn} {s : PSt} (t : Nat) (ht : t < 39) (hq : m + 25 ≤ q) (hT : RcT n f R) (hs : s.1 ≤ tkl n f) (hd : dp ≤ 8) (hR : RcS X h m c pl q n f R s (dp + 1) true) : gM X yX12_closes cX12_closes 2 (some .boolean) (1, 0, 0) [.ref m, .int (nI (kd t))] h z (fun r h' z' => r = some (.int (b2i (pTk (tkk n f) t s).1)) ∧ z' = z ∧ RcS X h' m c pl q n f R (pTk (tkk n f) t s).2 dp (pTk (tkk n f) t s).1 ∧ OffR h h' m q) gNoX := by
  have hR0 := hR
  obtain ⟨I, A, J, B, hM, hP, e1, e2, e3, e4, e5, e6⟩ := hR
  refine gM.of px12 (Nat.le_of_ble_eq_true rfl) ?_
  intro F hE
  refine g_aload_n dX12_closes_0 rfl ?_
  refine g_iload_n dX12_closes_1 rfl ?_
  refine g_callV0 kX12_268 (m12_eat t ht hq hT hs hR0) hM.1 rfl rfl rfl (Nat.le_of_ble_eq_true rfl) (by decide) (by decide) (by decide) (by decide) dX12_closes_2 ?_
  rintro v1 h3 z1 ⟨rfl, rfl, hR3, hO3⟩
  obtain ⟨I2, A2, J2, B2, hM2, hP2, f1, f2, f3, f4, f5, f6⟩ := id hR3
  refine g_if_neB 10 dX12_closes_5 (by decide) (fun c_5 => ?_) (fun c_5 => ?_)
  · refine g_aload_n dX12_closes_10 rfl ?_
    refine g_dup dX12_closes_11 rfl ?_
    refine g_getf fl12_271 hM2.1 rfl dX12_closes_12 ?_
    rw [(f6 rfl).1]
    refine g_iconst (nI 1) dX12_closes_15 (by decide) ?_
    first | refine g_isubN dX12_closes_16 (by omega) ?_ | refine g_isub dX12_closes_16 ?_
    refine md_put4 fl12_271 hM2 OffM.rf dX12_closes_17 (fun h4 hM4 hO4 => ?_)
    refine g_iconst (nI 1) dX12_closes_20 (by decide) ?_
    exact g_iret hE rfl (⟨by rw [c_5]; rfl, rfl, by rw [c_5]; exact ⟨_, A2, J2, B2, hM4, hP2.off hO4 (by omega), fun j a b => by rw [upd_ne b]; exact f1 j a b, f2, f3, f4, by rw [upd_ne (by decide)]; exact f5, fun _ => ⟨upd_same, (f6 rfl).2⟩⟩, hO3.trans hO4.toR⟩) dX12_closes_21
  · refine g_iconst (nI 0) dX12_closes_8 (by decide) ?_
    exact g_iret hE rfl (⟨by rw [c_5]; rfl, rfl, by rw [c_5]; exact ⟨I2, A2, J2, B2, hM2, hP2, f1, f2, f3, f4, f5, fun q => by cases q⟩, hO3⟩) dX12_closes_9
theorem po_ne : ∀ i, i < 9 → ∀ k, k < 9 → i ≠ k → po i ≠ po k := by decide
theorem po_in : ∀ k, k < 9 → po k ≠ 0 ∧ po k ≠ 1 ∧ po k ≠ 6 ∧ po k < 12 := by decide
theorem MpB.ast {X : gX} {h : gH} {q k j : Nat} {x : Int32} {J : Nat → Int32} {B : Nat → Nat → Int32} {U W : Nat → Int64} (hP : MpB X h q J B U W) (hk : k < 9) : MpB X (gset h (q + po k) (gIA X (pz k) (upd (B k) j x))) q J (va_up B k (upd (B k) j x)) U W := by
  have hi := po_in k hk
  refine ⟨(gset_ne (by omega)).trans hP.1, fun i hi2 => ?_, (gset_ne (by omega)).trans hP.2.2.1, (gset_ne (by omega)).trans hP.2.2.2⟩
  by_cases e : i = k
  · subst e
    rw [gset_same, vu_same]
  · have := po_ne i hi2 k hk e
    rw [gset_ne (by omega), hP.2.1 i hi2, vu_ne e]
theorem MpB.put {X : gX} {h : gH} {q : Nat} {J J' : Nat → Int32} {B : Nat → Nat → Int32} {U W : Nat → Int64} (hP : MpB X h q J B U W) : MpB X (gset h q (.inr (9, mpF q J'))) q J' B U W :=
  ⟨gset_same, fun i hi => (gset_ne (by have := po_in i hi; omega)).trans (hP.2.1 i hi), (gset_ne (by omega)).trans hP.2.2.1, (gset_ne (by omega)).trans hP.2.2.2⟩
set_option maxRecDepth 100000 in
set_option maxHeartbeats 4000000 in
theorem m12_put {X : gX} {h : gH} {z m c pl q n dp : Nat} {f : Nat → Int32} {R : rEn} {s : PSt} (t x : Nat) (hq : m + 25 ≤ q) (hl : s.2.1.length < 400) (hR : RcS X h m c pl q n f R s dp true) : gM X yX12_put cX12_put 4 none (0, 0, 0) [.ref m, .ref q, .int (nI (rc t)), .int (nI x)] h z (fun r h' z' => r = none ∧ z' = z ∧ RcS X h' m c pl q n f R (pPt t x s).2 dp true ∧ OffR h h' m q) gNoX := by
  obtain ⟨I, A, J, B, hM, hP, e1, e2, e3, e4, e5, e6⟩ := hR
  obtain ⟨e61, e62, e63, e64⟩ := e6 rfl
  have hPa := hP.ast (k := 7) (j := s.2.1.length) (x := nI (rc t)) (by decide)
  have hPb := hPa.ast (k := 8) (j := s.2.1.length) (x := nI x) (by decide)
  have hPc := hPb.put (J' := upd J 2 (nI (s.2.1.length + 1)))
  refine gM.of px12 (Nat.le_of_ble_eq_true rfl) ?_
  intro F hE
  refine g_aload_n dX12_put_0 rfl ?_
  refine g_getfN fl12_205 hP.1 rfl dX12_put_1 ?_
  refine g_aload_n dX12_put_4 rfl ?_
  refine g_getfN fl12_274 hP.1 rfl dX12_put_5 ?_
  rw [e62]
  refine g_iload_n dX12_put_8 rfl ?_
  refine g_iastN (hP.2.1 7 (by decide)) (by show _ < 800; omega) (by decide) dX12_put_9 ?_
  refine g_aload_n dX12_put_10 rfl ?_
  refine g_getfN fl12_211 hPa.1 rfl dX12_put_11 ?_
  refine g_aload_n dX12_put_14 rfl ?_
  refine g_getfN fl12_274 hPa.1 rfl dX12_put_15 ?_
  rw [e62]
  refine g_iload_n dX12_put_18 rfl ?_
  refine g_iastN (hPa.2.1 8 (by decide)) (by show _ < 800; omega) (by decide) dX12_put_19 ?_
  refine g_aload_n dX12_put_20 rfl ?_
  refine g_dup dX12_put_21 rfl ?_
  refine g_getfN fl12_274 hPb.1 rfl dX12_put_22 ?_
  rw [e62]
  refine g_iconst (nI 1) dX12_put_25 (by decide) ?_
  first | refine g_iaddN dX12_put_26 ?_ | refine g_iadd dX12_put_26 ?_
  refine g_putfN fl12_274 (hPb.1) rfl rfl rfl (Nat.le_of_ble_eq_true rfl) dX12_put_27 ?_
  have oo : OffB h _ q 12 := ((OffB.rf.put (a := q) (n := 12) (b := q + po 7) (e := gIA X (pz 7) (upd (B 7) s.2.1.length (nI (rc t)))) (by omega) (by show q + 10 < q + 12; omega)).put (b := q + po 8) (e := gIA X (pz 8) (upd (va_up B 7 (upd (B 7) s.2.1.length (nI (rc t))) 8) s.2.1.length (nI x))) (by omega) (by show q + 11 < q + 12; omega)).put (b := q) (e := .inr (9, mpF q (upd J 2 (nI (s.2.1.length + 1))))) (by omega) (by omega)
  refine g_vret hE ⟨rfl, rfl, ⟨I, A, _, _, hM.offq oo hq, hPc, e1, e2, fun j a => by rw [upd_ne a]; exact e3 j a, fun k a b => by rw [vu_ne b, vu_ne a]; exact e4 k a b, e5, fun _ => ⟨e61, ?_, fun j y hy => ?_, e64⟩⟩, oo.toR (by omega)⟩ dX12_put_30
  · show upd J 2 (nI (s.2.1.length + 1)) 2 = nI (s.2.1 ++ [(t, x)]).length
    rw [upd_same, List.length_append]; rfl
  · have hy2 : (s.2.1 ++ [(t, x)])[j]? = some y := hy
    rw [vu_ne (by decide), vu_same, vu_same, vu_ne (by decide)]
    rcases Nat.lt_trichotomy j s.2.1.length with q | q | q
    · rw [List.getElem?_append_left q] at hy2
      rw [upd_ne (by omega), upd_ne (by omega)]
      exact e63 j y hy2
    · subst q
      rw [List.getElem?_append_right (Nat.le_refl _), Nat.sub_self] at hy2
      cases hy2
      exact ⟨upd_same, upd_same⟩
    · rw [List.getElem?_append_right (by omega), List.getElem?_eq_none (by show 1 ≤ _; omega)] at hy2
      cases hy2
theorem RcS.t1 {X : gX} {h h' : gH} {m c pl q n dp : Nat} {f : Nat → Int32} {R : rEn} {s : PSt} {I : Nat → Int32} {A : Nat → Nat → Int32} {J : Nat → Int32} {B : Nat → Nat → Int32} (hq : m + 25 ≤ q) (hM : MdB X h' m c pl (upd I 3 (nI (s.1 + 1))) A R.2.2.1) (hO : OffM h h' m) (hP : MpB X h q J B R.2.2.2.2.2.1 R.2.2.2.2.2.2) (e1 : ∀ j, j ≠ 3 → j ≠ 4 → I j = R.1 j) (e2 : ∀ k, k ≠ 3 → A k = R.2.1 k) (e3 : ∀ j, j ≠ 2 → J j = R.2.2.2.1 j) (e4 : ∀ k, k ≠ 7 → k ≠ 8 → B k = R.2.2.2.2.1 k) (e6 : I 4 = nI dp ∧ J 2 = nI s.2.1.length ∧ (∀ j x, s.2.1[j]? = some x → B 7 j = nI (rc x.1) ∧ B 8 j = nI x.2) ∧ ∀ i, i ≤ tkl n f → A 3 i = nI (mnV s.2.2 i)) : RcS X h' m c pl q n f R (s.1 + 1, s.2) dp true :=
  ⟨_, A, J, B, hM, hP.off hO (by omega), fun j a b => by rw [upd_ne a]; exact e1 j a b, e2, e3, e4, upd_same, fun _ => ⟨by rw [upd_ne (by decide)]; exact e6.1, e6.2⟩⟩
theorem PsOk.vlt {n : Nat} {f : Nat → Int32} {s : PSt} (h : PsOk n f s) : ∀ e, e ∈ s.2.2 → e.2 < s.1 := fun e he => (h.2.2.1.2 e he).2.1
set_option maxRecDepth 100000 in
set_option maxHeartbeats 4000000 in
theorem m12_isAbout {X : gX} {h : gH} {z m c pl q n dp : Nat} {f : Nat → Int32} {R : rEn} {s : PSt} (t : Nat) (o : Bool) (hq : m + 25 ≤ q) (hT : RcT n f R) (hs : PsOk n f (s.1 + 1, s.2)) (hR : RcS X h m c pl q n f R s dp true) : gM X yX12_isAbout cX12_isAbout 5 (some .boolean) (2, 0, 0) [.ref m, .ref q, .int (nI (rc t)), .int (b2i o)] h z (fun r h' z' => r = some (.int (b2i ((if o = true then pSq (pTk (tkk n f) 17) (pAb (tkk n f) t) else pAb (tkk n f) t) (s.1 + 1, s.2)).1)) ∧ z' = z ∧ RcS X h' m c pl q n f R ((if o = true then pSq (pTk (tkk n f) 17) (pAb (tkk n f) t) else pAb (tkk n f) t) (s.1 + 1, s.2)).2 dp ((if o = true then pSq (pTk (tkk n f) 17) (pAb (tkk n f) t) else pAb (tkk n f) t) (s.1 + 1, s.2)).1 ∧ OffR h h' m q) gNoX := by
  have hl := tkl_spec n f
  have hs1 := hs.1
  obtain ⟨I, A, J, B, hM, hP, e1, e2, e3, e4, e5, e6⟩ := hR
  refine gM.of px12 (Nat.le_of_ble_eq_true rfl) ?_
  intro F hE
  have fin : ∀ (h1 : gH) (s2 : PSt), PsOk n f s2 → RcS X h1 m c pl q n f R s2 dp true → OffR h h1 m q → (if o = true then pSq (pTk (tkk n f) 17) (pAb (tkk n f) t) else pAb (tkk n f) t) (s.1 + 1, s.2) = pAb (tkk n f) t s2 → G X F cX12_isAbout 5 yX12_isAbout.cls (2, 0, 0) 0 0 25 [some (.ref m), some (.ref q), some (.int (nI (rc t))), some (.int (b2i o)), none] [] h1 z := by
    intro h1 s2 hs2 hR2 hO1 hF
    rw [hF] at hE
    have hs21 := hs2.1
    have hs22 := hs2.2.1
    obtain ⟨I2, A2, J2, B2, hM2, hP2, f1, f2, f3, f4, f5, f6⟩ := id hR2
    refine g_aload_n dX12_isAbout_25 rfl ?_
    refine g_getf fl12_265 hM2.1 rfl dX12_isAbout_26 ?_
    rw [f5]
    refine g_istore dX12_isAbout_29 (by decide) rfl ?_
    refine g_aload_n dX12_isAbout_31 rfl ?_
    refine g_bipush (nI 30) dX12_isAbout_32 (by decide) ?_
    refine g_iconst (nI 5) dX12_isAbout_34 (by decide) ?_
    refine g_callV0 kX12_277 (m12_eatAs 5 hq hT hs2.1 hs2.vlt hR2) hM2.1 rfl rfl rfl (Nat.le_of_ble_eq_true rfl) (by decide) (by decide) (by decide) (by decide) dX12_isAbout_35 ?_
    rintro v1 h3 z1 ⟨rfl, rfl, hR3, hO3⟩
    refine g_if_neB 43 dX12_isAbout_38 (by decide) (fun c_38 => ?_) (fun c_38 => ?_)
    · refine g_aload_n dX12_isAbout_43 rfl ?_
      refine g_aload_n dX12_isAbout_44 rfl ?_
      refine g_iload_n dX12_isAbout_45 rfl ?_
      refine g_iload dX12_isAbout_46 rfl ?_
      rw [c_38] at hR3
      have hk2 : tkk n f s2.1 = 2 := pNm_1 c_38
      rw [pNm_y hk2] at hR3
      have hlt := tk_lt (n := n) (f := f) (by omega) hs2.1
      obtain ⟨fs3, hg3⟩ := hR3.at
      refine g_callV0 kX12_280 (m12_put t s2.1 hq (by show s2.2.1.length < 400; omega) hR3) hg3 rfl rfl rfl (Nat.le_of_ble_eq_true rfl) (by decide) (by decide) (by decide) (by decide) dX12_isAbout_48 ?_
      rintro v1 h4 z1 ⟨rfl, rfl, hR4, hO4⟩
      have hF2 : pAb (tkk n f) t s2 = (true, (pPt t s2.1 (s2.1 + 1, s2.2.1, s2.2.2 ++ [(5, s2.1)])).2) := by unfold pAb; rw [pSq_t (pNm_y hk2)]; rfl
      rw [hF2] at hE
      refine g_iconst (nI 1) dX12_isAbout_51 (by decide) ?_
      exact g_iret hE rfl (⟨rfl, rfl, hR4, (hO1.trans hO3).trans hO4⟩) dX12_isAbout_52
    · have hF2 : pAb (tkk n f) t s2 = (false, (pNm (tkk n f) 5 s2).2) := by unfold pAb; rw [pSq_n c_38]
      rw [hF2] at hE
      rw [c_38] at hR3
      refine g_iconst (nI 0) dX12_isAbout_41 (by decide) ?_
      exact g_iret hE rfl (⟨rfl, rfl, hR3, hO1.trans hO3⟩) dX12_isAbout_42
  refine g_aload_n dX12_isAbout_0 rfl ?_
  refine g_dup dX12_isAbout_1 rfl ?_
  refine g_getf fl12_265 hM.1 rfl dX12_isAbout_2 ?_
  rw [e5]
  refine g_iconst (nI 1) dX12_isAbout_5 (by decide) ?_
  first | refine g_iaddN dX12_isAbout_6 ?_ | refine g_iadd dX12_isAbout_6 ?_
  refine md_put3 fl12_265 hM OffM.rf dX12_isAbout_7 (fun h2 hM2 hO2 => ?_)
  have hR2 := RcS.t1 hq hM2 hO2 hP e1 e2 e3 e4 (e6 rfl)
  refine g_iload_n dX12_isAbout_10 rfl ?_
  refine g_if_eqB 25 dX12_isAbout_11 (by decide) (fun c_11 => ?_) (fun c_11 => ?_)
  · subst c_11
    exact fin h2 _ hs hR2 hO2.toR (by rw [if_neg (by decide)])
  · refine g_aload_n dX12_isAbout_14 rfl ?_
    refine g_bipush (nI 12) dX12_isAbout_15 (by decide) ?_
    have hs' := hs.1
    refine g_callV0 kX12_268 (m12_eat (s := (s.1 + 1, s.2)) 17 (by decide) hq hT hs.1 hR2) hM2.1 rfl rfl rfl (Nat.le_of_ble_eq_true rfl) (by decide) (by decide) (by decide) (by decide) dX12_isAbout_17 ?_
    rintro v1 h3 z1 ⟨rfl, rfl, hR3, hO3⟩
    refine g_if_neB 25 dX12_isAbout_20 (by decide) (fun c_20 => ?_) (fun c_20 => ?_)
    · subst c_11
      have hk := pTk_1 c_20
      rw [pTk_y hk] at hR3
      have hs3 := hs.step (Ps.tk hl.2.1 (c := 17) (by decide)) (by decide) (by decide)
      rw [pTk_y hk] at hs3
      exact fin h3 _ hs3 hR3 (hO2.toR.trans hO3) (by rw [if_pos rfl, pSq_t (pTk_y hk)])
    · refine g_iconst (nI 0) dX12_isAbout_23 (by decide) ?_
      exact g_iret hE rfl (⟨by subst c_11; rw [if_pos rfl, pSq_n c_20]; rfl, rfl, by subst c_11; rw [if_pos rfl, pSq_n c_20]; exact hR3.f, hO2.toR.trans hO3⟩) dX12_isAbout_24
