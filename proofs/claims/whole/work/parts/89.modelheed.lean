/-! the reference: one piece of news is heeded -/
theorem cut_uniq {K : Nat → Nat} {a b : Nat} {V P P1 S S1 : List (Nat × Nat)} {x y : Nat × Nat} (h : VS K a b V) (e1 : V = P1 ++ x :: S1) (e2 : V = P ++ y :: S) (hxy : x.2 = y.2) : P1 = P := by
  have hp := h.1
  have ee : P1 ++ x :: S1 = P ++ y :: S := e1.symm.trans e2
  rcases List.append_eq_append_iff.mp ee with ⟨W, h1, h2⟩ | ⟨W, h1, h2⟩
  · cases W with
    | nil => rw [h1, List.append_nil]
    | cons w W =>
      rw [List.cons_append] at h2
      injection h2 with h3 h4
      rw [e1, List.pairwise_append, List.pairwise_cons] at hp
      have := hp.2.1.1 y (by rw [h4]; simp)
      omega
  · cases W with
    | nil => rw [h1, List.append_nil]
    | cons w W =>
      rw [List.cons_append] at h2
      injection h2 with h3 h4
      rw [e2, List.pairwise_append, List.pairwise_cons] at hp
      have := hp.2.1.1 x (by rw [h4]; simp)
      omega
theorem fnd_up {n : Nat} {f : Nat → Int32} {P : List (Nat × Nat)} {e e' : Nat × Nat} (h : (seF n f (P ++ [e])).2.2.1 = 0) (he : e' ∈ P) (h45 : e'.1 = 4 ∨ e'.1 = 5) : fnd (seF n f (P ++ [e])).1 (tkn n f e'.2) = fnd (seF n f P).1 (tkn n f e'.2) := by
  obtain ⟨h1, h2⟩ := seF_mono h
  obtain ⟨-, -, -, h6⟩ := seF_fine P ([], 0, 0, 0) h1
  obtain ⟨i, hi⟩ := Option.isSome_iff_exists.mp ((h6 _ he).2 h45)
  have hi2 : fnd (seF n f P).1 (tkn n f e'.2) = some i := hi
  rw [hi2, h2 _ i hi2]
set_option maxRecDepth 100000 in
set_option maxHeartbeats 4000000 in
theorem m12_errorOf_1 {X : gX} {h : gH} {z m c pl q n k : Nat} {f : Nat → Int32} {I : Nat → Int32} {A0 : Nat → Nat → Int32} {V : Nat → Int64} {J2 : Int32} {B0 : Nat → Nat → Int32} {s : PLt} {P S : List (Nat × Nat)} (hq : m + 25 ≤ q) (hK : EvK n f A0 V s) (hV : s.1.2.2 = P ++ (1, k) :: S) (h0 : (seF n f P).2.2.1 = 0) (hE : EvS X h m c pl q n f I A0 V J2 B0 s.2 P) : gM X yX12_errorOf cX12_errorOf 4 (some .int) (2, 0, 0) [.ref m, .ref q, .int (nI k)] h z (fun r h' z' => r = some (.int (nI (se1 n f 1 k (seF n f P).1 (seF n f P).2.1).1)) ∧ z' = z ∧ (∃ A', MdB X h' m c pl I A' V ∧ ∀ k, k ≠ 4 → A' k = A0 k) ∧ ((se1 n f 1 k (seF n f P).1 (seF n f P).2.1).1 = 0 → EvS X h' m c pl q n f I A0 V J2 B0 s.2 (P ++ [(1, k)])) ∧ OffR h h' m q) gNoX := by
  obtain ⟨hB, hN, hmn, hvl⟩ := hK
  obtain ⟨hl4, hl1, -⟩ := tkl_spec n f
  have hvs := hB.1.2.2.1
  have hkv := hvs.2 (1, k) (by rw [hV]; simp)
  have hst := hB.1.1
  have hk2 : k < s.1.1 := hkv.2.1
  have hkl : k ≤ tkl n f := by omega
  have hmk := hmn k hkl
  rw [mnV_at hvs hV] at hmk
  have hPV : ∀ e, e ∈ P → e.1 = 2 ∨ tkk n f e.2 = 2 := fun e he => (hvs.2 e (by rw [hV]; exact List.mem_append_left _ he)).2.2.1
  obtain ⟨hok, hno⟩ := seF_Ws hPV
  have hcn := seF_cnt h0
  have hl8 := hok.1
  obtain ⟨A, J, B, U, W, hM, hP, a1, a2, a3, a4, a5, a6, a7, a8⟩ := hE
  rw [← a1 3 (by decide)] at hmk
  have hU := fun i hi => (a5 i hi).1
  have hk : tkk n f k = 2 := hkv.2.2.1.resolve_left (show ¬ 1 = 2 by decide)
  have hvk := hvl k hkl hk
  obtain ⟨hw1, hw2⟩ := tkn_ok hk
  have hse := seF_er (e := (1, k)) h0
  have hap := seF_app n f P (1, k)
  refine gM.of px12 (Nat.le_of_ble_eq_true rfl) ?_
  intro F hE
  refine g_aload_n dX12_errorOf_0 rfl ?_
  refine g_getf fl12_30 hM.1 rfl dX12_errorOf_1 ?_
  refine g_iload_n dX12_errorOf_4 rfl ?_
  refine g_ialdN (hM.2.1 3 (by decide)) (by show k < 401; omega) (by decide) dX12_errorOf_5 ?_
  rw [hmk]
  refine g_switch (34) 40 dX12_errorOf_6 (by decide) (by decide) (by decide) (by decide) ?_
  refine g_aload_n dX12_errorOf_40 rfl ?_
  refine g_aload_n dX12_errorOf_41 rfl ?_
  refine g_aload_n dX12_errorOf_42 rfl ?_
  refine g_getf fl12_33 hM.1 rfl dX12_errorOf_43 ?_
  refine g_iload_n dX12_errorOf_46 rfl ?_
  refine g_laldN (hM.2.2) (by omega) (by decide) dX12_errorOf_47 ?_
  rw [hvk]
  refine g_callV0 kX12_342 (m12_newInsult _ _ hok hw2 hw1.2 hM.1 hP a2 hU) hM.1 rfl rfl rfl (Nat.le_of_ble_eq_true rfl) (by decide) (by decide) (Nat.zero_le _) (Nat.zero_le _) dX12_errorOf_48 ?_
  rintro v1 h2 z1 ⟨rfl, rfl, hn1, hn2, hO2⟩
  have hM2 : MdB X h2 m c pl I A V := hM.offq hO2 hq
  have hs1 : (se1 n f 1 k (seF n f P).1 (seF n f P).2.1) = (if (fnd (seF n f P).1 (tkn n f k)).isSome = true then (2, (seF n f P).1, (seF n f P).2.1) else if 8 ≤ (seF n f P).1.length then (4, (seF n f P).1, (seF n f P).2.1) else if hsD (tkn n f k) = true then (5, (seF n f P).1, (seF n f P).2.1) else (0, (seF n f P).1 ++ [tkn n f k], (seF n f P).2.1)) := if_pos rfl
  have hs2 : (se1 n f 1 k (seF n f P).1 (seF n f P).2.1).1 = erI (seF n f P).1 (tkn n f k) := by
    rw [hs1]; unfold erI; repeat' split
    all_goals rfl
  refine g_iret hE rfl ⟨by rw [hs2], rfl, ⟨A, hM2, a1⟩, fun w => ?_, hO2.toR (by omega)⟩ dX12_errorOf_51
  have hz : erI (seF n f P).1 (tkn n f k) = 0 := by rw [← hs2]; exact w
  obtain ⟨J', B', U', b1, b2, b3, b4, b5, b6, b7⟩ := hn2 hz
  have hs3 : se1 n f 1 k (seF n f P).1 (seF n f P).2.1 = (0, (seF n f P).1 ++ [tkn n f k], (seF n f P).2.1) := by
    rw [hs1]; unfold erI at hz
    split at hz
    · cases hz
    · rename_i g1
      rw [if_neg g1]
      split at hz
      · cases hz
      · rename_i g2
        rw [if_neg g2]
        split at hz
        · cases hz
        · rename_i g3
          rw [if_neg g3]
  have e1 : (seF n f (P ++ [(1, k)])).1 = (seF n f P).1 ++ [tkn n f k] := by rw [hap]; show (se1 n f 1 k _ _).2.1 = _; rw [hs3]
  have e2 : (seF n f (P ++ [(1, k)])).2.1 = (seF n f P).2.1 := by rw [hap]; show (se1 n f 1 k _ _).2.2 = _; rw [hs3]
  have e3 : (seF n f (P ++ [(1, k)])).2.2.1 = 0 := by rw [hse]; show (se1 n f 1 k _ _).1 = 0; rw [hs3]
  have up := fun e' he h45 => fnd_up (n := n) (f := f) (e := (1, k)) (e' := e') e3 he h45
  refine ⟨A, J', B', U', W, hM2, b1, a1, by rw [e1, List.length_append]; exact b2, by rw [e2, b3 1 (by decide)]; exact a3, by rw [b3 2 (by decide)]; exact a4, fun i hi => ?_, fun k hk => by rw [b7 k (by omega)]; exact a6 k hk, fun e he h45 => ?_, fun i o ho => ⟨fun q6 hm => (a8 i o ho).1 q6 ?_, fun q7 hm => ?_⟩⟩
  · rw [e1] at hi ⊢
    rw [List.length_append] at hi
    have hi2 : i < (seF n f P).1.length + 1 := hi
    refine ⟨b4 i hi2, ?_⟩
    by_cases g : i < (seF n f P).1.length
    · rw [show ((seF n f P).1 ++ [tkn n f k]).getD i [] = (seF n f P).1.getD i [] from by rw [List.getD_eq_getElem?_getD, List.getD_eq_getElem?_getD, List.getElem?_append_left g]]
      obtain ⟨c1, c2, c3, c4⟩ := (a5 i g).2
      obtain ⟨d1, d2⟩ := b6 i g
      exact ⟨c1, c2, by rw [d1]; exact c3, fun k hk => by rw [d2 k (by omega)]; exact c4 k hk⟩
    · have hie : i = (seF n f P).1.length := by omega
      rw [show ((seF n f P).1 ++ [tkn n f k]).getD i [] = tkn n f k from by rw [hie, List.getD_eq_getElem?_getD, List.getElem?_append_right (Nat.le_refl _), Nat.sub_self]; rfl, hie]
      exact b5
  · rcases List.mem_append.mp he with g | g
    · rw [up e g h45]; exact a7 e g h45
    · rw [List.mem_singleton.mp g] at h45; rcases h45 with h45 | h45 <;> cases h45
  · rcases List.mem_append.mp hm with g | g
    · exact g
    · cases List.mem_singleton.mp g
  · rcases List.mem_append.mp hm with g | g
    · rw [b7 3 (by decide), up (4, o.2.1) g (Or.inl rfl)]; exact (a8 i o ho).2 q7 g
    · cases List.mem_singleton.mp g
set_option maxRecDepth 100000 in
set_option maxHeartbeats 4000000 in
theorem m12_newOrder {X : gX} {h : gH} {z m q : Nat} {J : Nat → Int32} {B : Nat → Nat → Int32} {U W : Nat → Int64} (no : Nat) (hno : no ≤ 16) (hP : MpB X h q J B U W) (hJ : J 1 = nI no) : gM X yX12_newOrder cX12_newOrder 2 (some .int) (0, 0, 0) [.ref m, .ref q] h z (fun r h' z' => r = some (.int (nI (if 16 ≤ no then 4 else 0))) ∧ z' = z ∧ (no < 16 → MpB X h' q (upd J 1 (nI (no + 1))) B U W) ∧ OffB h h' q 12) gNoX := by
  refine gM.of px12 (Nat.le_of_ble_eq_true rfl) ?_
  intro F hE
  refine g_aload_n dX12_newOrder_0 rfl ?_
  refine g_getfN fl12_185 hP.1 rfl dX12_newOrder_1 ?_
  rw [hJ]
  refine g_bipush (nI 16) dX12_newOrder_4 (by decide) ?_
  refine g_icmp_neN 11 dX12_newOrder_6 (by decide) (by omega) (by omega) (fun c_6 => ?_) (fun c_6 => ?_)
  · refine g_aload_n dX12_newOrder_11 rfl ?_
    refine g_dup dX12_newOrder_12 rfl ?_
    refine g_getfN fl12_185 hP.1 rfl dX12_newOrder_13 ?_
    rw [hJ]
    refine g_iconst (nI 1) dX12_newOrder_16 (by decide) ?_
    first | refine g_iaddN dX12_newOrder_17 ?_ | refine g_iadd dX12_newOrder_17 ?_
    refine g_putfN fl12_185 hP.1 rfl rfl rfl (Nat.le_of_ble_eq_true rfl) dX12_newOrder_18 ?_
    refine g_iconst (nI 0) dX12_newOrder_21 (by decide) ?_
    exact g_iret hE rfl (⟨by rw [if_neg (by omega)], rfl, fun _ => hP.put (J' := upd J 1 (nI (no + 1))), OffB.rf.put (by omega) (by omega)⟩) dX12_newOrder_22
  · refine g_iconst (nI 4) dX12_newOrder_9 (by decide) ?_
    exact g_iret hE rfl (⟨by rw [if_pos (by omega)], rfl, fun w => absurd w (by omega), OffB.rf⟩) dX12_newOrder_10
set_option maxRecDepth 100000 in
set_option maxHeartbeats 4000000 in
theorem m12_errorOf_2 {X : gX} {h : gH} {z m c pl q n k : Nat} {f : Nat → Int32} {I : Nat → Int32} {A0 : Nat → Nat → Int32} {V : Nat → Int64} {J2 : Int32} {B0 : Nat → Nat → Int32} {s : PLt} {P S : List (Nat × Nat)} (hq : m + 25 ≤ q) (hK : EvK n f A0 V s) (hV : s.1.2.2 = P ++ (2, k) :: S) (h0 : (seF n f P).2.2.1 = 0) (hE : EvS X h m c pl q n f I A0 V J2 B0 s.2 P) : gM X yX12_errorOf cX12_errorOf 4 (some .int) (2, 0, 0) [.ref m, .ref q, .int (nI k)] h z (fun r h' z' => r = some (.int (nI (se1 n f 2 k (seF n f P).1 (seF n f P).2.1).1)) ∧ z' = z ∧ (∃ A', MdB X h' m c pl I A' V ∧ ∀ k, k ≠ 4 → A' k = A0 k) ∧ ((se1 n f 2 k (seF n f P).1 (seF n f P).2.1).1 = 0 → EvS X h' m c pl q n f I A0 V J2 B0 s.2 (P ++ [(2, k)])) ∧ OffR h h' m q) gNoX := by
  obtain ⟨hB, hN, hmn, hvl⟩ := hK
  obtain ⟨hl4, hl1, -⟩ := tkl_spec n f
  have hvs := hB.1.2.2.1
  have hkv := hvs.2 (2, k) (by rw [hV]; simp)
  have hst := hB.1.1
  have hk2 : k < s.1.1 := hkv.2.1
  have hkl : k ≤ tkl n f := by omega
  have hmk := hmn k hkl
  rw [mnV_at hvs hV] at hmk
  have hPV : ∀ e, e ∈ P → e.1 = 2 ∨ tkk n f e.2 = 2 := fun e he => (hvs.2 e (by rw [hV]; exact List.mem_append_left _ he)).2.2.1
  obtain ⟨hok, hno⟩ := seF_Ws hPV
  have hcn := seF_cnt h0
  have hl8 := hok.1
  obtain ⟨A, J, B, U, W, hM, hP, a1, a2, a3, a4, a5, a6, a7, a8⟩ := hE
  rw [← a1 3 (by decide)] at hmk
  have hU := fun i hi => (a5 i hi).1
  have hse := seF_er (e := (2, k)) h0
  have hap := seF_app n f P (2, k)
  refine gM.of px12 (Nat.le_of_ble_eq_true rfl) ?_
  intro F hE
  refine g_aload_n dX12_errorOf_0 rfl ?_
  refine g_getf fl12_30 hM.1 rfl dX12_errorOf_1 ?_
  refine g_iload_n dX12_errorOf_4 rfl ?_
  refine g_ialdN (hM.2.1 3 (by decide)) (by show k < 401; omega) (by decide) dX12_errorOf_5 ?_
  rw [hmk]
  refine g_switch (46) 52 dX12_errorOf_6 (by decide) (by decide) (by decide) (by decide) ?_
  refine g_aload_n dX12_errorOf_52 rfl ?_
  refine g_aload_n dX12_errorOf_53 rfl ?_
  refine g_callV0 kX12_345 (m12_newOrder _ hno hP a3) hM.1 rfl rfl rfl (Nat.le_of_ble_eq_true rfl) (by decide) (by decide) (Nat.zero_le _) (Nat.zero_le _) dX12_errorOf_54 ?_
  rintro v1 h2 z1 ⟨rfl, rfl, hn1, hO2⟩
  have hM2 : MdB X h2 m c pl I A V := hM.offq hO2 hq
  have hs1 : se1 n f 2 k (seF n f P).1 (seF n f P).2.1 = (if 16 ≤ (seF n f P).2.1 then (4, (seF n f P).1, (seF n f P).2.1) else (0, (seF n f P).1, (seF n f P).2.1 + 1)) := rfl
  refine g_iret hE rfl ⟨by rw [hs1]; split <;> rfl, rfl, ⟨A, hM2, a1⟩, fun w => ?_, hO2.toR (by omega)⟩ dX12_errorOf_57
  have h16 : ¬ 16 ≤ (seF n f P).2.1 := fun g => by rw [hs1, if_pos g] at w; cases w
  rw [if_neg h16] at hs1
  have e1 : (seF n f (P ++ [(2, k)])).1 = (seF n f P).1 := by rw [hap]; show (se1 n f 2 k _ _).2.1 = _; rw [hs1]
  have e2 : (seF n f (P ++ [(2, k)])).2.1 = (seF n f P).2.1 + 1 := by rw [hap]; show (se1 n f 2 k _ _).2.2 = _; rw [hs1]
  refine ⟨A, _, B, U, W, hM2, hn1 (by omega), a1, by rw [e1, upd_ne (by decide)]; exact a2, by rw [e2, upd_same], by rw [upd_ne (by decide)]; exact a4, fun i hi => by rw [e1] at hi ⊢; exact a5 i hi, a6, fun e he h45 => ?_, fun i o ho => ⟨fun q6 hm => (a8 i o ho).1 q6 ?_, fun q7 hm => ?_⟩⟩
  · rw [e1]
    rcases List.mem_append.mp he with g | g
    · exact a7 e g h45
    · rw [List.mem_singleton.mp g] at h45; rcases h45 with h45 | h45 <;> cases h45
  · rcases List.mem_append.mp hm with g | g
    · exact g
    · cases List.mem_singleton.mp g
  · rw [e1]
    rcases List.mem_append.mp hm with g | g
    · exact (a8 i o ho).2 q7 g
    · cases List.mem_singleton.mp g
set_option maxRecDepth 100000 in
set_option maxHeartbeats 4000000 in
theorem m12_errorOf_3 {X : gX} {h : gH} {z m c pl q n k : Nat} {f : Nat → Int32} {I : Nat → Int32} {A0 : Nat → Nat → Int32} {V : Nat → Int64} {J2 : Int32} {B0 : Nat → Nat → Int32} {s : PLt} {P S : List (Nat × Nat)} (hq : m + 25 ≤ q) (hK : EvK n f A0 V s) (hV : s.1.2.2 = P ++ (3, k) :: S) (h0 : (seF n f P).2.2.1 = 0) (hE : EvS X h m c pl q n f I A0 V J2 B0 s.2 P) : gM X yX12_errorOf cX12_errorOf 4 (some .int) (2, 0, 0) [.ref m, .ref q, .int (nI k)] h z (fun r h' z' => r = some (.int (nI (se1 n f 3 k (seF n f P).1 (seF n f P).2.1).1)) ∧ z' = z ∧ (∃ A', MdB X h' m c pl I A' V ∧ ∀ k, k ≠ 4 → A' k = A0 k) ∧ ((se1 n f 3 k (seF n f P).1 (seF n f P).2.1).1 = 0 → EvS X h' m c pl q n f I A0 V J2 B0 s.2 (P ++ [(3, k)])) ∧ OffR h h' m q) gNoX := by
  obtain ⟨hB, hN, hmn, hvl⟩ := hK
  obtain ⟨hl4, hl1, -⟩ := tkl_spec n f
  have hvs := hB.1.2.2.1
  have hkv := hvs.2 (3, k) (by rw [hV]; simp)
  have hst := hB.1.1
  have hk2 : k < s.1.1 := hkv.2.1
  have hkl : k ≤ tkl n f := by omega
  have hmk := hmn k hkl
  rw [mnV_at hvs hV] at hmk
  have hPV : ∀ e, e ∈ P → e.1 = 2 ∨ tkk n f e.2 = 2 := fun e he => (hvs.2 e (by rw [hV]; exact List.mem_append_left _ he)).2.2.1
  obtain ⟨hok, hno⟩ := seF_Ws hPV
  have hcn := seF_cnt h0
  have hl8 := hok.1
  obtain ⟨A, J, B, U, W, hM, hP, a1, a2, a3, a4, a5, a6, a7, a8⟩ := hE
  rw [← a1 3 (by decide)] at hmk
  have hU := fun i hi => (a5 i hi).1
  have hk : tkk n f k = 2 := hkv.2.2.1.resolve_left (show ¬ 3 = 2 by decide)
  have hvk := hvl k hkl hk
  obtain ⟨hw1, hw2⟩ := tkn_ok hk
  have hse := seF_er (e := (3, k)) h0
  have hap := seF_app n f P (3, k)
  refine gM.of px12 (Nat.le_of_ble_eq_true rfl) ?_
  intro F hE
  obtain ⟨j, oj, j1, j2, j3, j4⟩ := (hN.2 P (3, k) S hV).1 rfl
  have j16 : j < 16 := by omega
  have hJ1 : J 1 = nI (j + 1) := by rw [a3, hcn, j1]
  have hPa := hP.astW (j := j) (x := lN (nm (tkn n f k)))
  have oo : ∀ e, OffB h (gset h (q + 6) e) q 12 := fun e => OffB.rf.put (by omega) (by omega)
  refine g_aload_n dX12_errorOf_0 rfl ?_
  refine g_getf fl12_30 hM.1 rfl dX12_errorOf_1 ?_
  refine g_iload_n dX12_errorOf_4 rfl ?_
  refine g_ialdN (hM.2.1 3 (by decide)) (by show k < 401; omega) (by decide) dX12_errorOf_5 ?_
  rw [hmk]
  refine g_switch (52) 58 dX12_errorOf_6 (by decide) (by decide) (by decide) (by decide) ?_
  refine g_aload_n dX12_errorOf_58 rfl ?_
  refine g_getfN fl12_154 hP.1 rfl dX12_errorOf_59 ?_
  refine g_aload_n dX12_errorOf_62 rfl ?_
  refine g_getfN fl12_185 hP.1 rfl dX12_errorOf_63 ?_
  rw [hJ1]
  refine g_iconst (nI 1) dX12_errorOf_66 (by decide) ?_
  refine g_isubN dX12_errorOf_67 (by omega) ?_
  refine g_aload_n dX12_errorOf_68 rfl ?_
  refine g_getf fl12_33 hM.1 rfl dX12_errorOf_69 ?_
  refine g_iload_n dX12_errorOf_72 rfl ?_
  refine g_laldN (hM.2.2) (by omega) (by decide) dX12_errorOf_73 ?_
  rw [hvk]
  refine g_lastN hP.2.2.2 (by omega) (by decide) dX12_errorOf_74 ?_
  refine g_aload_n dX12_errorOf_75 rfl ?_
  refine g_getf fl12_33 (hM.offq (oo _) hq).1 rfl dX12_errorOf_76 ?_
  refine g_iload_n dX12_errorOf_79 rfl ?_
  refine g_laldN ((hM.offq (oo _) hq).2.2) (by omega) (by decide) dX12_errorOf_80 ?_
  rw [hvk]
  refine g_callS0 kX12_338 (m12_hasDigit (tkn n f k) hw2 hw1.2) rfl rfl (Nat.le_of_ble_eq_true rfl) (by decide) (by decide) (by decide) (by decide) dX12_errorOf_81 ?_
  rintro v1 h2 z1 ⟨rfl, rfl, rfl⟩
  refine g_if_eqB 91 dX12_errorOf_84 (by decide) (fun c_84 => ?_) (fun c_84 => ?_)
  · refine g_iconst (nI 0) dX12_errorOf_91 (by decide) ?_
    have hs1 : se1 n f 3 k (seF n f P).1 (seF n f P).2.1 = (if hsD (tkn n f k) = true then (5, (seF n f P).1, (seF n f P).2.1) else (0, (seF n f P).1, (seF n f P).2.1)) := rfl
    rw [if_neg (by rw [c_84]; decide)] at hs1
    refine g_iret hE rfl ⟨by rw [hs1], rfl, ⟨A, hM.offq (oo _) hq, a1⟩, fun w => ?_, (oo _).toR (by omega)⟩ dX12_errorOf_92
    have e1 : (seF n f (P ++ [(3, k)])).1 = (seF n f P).1 := by rw [hap]; show (se1 n f 3 k _ _).2.1 = _; rw [hs1]
    have e2 : (seF n f (P ++ [(3, k)])).2.1 = (seF n f P).2.1 := by rw [hap]; show (se1 n f 3 k _ _).2.2 = _; rw [hs1]
    refine ⟨A, J, B, U, _, hM.offq (oo _) hq, hPa, a1, by rw [e1]; exact a2, by rw [e2]; exact a3, a4, fun i hi => by rw [e1] at hi ⊢; exact a5 i hi, a6, fun e he h45 => ?_, fun i o ho => ⟨fun q6 hm => ?_, fun q7 hm => ?_⟩⟩
    · rw [e1]
      rcases List.mem_append.mp he with g | g
      · exact a7 e g h45
      · rw [List.mem_singleton.mp g] at h45; rcases h45 with h45 | h45 <;> cases h45
    · by_cases g : i = j
      · subst g
        rw [j2] at ho
        cases ho
        rw [j4]
        exact if_pos rfl
      · rw [show vp_updL W j (lN (nm (tkn n f k))) i = W i from if_neg g]
        rcases List.mem_append.mp hm with g2 | g2
        · exact (a8 i o ho).1 q6 g2
        · have ek : o.2.1 = k := congrArg Prod.snd (List.mem_singleton.mp g2)
          obtain ⟨P1, S1, p1, p2⟩ := (hN.1 i o ho).1 q6
          have := cut_uniq hvs p1 hV ek
          rw [this] at p2
          omega
    · rw [e1]
      rcases List.mem_append.mp hm with g | g
      · exact (a8 i o ho).2 q7 g
      · cases List.mem_singleton.mp g
  · refine g_iconst (nI 5) dX12_errorOf_87 (by decide) ?_
    refine g_goto 92 dX12_errorOf_88 (by decide) ?_
    have hs1 : se1 n f 3 k (seF n f P).1 (seF n f P).2.1 = (if hsD (tkn n f k) = true then (5, (seF n f P).1, (seF n f P).2.1) else (0, (seF n f P).1, (seF n f P).2.1)) := rfl
    rw [if_pos c_84] at hs1
    exact g_iret hE rfl ⟨by rw [hs1], rfl, ⟨A, hM.offq (oo _) hq, a1⟩, (fun w => by rw [hs1] at w; cases w), (oo _).toR (by omega)⟩ dX12_errorOf_92
set_option maxRecDepth 100000 in
set_option maxHeartbeats 4000000 in
theorem m12_errorOf_5 {X : gX} {h : gH} {z m c pl q n k : Nat} {f : Nat → Int32} {I : Nat → Int32} {A0 : Nat → Nat → Int32} {V : Nat → Int64} {J2 : Int32} {B0 : Nat → Nat → Int32} {s : PLt} {P S : List (Nat × Nat)} (hq : m + 25 ≤ q) (hK : EvK n f A0 V s) (hV : s.1.2.2 = P ++ (5, k) :: S) (h0 : (seF n f P).2.2.1 = 0) (hE : EvS X h m c pl q n f I A0 V J2 B0 s.2 P) : gM X yX12_errorOf cX12_errorOf 4 (some .int) (2, 0, 0) [.ref m, .ref q, .int (nI k)] h z (fun r h' z' => r = some (.int (nI (se1 n f 5 k (seF n f P).1 (seF n f P).2.1).1)) ∧ z' = z ∧ (∃ A', MdB X h' m c pl I A' V ∧ ∀ k, k ≠ 4 → A' k = A0 k) ∧ ((se1 n f 5 k (seF n f P).1 (seF n f P).2.1).1 = 0 → EvS X h' m c pl q n f I A0 V J2 B0 s.2 (P ++ [(5, k)])) ∧ OffR h h' m q) gNoX := by
  obtain ⟨hB, hN, hmn, hvl⟩ := hK
  obtain ⟨hl4, hl1, -⟩ := tkl_spec n f
  have hvs := hB.1.2.2.1
  have hkv := hvs.2 (5, k) (by rw [hV]; simp)
  have hst := hB.1.1
  have hk2 : k < s.1.1 := hkv.2.1
  have hkl : k ≤ tkl n f := by omega
  have hmk := hmn k hkl
  rw [mnV_at hvs hV] at hmk
  have hPV : ∀ e, e ∈ P → e.1 = 2 ∨ tkk n f e.2 = 2 := fun e he => (hvs.2 e (by rw [hV]; exact List.mem_append_left _ he)).2.2.1
  obtain ⟨hok, hno⟩ := seF_Ws hPV
  have hcn := seF_cnt h0
  have hl8 := hok.1
  obtain ⟨A, J, B, U, W, hM, hP, a1, a2, a3, a4, a5, a6, a7, a8⟩ := hE
  rw [← a1 3 (by decide)] at hmk
  have hU := fun i hi => (a5 i hi).1
  have hk : tkk n f k = 2 := hkv.2.2.1.resolve_left (show ¬ 5 = 2 by decide)
  have hvk := hvl k hkl hk
  obtain ⟨hw1, hw2⟩ := tkn_ok hk
  have hse := seF_er (e := (5, k)) h0
  have hap := seF_app n f P (5, k)
  refine gM.of px12 (Nat.le_of_ble_eq_true rfl) ?_
  intro F hE
  refine g_aload_n dX12_errorOf_0 rfl ?_
  refine g_getf fl12_30 hM.1 rfl dX12_errorOf_1 ?_
  refine g_iload_n dX12_errorOf_4 rfl ?_
  refine g_ialdN (hM.2.1 3 (by decide)) (by show k < 401; omega) (by decide) dX12_errorOf_5 ?_
  rw [hmk]
  refine g_switch (113) 119 dX12_errorOf_6 (by decide) (by decide) (by decide) (by decide) ?_
  refine g_aload_n dX12_errorOf_119 rfl ?_
  refine g_aload_n dX12_errorOf_120 rfl ?_
  refine g_iload_n dX12_errorOf_121 rfl ?_
  refine g_callV0 kX12_349 (m12_anInsult k _ _ (by omega) hq hok hw2 hw1.2 hM hvk hP a2 hU) hM.1 rfl rfl rfl (Nat.le_of_ble_eq_true rfl) (by decide) (by decide) (Nat.zero_le _) (Nat.zero_le _) dX12_errorOf_122 ?_
  rintro v1 h2 z1 ⟨rfl, rfl, hM2, hO2⟩
  have hs1 : se1 n f 5 k (seF n f P).1 (seF n f P).2.1 = (if (fnd (seF n f P).1 (tkn n f k)).isSome = true then (0, (seF n f P).1, (seF n f P).2.1) else (3, (seF n f P).1, (seF n f P).2.1)) := rfl
  have hs2 : (se1 n f 5 k (seF n f P).1 (seF n f P).2.1).1 = (if (fnd (seF n f P).1 (tkn n f k)).isSome = true then 0 else 3) := by rw [hs1]; split <;> rfl
  refine g_iret hE rfl ⟨by rw [hs2], rfl, ⟨_, hM2, fun j g => by rw [vu_ne g]; exact a1 j g⟩, fun w => ?_, hO2.toR⟩ dX12_errorOf_125
  have hsm : (fnd (seF n f P).1 (tkn n f k)).isSome = true := by
    cases g : (fnd (seF n f P).1 (tkn n f k)).isSome with
    | true => rfl
    | false => rw [hs2, if_neg (by rw [g]; decide)] at w; cases w
  rw [if_pos hsm] at hs1
  have e1 : (seF n f (P ++ [(5, k)])).1 = (seF n f P).1 := by rw [hap]; show (se1 n f 5 k _ _).2.1 = _; rw [hs1]
  have e2 : (seF n f (P ++ [(5, k)])).2.1 = (seF n f P).2.1 := by rw [hap]; show (se1 n f 5 k _ _).2.2 = _; rw [hs1]
  have who : ∀ e, e ∈ P ++ [(5, k)] → e.1 = 4 ∨ e.1 = 5 → (va_up A 4 (upd (A 4) k (oI (fnd (seF n f P).1 (tkn n f k))))) 4 e.2 = oI (fnd (seF n f P).1 (tkn n f e.2)) := fun e he h45 => by
    rw [vu_same]
    by_cases g9 : e.2 = k
    · rw [g9, upd_same]
    · rw [upd_ne g9]
      rcases List.mem_append.mp he with g | g
      · exact a7 e g h45
      · rw [List.mem_singleton.mp g] at g9; exact absurd rfl g9
  refine ⟨_, J, B, U, W, hM2, hP.off hO2 (by omega), fun j g => by rw [vu_ne g]; exact a1 j g, by rw [e1]; exact a2, by rw [e2]; exact a3, a4, fun i hi => by rw [e1] at hi ⊢; exact a5 i hi, a6, fun e he h45 => by rw [e1]; exact who e he h45, fun i o ho => ⟨fun q6 hm => (a8 i o ho).1 q6 ?_, fun q7 hm => ?_⟩⟩
  · rcases List.mem_append.mp hm with g | g
    · exact g
    · cases List.mem_singleton.mp g
  · rw [e1]
    rcases List.mem_append.mp hm with g | g
    · exact (a8 i o ho).2 q7 g
    · cases List.mem_singleton.mp g
set_option maxRecDepth 100000 in
set_option maxHeartbeats 4000000 in
theorem m12_errorOf_4 {X : gX} {h : gH} {z m c pl q n k : Nat} {f : Nat → Int32} {I : Nat → Int32} {A0 : Nat → Nat → Int32} {V : Nat → Int64} {J2 : Int32} {B0 : Nat → Nat → Int32} {s : PLt} {P S : List (Nat × Nat)} (hq : m + 25 ≤ q) (hK : EvK n f A0 V s) (hV : s.1.2.2 = P ++ (4, k) :: S) (h0 : (seF n f P).2.2.1 = 0) (hE : EvS X h m c pl q n f I A0 V J2 B0 s.2 P) : gM X yX12_errorOf cX12_errorOf 4 (some .int) (2, 0, 0) [.ref m, .ref q, .int (nI k)] h z (fun r h' z' => r = some (.int (nI (se1 n f 4 k (seF n f P).1 (seF n f P).2.1).1)) ∧ z' = z ∧ (∃ A', MdB X h' m c pl I A' V ∧ ∀ k, k ≠ 4 → A' k = A0 k) ∧ ((se1 n f 4 k (seF n f P).1 (seF n f P).2.1).1 = 0 → EvS X h' m c pl q n f I A0 V J2 B0 s.2 (P ++ [(4, k)])) ∧ OffR h h' m q) gNoX := by
  obtain ⟨hB, hN, hmn, hvl⟩ := hK
  obtain ⟨hl4, hl1, -⟩ := tkl_spec n f
  have hvs := hB.1.2.2.1
  have hkv := hvs.2 (4, k) (by rw [hV]; simp)
  have hst := hB.1.1
  have hk2 : k < s.1.1 := hkv.2.1
  have hkl : k ≤ tkl n f := by omega
  have hmk := hmn k hkl
  rw [mnV_at hvs hV] at hmk
  have hPV : ∀ e, e ∈ P → e.1 = 2 ∨ tkk n f e.2 = 2 := fun e he => (hvs.2 e (by rw [hV]; exact List.mem_append_left _ he)).2.2.1
  obtain ⟨hok, hno⟩ := seF_Ws hPV
  have hcn := seF_cnt h0
  have hl8 := hok.1
  obtain ⟨A, J, B, U, W, hM, hP, a1, a2, a3, a4, a5, a6, a7, a8⟩ := hE
  rw [← a1 3 (by decide)] at hmk
  have hU := fun i hi => (a5 i hi).1
  have hk : tkk n f k = 2 := hkv.2.2.1.resolve_left (show ¬ 4 = 2 by decide)
  have hvk := hvl k hkl hk
  obtain ⟨hw1, hw2⟩ := tkn_ok hk
  have hse := seF_er (e := (4, k)) h0
  have hap := seF_app n f P (4, k)
  refine gM.of px12 (Nat.le_of_ble_eq_true rfl) ?_
  intro F hE
  obtain ⟨j, oj, j1, j2, j3, j4⟩ := (hN.2 P (4, k) S hV).2 rfl
  have j16 : j < 16 := by omega
  have hJ1 : J 1 = nI (j + 1) := by rw [a3, hcn, j1]
  refine g_aload_n dX12_errorOf_0 rfl ?_
  refine g_getf fl12_30 hM.1 rfl dX12_errorOf_1 ?_
  refine g_iload_n dX12_errorOf_4 rfl ?_
  refine g_ialdN (hM.2.1 3 (by decide)) (by show k < 401; omega) (by decide) dX12_errorOf_5 ?_
  rw [hmk]
  refine g_switch (87) 93 dX12_errorOf_6 (by decide) (by decide) (by decide) (by decide) ?_
  refine g_aload_n dX12_errorOf_93 rfl ?_
  refine g_aload_n dX12_errorOf_94 rfl ?_
  refine g_iload_n dX12_errorOf_95 rfl ?_
  refine g_callV0 kX12_349 (m12_anInsult k _ _ (by omega) hq hok hw2 hw1.2 hM hvk hP a2 hU) hM.1 rfl rfl rfl (Nat.le_of_ble_eq_true rfl) (by decide) (by decide) (Nat.zero_le _) (Nat.zero_le _) dX12_errorOf_96 ?_
  rintro v1 h2 z1 ⟨rfl, rfl, hM2, hO2⟩
  have hP2 := hP.off hO2 (by omega)
  have hPa := hP2.ast (k := 3) (j := j) (x := oI (fnd (seF n f P).1 (tkn n f k))) (by decide)
  have oo : ∀ e, OffB h2 (gset h2 (q + po 3) e) q 12 := fun e => OffB.rf.put (by omega) (by show q + 5 < q + 12; omega)
  have hr : (va_up A 4 (upd (A 4) k (oI (fnd (seF n f P).1 (tkn n f k))))) 4 k = oI (fnd (seF n f P).1 (tkn n f k)) := by rw [vu_same, upd_same]
  refine g_istore_n dX12_errorOf_99 (by decide) rfl ?_
  refine g_aload_n dX12_errorOf_100 rfl ?_
  refine g_getfN fl12_161 hP2.1 rfl dX12_errorOf_101 ?_
  refine g_aload_n dX12_errorOf_104 rfl ?_
  refine g_getfN fl12_185 hP2.1 rfl dX12_errorOf_105 ?_
  rw [hJ1]
  refine g_iconst (nI 1) dX12_errorOf_108 (by decide) ?_
  refine g_isubN dX12_errorOf_109 (by omega) ?_
  refine g_aload_n dX12_errorOf_110 rfl ?_
  refine g_getf fl12_37 hM2.1 rfl dX12_errorOf_111 ?_
  refine g_iload_n dX12_errorOf_114 rfl ?_
  refine g_ialdN (hM2.2.1 4 (by decide)) (by show k < 401; omega) (by decide) dX12_errorOf_115 ?_
  rw [hr]
  refine g_iastN (hP2.2.1 3 (by decide)) (by show j < 16; omega) (by decide) dX12_errorOf_116 ?_
  refine g_iload_n dX12_errorOf_117 rfl ?_
  have hs1 : se1 n f 4 k (seF n f P).1 (seF n f P).2.1 = (if (fnd (seF n f P).1 (tkn n f k)).isSome = true then (0, (seF n f P).1, (seF n f P).2.1) else (3, (seF n f P).1, (seF n f P).2.1)) := rfl
  have hs2 : (se1 n f 4 k (seF n f P).1 (seF n f P).2.1).1 = (if (fnd (seF n f P).1 (tkn n f k)).isSome = true then 0 else 3) := by rw [hs1]; split <;> rfl
  refine g_iret hE rfl ⟨by rw [hs2], rfl, ⟨_, hM2.offq (oo _) hq, fun j g => by rw [vu_ne g]; exact a1 j g⟩, fun w => ?_, hO2.toR.trans ((oo _).toR (by omega))⟩ dX12_errorOf_118
  have hsm : (fnd (seF n f P).1 (tkn n f k)).isSome = true := by
    cases g : (fnd (seF n f P).1 (tkn n f k)).isSome with
    | true => rfl
    | false => rw [hs2, if_neg (by rw [g]; decide)] at w; cases w
  rw [if_pos hsm] at hs1
  have e1 : (seF n f (P ++ [(4, k)])).1 = (seF n f P).1 := by rw [hap]; show (se1 n f 4 k _ _).2.1 = _; rw [hs1]
  have e2 : (seF n f (P ++ [(4, k)])).2.1 = (seF n f P).2.1 := by rw [hap]; show (se1 n f 4 k _ _).2.2 = _; rw [hs1]
  have who : ∀ e, e ∈ P ++ [(4, k)] → e.1 = 4 ∨ e.1 = 5 → (va_up A 4 (upd (A 4) k (oI (fnd (seF n f P).1 (tkn n f k))))) 4 e.2 = oI (fnd (seF n f P).1 (tkn n f e.2)) := fun e he h45 => by
    rw [vu_same]
    by_cases g9 : e.2 = k
    · rw [g9, upd_same]
    · rw [upd_ne g9]
      rcases List.mem_append.mp he with g | g
      · exact a7 e g h45
      · rw [List.mem_singleton.mp g] at g9; exact absurd rfl g9
  refine ⟨_, J, _, U, W, hM2.offq (oo _) hq, hPa, fun j g => by rw [vu_ne g]; exact a1 j g, by rw [e1]; exact a2, by rw [e2]; exact a3, a4, fun i hi => by
    rw [e1] at hi ⊢
    obtain ⟨c0, c1, c2, c3, c4⟩ := a5 i hi
    exact ⟨c0, c1, c2, by rw [vu_ne (by decide)]; exact c3, fun k hk => by rw [vu_ne (by decide)]; exact c4 k hk⟩, fun k hk => by rw [vu_ne (by omega)]; exact a6 k hk, fun e he h45 => by rw [e1]; exact who e he h45, fun i o ho => ⟨fun q6 hm => (a8 i o ho).1 q6 ?_, fun q7 hm => ?_⟩⟩
  · rcases List.mem_append.mp hm with g | g
    · exact g
    · cases List.mem_singleton.mp g
  · rw [e1, vu_same]
    by_cases g : i = j
    · subst g
      rw [j2] at ho
      cases ho
      rw [j4]
      exact upd_same
    · rw [upd_ne g]
      rcases List.mem_append.mp hm with g2 | g2
      · exact (a8 i o ho).2 q7 g2
      · have ek : o.2.1 = k := congrArg Prod.snd (List.mem_singleton.mp g2)
        obtain ⟨P1, S1, p1, p2⟩ := (hN.1 i o ho).2 q7
        have := cut_uniq hvs p1 hV ek
        rw [this] at p2
        omega
set_option maxRecDepth 100000 in
set_option maxHeartbeats 4000000 in
theorem m12_errorOf_0 {X : gX} {h : gH} {z m c pl q k : Nat} {I : Nat → Int32} {A : Nat → Nat → Int32} {V : Nat → Int64} (hk : k < 401) (hM : MdB X h m c pl I A V) (h0 : A 3 k = 0) : gM X yX12_errorOf cX12_errorOf 4 (some .int) (2, 0, 0) [.ref m, .ref q, .int (nI k)] h z (pR h z 0) gNoX := by
  refine gM.of px12 (Nat.le_of_ble_eq_true rfl) ?_
  intro F hE
  refine g_aload_n dX12_errorOf_0 rfl ?_
  refine g_getf fl12_30 hM.1 rfl dX12_errorOf_1 ?_
  refine g_iload_n dX12_errorOf_4 rfl ?_
  refine g_ialdN (hM.2.1 3 (by decide)) (by show k < 401; omega) (by decide) dX12_errorOf_5 ?_
  rw [h0]
  refine g_switchD 126 dX12_errorOf_6 (by decide) (by decide) ?_
  refine g_iconst (nI 0) dX12_errorOf_126 (by decide) ?_
  exact g_iret hE rfl (⟨rfl, rfl, rfl⟩) dX12_errorOf_127
