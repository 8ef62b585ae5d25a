/-! the reference: one piece of news is heeded -/
theorem cut_uniq {K : Nat → Nat} {a b : Nat} {V P P1 S S1 : List (Nat × Nat)} {x y : Nat × Nat} (h : VS K a b V) (e1 : V = P1 ++ x :: S1) (e2 : V = P ++ y :: S) (hxy : x.2 = y.2) : P1 = P := by
  have hp := h.1
  have ee : P1 ++ x :: S1 = P ++ y :: S := e1.symm.trans e2
  rcases List.append_eq_append_iff.mp ee with ⟨W, h1, h2⟩ | ⟨W, h1, h2⟩
  · cases W with
    | nil => rw [h1, List.append_nil]
    | cons w W =>
      rw [List.cons_append] at h2
      injection h2 with h3 h4
      rw [e1, List.pairwise_append, List.pairwise_cons] at hp
      have := hp.2.1.1 y (by rw [h4]; simp)
      omega
  · cases W with
    | nil => rw [h1, List.append_nil]
    | cons w W =>
      rw [List.cons_append] at h2
      injection h2 with h3 h4
      rw [e2, List.pairwise_append, List.pairwise_cons] at hp
      have := hp.2.1.1 x (by rw [h4]; simp)
      omega
theorem fnd_up {n : Nat} {f : Nat → Int32} {P : List (Nat × Nat)} {e e' : Nat × Nat} (h : (seF n f (P ++ [e])).2.2.1 = 0) (he : e' ∈ P) (h45 : e'.1 = 4 ∨ e'.1 = 5) : fnd (seF n f (P ++ [e])).1 (tkn n f e'.2) = fnd (seF n f P).1 (tkn n f e'.2) := by
  obtain ⟨h1, h2⟩ := seF_mono h
  obtain ⟨-, -, -, h6⟩ := seF_fine P ([], 0, 0, 0) h1
  obtain ⟨i, hi⟩ := Option.isSome_iff_exists.mp ((h6 _ he).2 h45)
  have hi2 : fnd (seF n f P).1 (tkn n f e'.2) = some i := hi
  rw [hi2, h2 _ i hi2]
set_option maxRecDepth 100000 in
set_option maxHeartbeats 4000000 in
theorem m12_errorOf_1 {X : gX} {h : gH} {z m c pl q n k : Nat} {f : Nat → Int32} {I : Nat → Int32} {A0 : Nat → Nat → Int32} {V : Nat → Int64} {J2 : Int32} {B0 : Nat → Nat → Int32} {s : PLt} {P S : List (Nat × Nat)} (hq : m + 25 ≤ q) (hK : EvK n f A0 V s) (hV : s.1.2.2 = P ++ (1, k) :: S) (h0 : (seF n f P).2.2.1 = 0) (hE : EvS X h m c pl q n f I A0 V J2 B0 s.2 P) : gM X yX12_errorOf cX12_errorOf 4 (some .int) (2, 0, 0) [.ref m, .ref q, .int (nI k)] h z (fun r h' z' => r = some (.int (nI (se1 n f 1 k (seF n f P).1 (seF n f P).2.1).1)) ∧ z' = z ∧ ((se1 n f 1 k (seF n f P).1 (seF n f P).2.1).1 = 0 → EvS X h' m c pl q n f I A0 V J2 B0 s.2 (P ++ [(1, k)])) ∧ OffR h h' m q) gNoX := by
  obtain ⟨hB, hN, hmn, hvl⟩ := hK
  obtain ⟨hl4, hl1, -⟩ := tkl_spec n f
  have hvs := hB.1.2.2.1
  have hkv := hvs.2 (1, k) (by rw [hV]; simp)
  have hst := hB.1.1
  have hk2 : k < s.1.1 := hkv.2.1
  have hkl : k ≤ tkl n f := by omega
  have hmk := hmn k hkl
  rw [mnV_at hvs hV] at hmk
  have hPV : ∀ e, e ∈ P → e.1 = 2 ∨ tkk n f e.2 = 2 := fun e he => (hvs.2 e (by rw [hV]; exact List.mem_append_left _ he)).2.2.1
  obtain ⟨hok, hno⟩ := seF_Ws hPV
  have hcn := seF_cnt h0
  have hl8 := hok.1
  obtain ⟨A, J, B, U, W, hM, hP, a1, a2, a3, a4, a5, a6, a7, a8⟩ := hE
  rw [← a1 3 (by decide)] at hmk
  have hU := fun i hi => (a5 i hi).1
  have hk : tkk n f k = 2 := hkv.2.2.1.resolve_left (show ¬ 1 = 2 by decide)
  have hvk := hvl k hkl hk
  obtain ⟨hw1, hw2⟩ := tkn_ok hk
  have hse := seF_er (e := (1, k)) h0
  have hap := seF_app n f P (1, k)
  refine gM.of px12 (Nat.le_of_ble_eq_true rfl) ?_
  intro F hE
  refine g_aload_n dX12_errorOf_0 rfl ?_
  refine g_getf fl12_30 hM.1 rfl dX12_errorOf_1 ?_
  refine g_iload_n dX12_errorOf_4 rfl ?_
  refine g_ialdN (hM.2.1 3 (by decide)) (by show k < 401; omega) (by decide) dX12_errorOf_5 ?_
  rw [hmk]
  refine g_switch (34) 40 dX12_errorOf_6 (by decide) (by decide) (by decide) (by decide) ?_
  refine g_aload_n dX12_errorOf_40 rfl ?_
  refine g_aload_n dX12_errorOf_41 rfl ?_
  refine g_aload_n dX12_errorOf_42 rfl ?_
  refine g_getf fl12_33 hM.1 rfl dX12_errorOf_43 ?_
  refine g_iload_n dX12_errorOf_46 rfl ?_
  refine g_laldN (hM.2.2) (by omega) (by decide) dX12_errorOf_47 ?_
  rw [hvk]
  refine g_callV0 kX12_342 (m12_newInsult _ _ hok hw2 hw1.2 hM.1 hP a2 hU) hM.1 rfl rfl rfl (Nat.le_of_ble_eq_true rfl) (by decide) (by decide) (Nat.zero_le _) (Nat.zero_le _) dX12_errorOf_48 ?_
  rintro v1 h2 z1 ⟨rfl, rfl, hn1, hn2, hO2⟩
  have hM2 : MdB X h2 m c pl I A V := hM.offq hO2 hq
  have hs1 : (se1 n f 1 k (seF n f P).1 (seF n f P).2.1) = (if (fnd (seF n f P).1 (tkn n f k)).isSome = true then (2, (seF n f P).1, (seF n f P).2.1) else if 8 ≤ (seF n f P).1.length then (4, (seF n f P).1, (seF n f P).2.1) else if hsD (tkn n f k) = true then (5, (seF n f P).1, (seF n f P).2.1) else (0, (seF n f P).1 ++ [tkn n f k], (seF n f P).2.1)) := if_pos rfl
  have hs2 : (se1 n f 1 k (seF n f P).1 (seF n f P).2.1).1 = erI (seF n f P).1 (tkn n f k) := by
    rw [hs1]; unfold erI; repeat' split
    all_goals rfl
  refine g_iret hE rfl ⟨by rw [hs2], rfl, fun w => ?_, hO2.toR (by omega)⟩ dX12_errorOf_51
  have hz : erI (seF n f P).1 (tkn n f k) = 0 := by rw [← hs2]; exact w
  obtain ⟨J', B', U', b1, b2, b3, b4, b5, b6, b7⟩ := hn2 hz
  have hs3 : se1 n f 1 k (seF n f P).1 (seF n f P).2.1 = (0, (seF n f P).1 ++ [tkn n f k], (seF n f P).2.1) := by
    rw [hs1]; unfold erI at hz
    split at hz
    · cases hz
    · rename_i g1
      rw [if_neg g1]
      split at hz
      · cases hz
      · rename_i g2
        rw [if_neg g2]
        split at hz
        · cases hz
        · rename_i g3
          rw [if_neg g3]
  have e1 : (seF n f (P ++ [(1, k)])).1 = (seF n f P).1 ++ [tkn n f k] := by rw [hap]; show (se1 n f 1 k _ _).2.1 = _; rw [hs3]
  have e2 : (seF n f (P ++ [(1, k)])).2.1 = (seF n f P).2.1 := by rw [hap]; show (se1 n f 1 k _ _).2.2 = _; rw [hs3]
  have e3 : (seF n f (P ++ [(1, k)])).2.2.1 = 0 := by rw [hse]; show (se1 n f 1 k _ _).1 = 0; rw [hs3]
  have up := fun e' he h45 => fnd_up (n := n) (f := f) (e := (1, k)) (e' := e') e3 he h45
  refine ⟨A, J', B', U', W, hM2, b1, a1, by rw [e1, List.length_append]; exact b2, by rw [e2, b3 1 (by decide)]; exact a3, by rw [b3 2 (by decide)]; exact a4, fun i hi => ?_, fun k hk => by rw [b7 k (by omega)]; exact a6 k hk, fun e he h45 => ?_, fun i o ho => ⟨fun q6 hm => (a8 i o ho).1 q6 ?_, fun q7 hm => ?_⟩⟩
  · rw [e1] at hi ⊢
    rw [List.length_append] at hi
    have hi2 : i < (seF n f P).1.length + 1 := hi
    refine ⟨b4 i hi2, ?_⟩
    by_cases g : i < (seF n f P).1.length
    · rw [show ((seF n f P).1 ++ [tkn n f k]).getD i [] = (seF n f P).1.getD i [] from by rw [List.getD_eq_getElem?_getD, List.getD_eq_getElem?_getD, List.getElem?_append_left g]]
      obtain ⟨c1, c2, c3, c4⟩ := (a5 i g).2
      obtain ⟨d1, d2⟩ := b6 i g
      exact ⟨c1, c2, by rw [d1]; exact c3, fun k hk => by rw [d2 k (by omega)]; exact c4 k hk⟩
    · have hie : i = (seF n f P).1.length := by omega
      rw [show ((seF n f P).1 ++ [tkn n f k]).getD i [] = tkn n f k from by rw [hie, List.getD_eq_getElem?_getD, List.getElem?_append_right (Nat.le_refl _), Nat.sub_self]; rfl, hie]
      exact b5
  · rcases List.mem_append.mp he with g | g
    · rw [up e g h45]; exact a7 e g h45
    · rw [List.mem_singleton.mp g] at h45; rcases h45 with h45 | h45 <;> cases h45
  · rcases List.mem_append.mp hm with g | g
    · exact g
    · cases List.mem_singleton.mp g
  · rcases List.mem_append.mp hm with g | g
    · rw [b7 3 (by decide), up (4, o.2.1) g (Or.inl rfl)]; exact (a8 i o ho).2 q7 g
    · cases List.mem_singleton.mp g
