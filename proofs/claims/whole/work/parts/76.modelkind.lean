/-! the reference: numbers, words and the kinds of tokens -/
/-- the digits of a text of small letters -/
def txD (T : List Nat) : List Nat := T.map (fun t => t - 96)
theorem txD_at {T : List Nat} {i : Nat} (h : i < T.length) (h2 : i < (txD T).length) : (txD T)[i] = T[i] - 96 := List.getElem_map ..
theorem txD_len (T : List Nat) : (txD T).length = T.length := List.length_map ..
theorem tkT_le : ∀ c, c < 24 → ((tkT.getD c []).length ≤ 10 ∧ ∀ t, t ∈ tkT.getD c [] → 97 ≤ t ∧ t ≤ 122) := by decide
theorem txD_dg {T : List Nat} (h : ∀ t, t ∈ T → 97 ≤ t ∧ t ≤ 122) : dg (txD T) := fun d hd => by
  obtain ⟨t, ht, rfl⟩ := List.mem_map.mp hd
  have := h t ht
  omega
theorem le_sgn {t : Nat} (h : 97 ≤ t ∧ t ≤ 122) : sgn (nI t) = nI (t - 96) ∧ isLe (nI t) = true := by
  obtain ⟨h1, h2⟩ := h
  have : ∀ t, t ≤ 122 → 97 ≤ t → sgn (nI t) = nI (t - 96) ∧ isLe (nI t) = true := by decide
  exact this t h2 h1
/-- a text stands where a word has its digits -/
theorem wm_iff {f : Nat → Int32} {s e c : Nat} (hc : c < 24) (hb : ∀ i, s ≤ i → i < e → bLD (f i) = true) : wm f s e c = true ↔ nmD f s e = txD (tkT.getD c []) := by
  obtain ⟨-, hT⟩ := tkT_le c hc
  unfold wm
  generalize tkT.getD c [] = T at hT
  rw [decide_eq_true_iff]
  constructor
  · rintro ⟨h1, h2⟩
    refine List.ext_getElem (by rw [nmD_len, txD_len]; omega) (fun i g1 g2 => ?_)
    rw [nmD_len] at g1
    rw [txD_len] at g2
    rw [nmD_at g1]
    rw [txD_at g2]
    have hm := hT T[i] (List.getElem_mem g2)
    have := h2 i g2
    rw [List.getD_eq_getElem?_getD, List.getElem?_eq_getElem g2] at this
    have e1 : f (s + i) = nI T[i] := this
    have hs := (sgD_ok (hb (s + i) (by omega) (by omega))).1
    have hs2 := (sgD_ok (hb (s + i) (by omega) (by omega))).2
    rw [e1] at hs hs2 ⊢
    rw [(le_sgn hm).1] at hs
    exact ((nI_eq (by omega) (by omega)).mp hs).symm
  · intro h
    have hl : T.length = e - s := by have := congrArg List.length h; rw [nmD_len, txD_len] at this; exact this.symm
    refine ⟨hl, fun i hi => ?_⟩
    have g1 : i < e - s := by omega
    have hm := hT T[i] (List.getElem_mem hi)
    have e1 : (nmD f s e)[i]'(by rw [nmD_len]; exact g1) = (txD T)[i]'(by rw [txD_len]; exact hi) := by simp only [h]
    rw [nmD_at g1] at e1
    have e2 : (txD T)[i]'(by rw [txD_len]; exact hi) = T[i] - 96 := txD_at hi _
    rw [e2] at e1
    rw [List.getD_eq_getElem?_getD, List.getElem?_eq_getElem hi]
    show f (s + i) = nI T[i]
    have hbi := hb (s + i) (by omega) (by omega)
    unfold sgD at e1
    by_cases hle : isLe (f (s + i)) = true
    · rw [if_pos hle] at e1
      obtain ⟨k1, k2, k3⟩ := isLe_nat hle
      rw [k3]; congr 1; omega
    · rw [if_neg hle] at e1
      unfold bLD at hbi
      rw [Bool.or_eq_true] at hbi
      obtain ⟨k1, k2, k3⟩ := isDi_nat (hbi.resolve_left hle)
      omega
/-- the numbers of the kinds of tokens in the reference -/
def kd (c : Nat) : Nat := [32, 33, 30, 31, 1000, 0, 1, 2, 3, 4, 5, 6, 7, 8, 9, 10, 11, 12, 13, 14, 15, 16, 17, 18, 40, 41, 91, 93, 59, 44, 43, 45, 42, 47, 60, 62, 61, 316, 318].getD c 0
theorem kd_inj : ∀ c, c < 39 → ∀ d, d < 39 → kd c = kd d → c = d := by decide
theorem kd_lt : ∀ c, c < 39 → kd c < 2000 := by decide
theorem kd_word : ∀ c, 5 ≤ c → c ≤ 23 → kd c = c - 5 := by
  have : ∀ c, c ≤ 23 → 5 ≤ c → kd c = c - 5 := by decide
  exact fun c h1 h2 => this c h2 h1
set_option maxRecDepth 100000 in
set_option maxHeartbeats 4000000 in
theorem m12_numberAt {X : gX} {h : gH} {z m c pl n : Nat} {I : Nat → Int32} {A : Nat → Nat → Int32} {V : Nat → Int64} (i p e : Nat) (hM : MdB X h m c pl I A V) (hi : i < 401) (hp : p < e) (he : e ≤ 2000) (h6 : e - p ≤ 6) (hd : ∀ j, p ≤ j → j < e → isDi (A 0 j) = true) : gM X yX12_numberAt cX12_numberAt 6 (some .int) (0, 0, 0) [.ref m, .int (nI i), .int (nI p), .int (nI e)] h z (fun r h' z' => r = some (.int (nI 31)) ∧ z' = z ∧ MdB X h' m c pl I A (vp_updL V i (lN (nuV (A 0) p e))) ∧ OffM h h' m) gNoX := by
  refine gM.of px12 (Nat.le_of_ble_eq_true rfl) ?_
  intro F hE
  have loop : ∀ (r j : Nat), j + r = e → p ≤ j → G X F cX12_numberAt 6 yX12_numberAt.cls (0, 0, 0) 0 0 6 [some (.ref m), some (.int (nI i)), some (.int (nI p)), some (.int (nI e)), some (.int (nI (nuV (A 0) p j))), some (.int (nI j))] [] h z := by
    intro r
    induction r with
    | zero =>
      intro j hj hpj
      have hje : j = e := by omega
      subst hje
      have hb := nuV_lt (f := A 0) (s := p) (k := j - p) (fun i a b => hd i a (by omega))
      rw [show p + (j - p) = j by omega] at hb
      have hb6 : 10 ^ (j - p) ≤ 10 ^ 6 := Nat.pow_le_pow_right (by decide) h6
      refine g_iload dX12_numberAt_6 rfl ?_
      refine g_iload_n dX12_numberAt_8 rfl ?_
      refine g_icmp_geN 36 dX12_numberAt_9 (by decide) (by omega) (by omega) (fun c_9 => ?_) (fun c_9 => ?_)
      · refine g_aload_n dX12_numberAt_36 rfl ?_
        refine g_getf fl12_33 hM.1 rfl dX12_numberAt_37 ?_
        refine g_iload_n dX12_numberAt_40 rfl ?_
        refine g_iload dX12_numberAt_41 rfl ?_
        refine g_i2lN (by omega) dX12_numberAt_43 ?_
        refine md_last hi hM OffM.rf dX12_numberAt_44 (fun h2 hM2 hO2 => ?_)
        refine g_bipush (nI 31) dX12_numberAt_45 (by decide) ?_
        exact g_iret hE rfl (⟨rfl, rfl, hM2, hO2⟩) dX12_numberAt_47
      · exact absurd c_9 (by omega)
    | succ r ih =>
      intro j hj hpj
      have hb := nuV_lt (f := A 0) (s := p) (k := j - p) (fun i a b => hd i a (by omega))
      rw [show p + (j - p) = j by omega] at hb
      have hb6 : 10 ^ (j - p) ≤ 10 ^ 6 := Nat.pow_le_pow_right (by decide) (by omega)
      obtain ⟨b1, b2, b3⟩ := isDi_nat (hd j hpj (by omega))
      have hnx := nuV_app (f := A 0) hpj
      refine g_iload dX12_numberAt_6 rfl ?_
      refine g_iload_n dX12_numberAt_8 rfl ?_
      refine g_icmp_geN 36 dX12_numberAt_9 (by decide) (by omega) (by omega) (fun c_9 => ?_) (fun c_9 => ?_)
      · exact absurd c_9 (by omega)
      · refine g_bipush (nI 10) dX12_numberAt_12 (by decide) ?_
        refine g_iload dX12_numberAt_14 rfl ?_
        first | refine g_imulN dX12_numberAt_16 ?_ | refine g_imul dX12_numberAt_16 ?_
        refine g_aload_n dX12_numberAt_17 rfl ?_
        refine g_getf fl12_9 hM.1 rfl dX12_numberAt_18 ?_
        refine g_iload dX12_numberAt_21 rfl ?_
        refine g_ialdN (hM.2.1 0 (by decide)) (by show j < 2000; omega) (by decide) dX12_numberAt_23 ?_
        rw [b3]
        first | refine g_iaddN dX12_numberAt_24 ?_ | refine g_iadd dX12_numberAt_24 ?_
        refine g_bipush (nI 48) dX12_numberAt_25 (by decide) ?_
        refine g_isubN dX12_numberAt_27 (by omega) ?_
        refine g_istore dX12_numberAt_28 (by decide) rfl ?_
        refine g_iincN dX12_numberAt_30 rfl (by decide) rfl ?_
        refine g_goto 6 dX12_numberAt_33 (by decide) ?_
        rw [show 10 * nuV (A 0) p j + (A 0 j).toNatClampNeg - 48 = nuV (A 0) p (j + 1) by rw [hnx]; omega]
        exact ih (j + 1) (by omega) (by omega)
  refine g_iconst (nI 0) dX12_numberAt_0 (by decide) ?_
  refine g_istore dX12_numberAt_1 (by decide) rfl ?_
  refine g_iload_n dX12_numberAt_3 rfl ?_
  refine g_istore dX12_numberAt_4 (by decide) rfl ?_
  rw [show nI 0 = nI (nuV (A 0) p p) by rw [nuV_self]]
  exact loop (e - p) p (by omega) (Nat.le_refl _)
set_option maxRecDepth 100000 in
set_option maxHeartbeats 4000000 in
theorem m12_nameOf {X : gX} {h : gH} {z : Nat} {K : gKo} (c : Nat) (hc : c < 24) (hK : gCo X K) : gM X yX12_nameOf cX12_nameOf 4 (some .long) (4, 0, 0) [.ref (K.2.1 c)] h z (fun r h' z' => r = some (.long (lN (nm (txD (tkT.getD c []))))) ∧ h' = h ∧ z' = z) gNoX := by
  have hT := (tkT_le c hc).2
  have hl := (tkT_le c hc).1
  have hg := hK.2.1 c (by omega)
  have h8 := tkT_b (c := c) (by omega)
  generalize tkT.getD c [] = T at hT hl hg h8
  have hxl := txD_len T
  refine gM.of px12 (Nat.le_of_ble_eq_true rfl) ?_
  intro F hE
  have loop : ∀ (r j : Nat), j + r = T.length → G X F cX12_nameOf 4 yX12_nameOf.cls (4, 0, 0) 0 0 4 [some (.ref (K.2.1 c)), some (.long (lN (nm ((txD T).take j)))), none, some (.int (nI j))] [] h z := by
    intro r
    induction r with
    | zero =>
      intro j hj
      refine g_iload_n dX12_nameOf_4 rfl ?_
      refine g_aload_n dX12_nameOf_5 rfl ?_
      refine g_callVO0 kX12_239 (mJ0_length hK hg (by omega)) hg.1 rfl rfl (Nat.le_of_ble_eq_true rfl) (by decide) (by decide) (by decide) (by decide) dX12_nameOf_6 ?_
      rintro v1 h2 z1 ⟨rfl, rfl, rfl⟩
      refine g_icmp_geN 34 dX12_nameOf_9 (by decide) (by omega) (by omega) (fun c_9 => ?_) (fun c_9 => ?_)
      · refine g_lload_n dX12_nameOf_34 rfl ?_
        exact g_lret hE (⟨by rw [List.take_of_length_le (by omega)], rfl, rfl⟩) dX12_nameOf_35
      · exact absurd c_9 (by omega)
    | succ r ih =>
      intro j hj
      have hj2 : j < T.length := by omega
      have hm := hT T[j] (List.getElem_mem hj2)
      have hgd : T.getD j 0 = T[j] := by rw [List.getD_eq_getElem?_getD, List.getElem?_eq_getElem hj2]; rfl
      have htk : nm ((txD T).take (j + 1)) = 37 * nm ((txD T).take j) + (T[j] - 96) := by
        rw [List.take_succ_eq_append_getElem (by omega), nm_app, txD_at hj2]
      refine g_iload_n dX12_nameOf_4 rfl ?_
      refine g_aload_n dX12_nameOf_5 rfl ?_
      refine g_callVO0 kX12_239 (mJ0_length hK hg (by omega)) hg.1 rfl rfl (Nat.le_of_ble_eq_true rfl) (by decide) (by decide) (by decide) (by decide) dX12_nameOf_6 ?_
      rintro v1 h2 z1 ⟨rfl, rfl, rfl⟩
      refine g_icmp_geN 34 dX12_nameOf_9 (by decide) (by omega) (by omega) (fun c_9 => ?_) (fun c_9 => ?_)
      · exact absurd c_9 (by omega)
      · refine g_37 w37 dX12_nameOf_12 ?_
        refine g_lload_n dX12_nameOf_15 rfl ?_
        refine g_lmulN dX12_nameOf_16 ?_
        refine g_aload_n dX12_nameOf_17 rfl ?_
        refine g_iload_n dX12_nameOf_18 rfl ?_
        refine g_callVO0 kX12_244 (mJ0_charAt hK hg (i := j) (by omega) (by omega) h8) hg.1 rfl rfl (Nat.le_of_ble_eq_true rfl) (by decide) (by decide) (by decide) (by decide) dX12_nameOf_19 ?_
        rintro v1 h2 z1 ⟨rfl, rfl, rfl⟩
        refine g_callS0 kX12_248 (m12_letter (nI (T.getD j 0))) rfl rfl (Nat.le_of_ble_eq_true rfl) (by decide) (by decide) (by decide) (by decide) dX12_nameOf_22 ?_
        rintro v1 h2 z1 ⟨rfl, rfl, rfl⟩
        rw [hgd, (le_sgn hm).1]
        refine g_i2lN (by omega) dX12_nameOf_25 ?_
        refine g_laddN dX12_nameOf_26 ?_
        refine g_lstore_n dX12_nameOf_27 (by decide) rfl ?_
        refine g_iincN dX12_nameOf_28 rfl (by decide) rfl ?_
        refine g_goto 4 dX12_nameOf_31 (by decide) ?_
        rw [← htk]
        exact ih (j + 1) (by omega)
  refine g_lconst (lN 0) dX12_nameOf_0 rfl ?_
  refine g_lstore_n dX12_nameOf_1 (by decide) rfl ?_
  refine g_iconst (nI 0) dX12_nameOf_2 (by decide) ?_
  refine g_istore_n dX12_nameOf_3 (by decide) rfl ?_
  exact loop T.length 0 (by omega)
set_option maxRecDepth 100000 in
set_option maxHeartbeats 4000000 in
theorem m12_wordAt {X : gX} {h : gH} {z m c pl n : Nat} {I : Nat → Int32} {A : Nat → Nat → Int32} {V : Nat → Int64} {K : gKo} (i p e : Nat) (hK : gCo X K) (hM : MdB X h m c pl I A V) (hi : i < 401) (hp : p < e) (he : e ≤ 2000) (h10 : e - p ≤ 10) (hd : ∀ j, p ≤ j → j < e → bLD (A 0 j) = true) : gM X yX12_wordAt cX12_wordAt 7 (some .int) (5, 0, 0) [.ref m, .int (nI i), .int (nI p), .int (nI e)] h z (fun r h' z' => r = some (.int (nI (kd (wcd (A 0) p e)))) ∧ z' = z ∧ MdB X h' m c pl I A (vp_updL V i (lN (nm (nmD (A 0) p e)))) ∧ OffM h h' m) gNoX := by
  refine gM.of px12 (Nat.le_of_ble_eq_true rfl) ?_
  intro F hE
  have hdg := nmD_dg hd
  have hnl := nmD_len (A 0) p e
  have hsm := nm_small hdg (by omega)
  have loop2 : ∀ (r j : Nat), j + r = 19 → (∀ c, 5 ≤ c → c < 5 + j → wm (A 0) p e c = false) → ∀ h1 : gH, MdB X h1 m c pl I A (vp_updL V i (lN (nm (nmD (A 0) p e)))) → OffM h h1 m → G X F cX12_wordAt 7 yX12_wordAt.cls (5, 0, 0) 0 0 49 [some (.ref m), some (.int (nI i)), some (.int (nI p)), some (.int (nI e)), some (.long (lN (nm (nmD (A 0) p e)))), none, some (.int (nI j))] [] h1 z := by
    intro r
    induction r with
    | zero =>
      intro j hj hw h1 hM1 hO1
      have hwc : wcd (A 0) p e = 2 := by unfold wcd; rw [fstA_none.mpr (fun c a b => hw c a (by omega))]; rfl
      refine g_iload dX12_wordAt_49 rfl ?_
      refine g_gets hK.2.2.2.2.1.1 wgX12_251 dX12_wordAt_51 ?_
      refine g_tlen hK.2.2.2.2.1.2 dX12_wordAt_54 ?_
      refine g_icmp_geN 82 dX12_wordAt_55 (by decide) (by omega) (by omega) (fun c_55 => ?_) (fun c_55 => ?_)
      · refine g_bipush (nI 30) dX12_wordAt_82 (by decide) ?_
        exact g_iret hE rfl (⟨by rw [hwc]; rfl, rfl, hM1, hO1⟩) dX12_wordAt_84
      · exact absurd c_55 (by omega)
    | succ r ih =>
      intro j hj hw h1 hM1 hO1
      have hT := (tkT_le (j + 5) (by omega))
      have htd := txD_dg hT.2
      have hts := nm_small htd (by rw [txD_len]; exact hT.1)
      have hcm := (cmpN (a := nm (txD (tkT.getD (j + 5) []))) (b := nm (nmD (A 0) p e)) (by omega) (by omega)).2.2
      have hwi := wm_iff (f := A 0) (s := p) (e := e) (c := j + 5) (by omega) hd
      refine g_iload dX12_wordAt_49 rfl ?_
      refine g_gets hK.2.2.2.2.1.1 wgX12_251 dX12_wordAt_51 ?_
      refine g_tlen hK.2.2.2.2.1.2 dX12_wordAt_54 ?_
      refine g_icmp_geN 82 dX12_wordAt_55 (by decide) (by omega) (by omega) (fun c_55 => ?_) (fun c_55 => ?_)
      · exact absurd c_55 (by omega)
      · refine g_gets hK.2.2.2.2.1.1 wgX12_251 dX12_wordAt_58 ?_
        refine g_iload dX12_wordAt_61 rfl ?_
        refine g_tqld hK.2.2.2.2.1.2 (by omega) (by omega) dX12_wordAt_63 ?_
        refine g_callS0 kX12_255 (m12_nameOf (j + 5) (by omega) hK) rfl rfl (Nat.le_of_ble_eq_true rfl) (by decide) (by decide) (by decide) (by decide) dX12_wordAt_64 ?_
        rintro v1 h2 z1 ⟨rfl, rfl, rfl⟩
        refine g_lload dX12_wordAt_67 rfl ?_
        refine g_lcmp dX12_wordAt_69 ?_
        refine g_if_ne 76 dX12_wordAt_70 (by decide) (fun c_70 => ?_) (fun c_70 => ?_)
        · refine g_iincN dX12_wordAt_76 rfl (by decide) rfl ?_
          refine g_goto 49 dX12_wordAt_79 (by decide) ?_
          refine ih (j + 1) (by omega) (fun c a b => ?_) _ hM1 hO1
          by_cases q : c = j + 5
          · subst q
            cases e9 : wm (A 0) p e (j + 5) with
            | false => rfl
            | true => exact absurd (hcm.mpr (by rw [hwi.mp e9])) c_70
          · exact hw c a (by omega)
        · have e9 := nm_inj htd hdg (hcm.mp (by first | exact c_70 | exact Classical.not_not.mp c_70))
          have hwc : wcd (A 0) p e = j + 5 := by unfold wcd; rw [fstA_some.mpr ⟨by omega, by omega, hwi.mpr e9.symm, fun c a b => hw c a (by omega)⟩]; rfl
          refine g_iload dX12_wordAt_73 rfl ?_
          exact g_iret hE rfl (⟨by rw [hwc, kd_word (j + 5) (by omega) (by omega), Nat.add_sub_cancel], rfl, hM1, hO1⟩) dX12_wordAt_75
  have loop1 : ∀ (r j : Nat), j + r = e → p ≤ j → G X F cX12_wordAt 7 yX12_wordAt.cls (5, 0, 0) 0 0 6 [some (.ref m), some (.int (nI i)), some (.int (nI p)), some (.int (nI e)), some (.long (lN (nm (nmD (A 0) p j)))), none, some (.int (nI j))] [] h z := by
    intro r
    induction r with
    | zero =>
      intro j hj hpj
      have hje : j = e := by omega
      subst hje
      refine g_iload dX12_wordAt_6 rfl ?_
      refine g_iload_n dX12_wordAt_8 rfl ?_
      refine g_icmp_geN 38 dX12_wordAt_9 (by decide) (by omega) (by omega) (fun c_9 => ?_) (fun c_9 => ?_)
      · refine g_aload_n dX12_wordAt_38 rfl ?_
        refine g_getf fl12_33 hM.1 rfl dX12_wordAt_39 ?_
        refine g_iload_n dX12_wordAt_42 rfl ?_
        refine g_lload dX12_wordAt_43 rfl ?_
        refine md_last hi hM OffM.rf dX12_wordAt_45 (fun h2 hM2 hO2 => ?_)
        refine g_iconst (nI 0) dX12_wordAt_46 (by decide) ?_
        refine g_istore dX12_wordAt_47 (by decide) rfl ?_
        exact loop2 19 0 rfl (fun c a b => absurd a (by omega)) _ hM2 hO2
      · exact absurd c_9 (by omega)
    | succ r ih =>
      intro j hj hpj
      have hs := sgD_ok (hd j hpj (by omega))
      have htk : nm (nmD (A 0) p (j + 1)) = 37 * nm (nmD (A 0) p j) + sgD (A 0 j) := by rw [nmD_app hpj, nm_app]
      refine g_iload dX12_wordAt_6 rfl ?_
      refine g_iload_n dX12_wordAt_8 rfl ?_
      refine g_icmp_geN 38 dX12_wordAt_9 (by decide) (by omega) (by omega) (fun c_9 => ?_) (fun c_9 => ?_)
      · exact absurd c_9 (by omega)
      · refine g_37 w37 dX12_wordAt_12 ?_
        refine g_lload dX12_wordAt_15 rfl ?_
        refine g_lmulN dX12_wordAt_17 ?_
        refine g_aload_n dX12_wordAt_18 rfl ?_
        refine g_getf fl12_9 hM.1 rfl dX12_wordAt_19 ?_
        refine g_iload dX12_wordAt_22 rfl ?_
        refine g_ialdN (hM.2.1 0 (by decide)) (by show j < 2000; omega) (by decide) dX12_wordAt_24 ?_
        refine g_callS0 kX12_248 (m12_letter (A 0 j)) rfl rfl (Nat.le_of_ble_eq_true rfl) (by decide) (by decide) (by decide) (by decide) dX12_wordAt_25 ?_
        rintro v1 h2 z1 ⟨rfl, rfl, rfl⟩
        rw [hs.1]
        refine g_i2lN (by omega) dX12_wordAt_28 ?_
        refine g_laddN dX12_wordAt_29 ?_
        refine g_lstore dX12_wordAt_30 (by decide) rfl ?_
        refine g_iincN dX12_wordAt_32 rfl (by decide) rfl ?_
        refine g_goto 6 dX12_wordAt_35 (by decide) ?_
        rw [← htk]
        exact ih (j + 1) (by omega) (by omega)
  refine g_lconst (lN 0) dX12_wordAt_0 rfl ?_
  refine g_lstore dX12_wordAt_1 (by decide) rfl ?_
  refine g_iload_n dX12_wordAt_3 rfl ?_
  refine g_istore dX12_wordAt_4 (by decide) rfl ?_
  rw [show lN 0 = lN (nm (nmD (A 0) p p)) by unfold nmD; rw [Nat.sub_self]; rfl]
  exact loop1 (e - p) p (by omega) (Nat.le_refl _)
