/-! the reference: numbers, words and the kinds of tokens -/
/-- the digits of a text of small letters -/
def txD (T : List Nat) : List Nat := T.map (fun t => t - 96)
theorem txD_at {T : List Nat} {i : Nat} (h : i < T.length) (h2 : i < (txD T).length) : (txD T)[i] = T[i] - 96 := List.getElem_map ..
theorem txD_len (T : List Nat) : (txD T).length = T.length := List.length_map ..
theorem tkT_le : ∀ c, c < 24 → ((tkT.getD c []).length ≤ 10 ∧ ∀ t, t ∈ tkT.getD c [] → 97 ≤ t ∧ t ≤ 122) := by decide
theorem txD_dg {T : List Nat} (h : ∀ t, t ∈ T → 97 ≤ t ∧ t ≤ 122) : dg (txD T) := fun d hd => by
  obtain ⟨t, ht, rfl⟩ := List.mem_map.mp hd
  have := h t ht
  omega
theorem le_sgn {t : Nat} (h : 97 ≤ t ∧ t ≤ 122) : sgn (nI t) = nI (t - 96) ∧ isLe (nI t) = true := by
  obtain ⟨h1, h2⟩ := h
  have : ∀ t, t ≤ 122 → 97 ≤ t → sgn (nI t) = nI (t - 96) ∧ isLe (nI t) = true := by decide
  exact this t h2 h1
/-- a text stands where a word has its digits -/
theorem wm_iff {f : Nat → Int32} {s e c : Nat} (hc : c < 24) (hb : ∀ i, s ≤ i → i < e → bLD (f i) = true) : wm f s e c = true ↔ nmD f s e = txD (tkT.getD c []) := by
  obtain ⟨-, hT⟩ := tkT_le c hc
  unfold wm
  generalize tkT.getD c [] = T at hT
  rw [decide_eq_true_iff]
  constructor
  · rintro ⟨h1, h2⟩
    refine List.ext_getElem (by rw [nmD_len, txD_len]; omega) (fun i g1 g2 => ?_)
    rw [nmD_len] at g1
    rw [txD_len] at g2
    rw [nmD_at g1]
    rw [txD_at g2]
    have hm := hT T[i] (List.getElem_mem g2)
    have := h2 i g2
    rw [List.getD_eq_getElem?_getD, List.getElem?_eq_getElem g2] at this
    have e1 : f (s + i) = nI T[i] := this
    have hs := (sgD_ok (hb (s + i) (by omega) (by omega))).1
    have hs2 := (sgD_ok (hb (s + i) (by omega) (by omega))).2
    rw [e1] at hs hs2 ⊢
    rw [(le_sgn hm).1] at hs
    exact ((nI_eq (by omega) (by omega)).mp hs).symm
  · intro h
    have hl : T.length = e - s := by have := congrArg List.length h; rw [nmD_len, txD_len] at this; exact this.symm
    refine ⟨hl, fun i hi => ?_⟩
    have g1 : i < e - s := by omega
    have hm := hT T[i] (List.getElem_mem hi)
    have e1 : (nmD f s e)[i]'(by rw [nmD_len]; exact g1) = (txD T)[i]'(by rw [txD_len]; exact hi) := by simp only [h]
    rw [nmD_at g1] at e1
    have e2 : (txD T)[i]'(by rw [txD_len]; exact hi) = T[i] - 96 := txD_at hi _
    rw [e2] at e1
    rw [List.getD_eq_getElem?_getD, List.getElem?_eq_getElem hi]
    show f (s + i) = nI T[i]
    have hbi := hb (s + i) (by omega) (by omega)
    unfold sgD at e1
    by_cases hle : isLe (f (s + i)) = true
    · rw [if_pos hle] at e1
      obtain ⟨k1, k2, k3⟩ := isLe_nat hle
      rw [k3]; congr 1; omega
    · rw [if_neg hle] at e1
      unfold bLD at hbi
      rw [Bool.or_eq_true] at hbi
      obtain ⟨k1, k2, k3⟩ := isDi_nat (hbi.resolve_left hle)
      omega
/-- the numbers of the kinds of tokens in the reference -/
def kd (c : Nat) : Nat := [32, 33, 30, 31, 1000, 0, 1, 2, 3, 4, 5, 6, 7, 8, 9, 10, 11, 12, 13, 14, 15, 16, 17, 18, 40, 41, 91, 93, 59, 44, 43, 45, 42, 47, 60, 62, 61, 316, 318].getD c 0
theorem kd_inj : ∀ c, c < 39 → ∀ d, d < 39 → kd c = kd d → c = d := by decide
theorem kd_lt : ∀ c, c < 39 → kd c < 2000 := by decide
theorem kd_word : ∀ c, 5 ≤ c → c ≤ 23 → kd c = c - 5 := by
  have : ∀ c, c ≤ 23 → 5 ≤ c → kd c = c - 5 := by decide
  exact fun c h1 h2 => this c h2 h1
set_option maxRecDepth 100000 in
set_option maxHeartbeats 4000000 in
theorem m12_numberAt {X : gX} {h : gH} {z m c pl n : Nat} {I : Nat → Int32} {A : Nat → Nat → Int32} {V : Nat → Int64} (i p e : Nat) (hM : MdB X h m c pl I A V) (hi : i < 401) (hp : p < e) (he : e ≤ 2000) (h6 : e - p ≤ 6) (hd : ∀ j, p ≤ j → j < e → isDi (A 0 j) = true) : gM X yX12_numberAt cX12_numberAt 6 (some .int) (0, 0, 0) [.ref m, .int (nI i), .int (nI p), .int (nI e)] h z (fun r h' z' => r = some (.int (nI 31)) ∧ z' = z ∧ MdB X h' m c pl I A (vp_updL V i (lN (nuV (A 0) p e))) ∧ OffM h h' m) gNoX := by
  refine gM.of px12 (Nat.le_of_ble_eq_true rfl) ?_
  intro F hE
  have loop : ∀ (r j : Nat), j + r = e → p ≤ j → G X F cX12_numberAt 6 yX12_numberAt.cls (0, 0, 0) 0 0 6 [some (.ref m), some (.int (nI i)), some (.int (nI p)), some (.int (nI e)), some (.int (nI (nuV (A 0) p j))), some (.int (nI j))] [] h z := by
    intro r
    induction r with
    | zero =>
      intro j hj hpj
      have hje : j = e := by omega
      subst hje
      have hb := nuV_lt (f := A 0) (s := p) (k := j - p) (fun i a b => hd i a (by omega))
      rw [show p + (j - p) = j by omega] at hb
      have hb6 : 10 ^ (j - p) ≤ 10 ^ 6 := Nat.pow_le_pow_right (by decide) h6
      refine g_iload dX12_numberAt_6 rfl ?_
      refine g_iload_n dX12_numberAt_8 rfl ?_
      refine g_icmp_geN 36 dX12_numberAt_9 (by decide) (by omega) (by omega) (fun c_9 => ?_) (fun c_9 => ?_)
      · refine g_aload_n dX12_numberAt_36 rfl ?_
        refine g_getf fl12_33 hM.1 rfl dX12_numberAt_37 ?_
        refine g_iload_n dX12_numberAt_40 rfl ?_
        refine g_iload dX12_numberAt_41 rfl ?_
        refine g_i2lN (by omega) dX12_numberAt_43 ?_
        refine md_last hi hM OffM.rf dX12_numberAt_44 (fun h2 hM2 hO2 => ?_)
        refine g_bipush (nI 31) dX12_numberAt_45 (by decide) ?_
        exact g_iret hE rfl (⟨rfl, rfl, hM2, hO2⟩) dX12_numberAt_47
      · exact absurd c_9 (by omega)
    | succ r ih =>
      intro j hj hpj
      have hb := nuV_lt (f := A 0) (s := p) (k := j - p) (fun i a b => hd i a (by omega))
      rw [show p + (j - p) = j by omega] at hb
      have hb6 : 10 ^ (j - p) ≤ 10 ^ 6 := Nat.pow_le_pow_right (by decide) (by omega)
      obtain ⟨b1, b2, b3⟩ := isDi_nat (hd j hpj (by omega))
      have hnx := nuV_app (f := A 0) hpj
      refine g_iload dX12_numberAt_6 rfl ?_
      refine g_iload_n dX12_numberAt_8 rfl ?_
      refine g_icmp_geN 36 dX12_numberAt_9 (by decide) (by omega) (by omega) (fun c_9 => ?_) (fun c_9 => ?_)
      · exact absurd c_9 (by omega)
      · refine g_bipush (nI 10) dX12_numberAt_12 (by decide) ?_
        refine g_iload dX12_numberAt_14 rfl ?_
        first | refine g_imulN dX12_numberAt_16 ?_ | refine g_imul dX12_numberAt_16 ?_
        refine g_aload_n dX12_numberAt_17 rfl ?_
        refine g_getf fl12_9 hM.1 rfl dX12_numberAt_18 ?_
        refine g_iload dX12_numberAt_21 rfl ?_
        refine g_ialdN (hM.2.1 0 (by decide)) (by show j < 2000; omega) (by decide) dX12_numberAt_23 ?_
        rw [b3]
        first | refine g_iaddN dX12_numberAt_24 ?_ | refine g_iadd dX12_numberAt_24 ?_
        refine g_bipush (nI 48) dX12_numberAt_25 (by decide) ?_
        refine g_isubN dX12_numberAt_27 (by omega) ?_
        refine g_istore dX12_numberAt_28 (by decide) rfl ?_
        refine g_iincN dX12_numberAt_30 rfl (by decide) rfl ?_
        refine g_goto 6 dX12_numberAt_33 (by decide) ?_
        rw [show 10 * nuV (A 0) p j + (A 0 j).toNatClampNeg - 48 = nuV (A 0) p (j + 1) by rw [hnx]; omega]
        exact ih (j + 1) (by omega) (by omega)
  refine g_iconst (nI 0) dX12_numberAt_0 (by decide) ?_
  refine g_istore dX12_numberAt_1 (by decide) rfl ?_
  refine g_iload_n dX12_numberAt_3 rfl ?_
  refine g_istore dX12_numberAt_4 (by decide) rfl ?_
  rw [show nI 0 = nI (nuV (A 0) p p) by rw [nuV_self]]
  exact loop (e - p) p (by omega) (Nat.le_refl _)
