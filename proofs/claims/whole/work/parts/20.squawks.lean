/-! Squawks, Word: blocks, rows for their cells, the mutators -/
abbrev gNoX : String → gH → Nat → Prop := fun _ _ _ => False
abbrev nox : ∀ (E : String) (h' : gH) (z' : Nat), gNoX E h' z' → False := fun _ _ _ q => q
section G0
variable {X : gX} {F : gF} {cc : ByteArray} {nL : Nat} {own : String} {R : Nat × Nat × Nat} {k n pc : Nat} {lv : List (Option Value)} {st : List Value} {h : gH} {z : Nat}
variable {idx nL' na d' : Nat} {y : MethodName} {cc' : ByteArray} {ret' : Option FieldType} {As rest : List Value} {b : Nat} {post' : Option Value → gH → Nat → Prop}
theorem g_callV0 (kw : gWV own idx y cc' nL' ret' na) (M : gM X y cc' nL' ret' (d', 0, 0) (.ref b :: As) h z post' gNoX) {ci N : Nat} {T : u_T} {fs : List Value} (hh : h b = some (.inr (ci, fs))) (hcl : vwCl[ci]? = some (y.cls, T, N)) (hst : st = As.reverse ++ .ref b :: rest) (hna : As.length = na) (hcat : (rest.map fun v => v.category).sum ≤ 8) (hnl : nL' ≤ 22) (hd : d' + 1 ≤ R.1) (hk : k ≤ R.2.1) (hn : n ≤ R.2.2) (d : decode cc pc = .ok (.invokevirtual idx, 3))
    (kk : ∀ (v : Option Value) (h' : gH) (z' : Nat), post' v h' z' → G X F cc nL own R k n (pc + 3) lv (v.toList ++ rest) h' z') : G X F cc nL own R k n pc lv st h z := g_callV kw M hh hcl hst hna hcat hnl hd hk hn d nox kk
theorem g_callS0 (kw : gWs own idx y cc' nL' ret' na) (M : gM X y cc' nL' ret' (d', 0, 0) As h z post' gNoX) (hst : st = As.reverse ++ rest) (hna : As.length = na) (hcat : (rest.map fun v => v.category).sum ≤ 8) (hnl : nL' ≤ 22) (hd : d' + 1 ≤ R.1) (hk : k ≤ R.2.1) (hn : n ≤ R.2.2) (d : decode cc pc = .ok (.invokestatic idx, 3))
    (kk : ∀ (v : Option Value) (h' : gH) (z' : Nat), post' v h' z' → G X F cc nL own R k n (pc + 3) lv (v.toList ++ rest) h' z') : G X F cc nL own R k n pc lv st h z := g_callS kw M hst hna hcat hnl hd hk hn d nox kk
end G0
theorem px1 : plainName RX1 = true := by decide +kernel
theorem px2 : plainName RX2 = true := by decide +kernel
theorem px3 : plainName RX3 = true := by decide +kernel
theorem px4 : plainName RX4 = true := by decide +kernel
theorem px5 : plainName RX5 = true := by decide +kernel
theorem px6 : plainName RX6 = true := by decide +kernel
theorem px8 : plainName RX8 = true := by decide +kernel
theorem px9 : plainName RX9 = true := by decide +kernel
theorem px10 : plainName RX10 = true := by decide +kernel
theorem px11 : plainName RX11 = true := by decide +kernel
theorem px12 : plainName RX12 = true := by decide +kernel
def SqB (X : gX) (h : gH) (a n : Nat) (I : Nat → Int32) (A : Nat → Nat → Int32) : Prop := h a = some (.inr (4, [.ref (a + 1), .int (nI n), .ref (a + 2), .ref (a + 3), .ref (a + 4), .ref (a + 5), .int (I 0), .int (I 1), .int (I 2)])) ∧ ∀ k, k < 5 → h (a + 1 + k) = some (gIA X 40 (A k))
def WdB (X : gX) (h : gH) (a n : Nat) (f : Nat → Int32) : Prop := h a = some (.inr (7, [.ref (a + 1), .int (nI n)])) ∧ h (a + 1) = some (gIA X 10 f)
theorem SqB.off {X : gX} {h h' : gH} {a n b m : Nat} {I : Nat → Int32} {A : Nat → Nat → Int32} (hS : SqB X h a n I A) (hO : OffB h h' b m) (hd : a + 6 ≤ b ∨ b + m ≤ a) : SqB X h' a n I A := ⟨(hO a (by omega)).trans hS.1, fun k hk => (hO _ (by omega)).trans (hS.2 k hk)⟩
theorem WdB.off {X : gX} {h h' : gH} {a n b m : Nat} {f : Nat → Int32} (hS : WdB X h a n f) (hO : OffB h h' b m) (hd : a + 2 ≤ b ∨ b + m ≤ a) : WdB X h' a n f := ⟨(hO a (by omega)).trans hS.1, (hO _ (by omega)).trans hS.2⟩
section SQ
variable {X : gX} {F : gF} {cc : ByteArray} {nL : Nat} {own : String} {R : Nat × Nat × Nat} {k n pc : Nat} {lv : List (Option Value)} {st : List Value} {h h0 : gH} {z a c idx w : Nat} {I : Nat → Int32} {A : Nat → Nat → Int32}
theorem sq_putn {m : Nat} (fl : gFl own idx 4 1 RX5 TX5 9 tyX5) (hS : SqB X h a c I A) (hO : OffB h0 h a (w + 1)) (d : decode cc pc = .ok (.putfield idx, 3)) (kk : ∀ h : gH, SqB X h a m I A → OffB h0 h a (w + 1) → G X F cc nL own R k n (pc + 3) lv st h z) : G X F cc nL own R k n pc lv (.int (nI m) :: .ref a :: st) h z :=
  g_putf fl hS.1 rfl rfl rfl (Nat.le_of_ble_eq_true rfl) d (kk _ ⟨gset_same, fun j hj => (gset_ne (by omega)).trans (hS.2 j hj)⟩ (hO.put (Nat.le_refl _) (by omega)))
theorem sq_put0 {x : Int32} (fl : gFl own idx 4 6 RX5 TX5 9 tyX5) (hS : SqB X h a c I A) (hO : OffB h0 h a (w + 1)) (d : decode cc pc = .ok (.putfield idx, 3)) (kk : ∀ h : gH, SqB X h a c (upd I 0 x) A → OffB h0 h a (w + 1) → G X F cc nL own R k n (pc + 3) lv st h z) : G X F cc nL own R k n pc lv (.int x :: .ref a :: st) h z :=
  g_putf fl hS.1 rfl rfl rfl (Nat.le_of_ble_eq_true rfl) d (kk _ ⟨gset_same, fun j hj => (gset_ne (by omega)).trans (hS.2 j hj)⟩ (hO.put (Nat.le_refl _) (by omega)))
theorem sq_put1 {x : Int32} (fl : gFl own idx 4 7 RX5 TX5 9 tyX5) (hS : SqB X h a c I A) (hO : OffB h0 h a (w + 1)) (d : decode cc pc = .ok (.putfield idx, 3)) (kk : ∀ h : gH, SqB X h a c (upd I 1 x) A → OffB h0 h a (w + 1) → G X F cc nL own R k n (pc + 3) lv st h z) : G X F cc nL own R k n pc lv (.int x :: .ref a :: st) h z :=
  g_putf fl hS.1 rfl rfl rfl (Nat.le_of_ble_eq_true rfl) d (kk _ ⟨gset_same, fun j hj => (gset_ne (by omega)).trans (hS.2 j hj)⟩ (hO.put (Nat.le_refl _) (by omega)))
theorem sq_put2 {x : Int32} (hx : narrow .boolean (.int x) = .int x) (hf : fits .boolean (.int x) = true) (fl : gFl own idx 4 8 RX5 TX5 9 tyX5) (hS : SqB X h a c I A) (hO : OffB h0 h a (w + 1)) (d : decode cc pc = .ok (.putfield idx, 3)) (kk : ∀ h : gH, SqB X h a c (upd I 2 x) A → OffB h0 h a (w + 1) → G X F cc nL own R k n (pc + 3) lv st h z) : G X F cc nL own R k n pc lv (.int x :: .ref a :: st) h z :=
  g_putf fl hS.1 rfl hx hf (Nat.le_of_ble_eq_true rfl) d (kk _ ⟨gset_same, fun j hj => (gset_ne (by omega)).trans (hS.2 j hj)⟩ (hO.put (Nat.le_refl _) (by omega)))
theorem sq_ast {q j : Nat} {x : Int32} (hq : q < 5 ∧ q < w) (hj : j < 40) (hS : SqB X h a c I A) (hO : OffB h0 h a (w + 1)) (d : decode cc pc = .ok (.iastore, 1)) (kk : ∀ h : gH, SqB X h a c I (va_up A q (upd (A q) j x)) → OffB h0 h a (w + 1) → G X F cc nL own R k n (pc + 1) lv st h z) : G X F cc nL own R k n pc lv (.int x :: .int (nI j) :: .ref (a + 1 + q) :: st) h z := by
  refine g_iastN (hS.2 q hq.1) hj (by decide) d (kk _ ⟨(gset_ne (by omega)).trans hS.1, fun i hi => ?_⟩ (hO.put (by omega) (by omega)))
  by_cases e : i = q
  · subst e
    rw [gset_same]; simp [va_up]
  · rw [gset_ne (by omega), hS.2 i hi]; simp [va_up, e]
end SQ
/-- how many of n a wish x comes to -/
def clampN (x : Int32) (n : Nat) : Nat := if x < nI 0 then 0 else if nI n < x then n else x.toNatClampNeg
theorem clampN_eq {x : Int32} {n : Nat} (hn : n < 2 ^ 31) : (if nI 0 < (if nI n < x then nI n else x) then (if nI n < x then nI n else x) else nI 0) = nI (clampN x n) := by
  unfold clampN
  by_cases h0 : x < nI 0
  · have h1 : ¬ nI n < x := by
      intro q
      have h2 : ¬ nI n < 0 := nI_pos hn
      have h0' : x < 0 := h0
      simp only [Int32.lt_iff_toInt_lt] at *
      omega
    have h3 : ¬ nI 0 < x := by
      simp only [Int32.lt_iff_toInt_lt] at *
      omega
    rw [if_pos h0, if_neg h1, if_neg h3]
  · rw [if_neg h0]
    obtain ⟨j, hj, rfl⟩ := nI_of h0
    by_cases h1 : nI n < nI j
    · rw [if_pos h1, if_pos h1]
      by_cases h2 : nI 0 < nI n
      · rw [if_pos h2]
      · rw [if_neg h2]
        rw [nI_ltI (by decide) hn] at h2
        rw [show n = 0 by omega]
    · rw [if_neg h1, if_neg h1, nI_clamp hj]
      by_cases h2 : nI 0 < nI j
      · rw [if_pos h2]
      · rw [if_neg h2]
        rw [nI_ltI (by decide) hj] at h2
        rw [show j = 0 by omega]
theorem clampN_le {x : Int32} {n : Nat} (hn : n < 2 ^ 31) : clampN x n ≤ n := by
  unfold clampN
  by_cases h0 : x < nI 0
  · rw [if_pos h0]; omega
  · rw [if_neg h0]
    obtain ⟨j, hj, rfl⟩ := nI_of h0
    by_cases h1 : nI n < nI j
    · rw [if_pos h1]; omega
    · rw [if_neg h1, nI_clamp hj]
      rw [nI_ltI hn hj] at h1
      omega
theorem clampN_nI {j n : Nat} (hj : j < 2 ^ 31) (hn : n < 2 ^ 31) : clampN (nI j) n = min j n := by
  unfold clampN
  rw [if_neg (by rw [nI_ltI hj (by decide)]; omega), nI_clamp hj]
  simp only [nI_ltI hn hj]
  split <;> omega

set_option maxRecDepth 100000 in
set_option maxHeartbeats 4000000 in
theorem r5_forgetAll {X : gX} {h : gH} {z a c : Nat} {I : Nat → Int32} {A : Nat → Nat → Int32} (hS : SqB X h a c I A) : gM X yX5_forgetAll cX5_forgetAll 1 none (1, 0, 0) [.ref a] h z (fun r h' z' => r = none ∧ z' = z ∧ SqB X h' a 0 (upd I 2 0) A ∧ OffB h h' a 5) gNoX := by
  refine gM.of px5 (Nat.le_of_ble_eq_true rfl) ?_
  intro F hE
  have hO : OffB h h a 5 := OffB.rf
  refine g_aload_n dX5_forgetAll_0 rfl ?_
  refine g_iconst (nI 0) dX5_forgetAll_1 (by decide) ?_
  refine sq_putn fl5_27 hS hO dX5_forgetAll_2 (fun h hS hO => ?_)
  refine g_aload_n dX5_forgetAll_5 rfl ?_
  refine g_iconst (nI 0) dX5_forgetAll_6 (by decide) ?_
  refine sq_put2 rfl rfl fl5_31 hS hO dX5_forgetAll_7 (fun h hS hO => ?_)
  exact g_vret hE (⟨rfl, rfl, hS, hO⟩) dX5_forgetAll_10
set_option maxRecDepth 100000 in
set_option maxHeartbeats 4000000 in
/-- forgetFirst: the letters move g places ahead; what stands behind them is free -/
theorem r5_forgetFirst {X : gX} {h : gH} {z a c : Nat} {I : Nat → Int32} {A : Nat → Nat → Int32} (x : Int32) (hc : c ≤ 40) (hS : SqB X h a c I A) : gM X yX5_forgetFirst cX5_forgetFirst 4 none (2, 0, 0) [.ref a, .int x] h z (fun r h' z' => r = none ∧ z' = z ∧ (∃ f, SqB X h' a (c - clampN x c) (upd I 2 0) (va_up A 0 f) ∧ ∀ i, i < c - clampN x c → f i = A 0 (i + clampN x c)) ∧ OffB h h' a 5) gNoX := by
  have hgl : clampN x c ≤ c := clampN_le (by omega)
  generalize hg : clampN x c = g at hgl ⊢
  refine gM.of px5 (Nat.le_of_ble_eq_true rfl) ?_
  intro F hE
  have hO : OffB h h a 5 := OffB.rf
  have hA0 : va_up A 0 (A 0) = A := by funext k; unfold va_up; split <;> simp [*]
  refine g_iconst (nI 0) dX5_forgetFirst_0 (by decide) ?_
  refine g_iload_n dX5_forgetFirst_1 rfl ?_
  refine g_aload_n dX5_forgetFirst_2 rfl ?_
  refine g_getf fl5_27 hS.1 rfl dX5_forgetFirst_3 ?_
  refine gmin wmath_min wlX5_46 (by decide) (by decide) (by decide) (by decide) dX5_forgetFirst_6 ?_
  refine gmax wmath_max wlX5_52 (by decide) (by decide) (by decide) (by decide) dX5_forgetFirst_9 ?_
  rw [clampN_eq (by omega), hg]
  refine g_istore_n dX5_forgetFirst_12 (by decide) rfl ?_
  refine g_iload_n dX5_forgetFirst_13 rfl ?_
  refine g_istore_n dX5_forgetFirst_14 (by decide) rfl ?_
  have upd0 : ∀ (A : Nat → Nat → Int32) (f g : Nat → Int32), va_up (va_up A 0 f) 0 g = va_up A 0 g := fun A f g => by funext k; unfold va_up; split <;> rfl
  have loop : ∀ (m j : Nat) (f : Nat → Int32), j + g + m = c → ∀ h1 : gH, SqB X h1 a c I (va_up A 0 f) → OffB h h1 a 5 → (∀ i, i < j → f i = A 0 (i + g)) → (∀ i, j + g ≤ i → f i = A 0 i) → G X F cX5_forgetFirst 4 yX5_forgetFirst.cls (2, 0, 0) 0 0 15 [some (.ref a), some (.int x), some (.int (nI g)), some (.int (nI (j + g)))] [] h1 z := by
    intro m
    induction m with
    | zero =>
      intro j f hj h hS hO hf hf2
      refine g_iload_n dX5_forgetFirst_15 rfl ?_
      refine g_aload_n dX5_forgetFirst_16 rfl ?_
      refine g_getf fl5_27 hS.1 rfl dX5_forgetFirst_17 ?_
      refine g_icmp_geN 43 dX5_forgetFirst_20 (by decide) (by omega) (by omega) (fun c_20 => ?_) (fun c_20 => ?_)
      · refine g_aload_n dX5_forgetFirst_43 rfl ?_
        refine g_dup dX5_forgetFirst_44 rfl ?_
        refine g_getf fl5_27 hS.1 rfl dX5_forgetFirst_45 ?_
        refine g_iload_n dX5_forgetFirst_48 rfl ?_
        first | refine g_isubN dX5_forgetFirst_49 (by omega) ?_ | refine g_isub dX5_forgetFirst_49 ?_
        refine sq_putn fl5_27 hS hO dX5_forgetFirst_50 (fun h hS hO => ?_)
        refine g_aload_n dX5_forgetFirst_53 rfl ?_
        refine g_iconst (nI 0) dX5_forgetFirst_54 (by decide) ?_
        refine sq_put2 rfl rfl fl5_31 hS hO dX5_forgetFirst_55 (fun h hS hO => ?_)
        exact g_vret hE (⟨rfl, rfl, ⟨f, hS, fun i hi => hf i (by omega)⟩, hO⟩) dX5_forgetFirst_58
      · exact absurd c_20 (by omega)
    | succ m ih =>
      intro j f hj h hS hO hf hf2
      refine g_iload_n dX5_forgetFirst_15 rfl ?_
      refine g_aload_n dX5_forgetFirst_16 rfl ?_
      refine g_getf fl5_27 hS.1 rfl dX5_forgetFirst_17 ?_
      refine g_icmp_geN 43 dX5_forgetFirst_20 (by decide) (by omega) (by omega) (fun c_20 => ?_) (fun c_20 => ?_)
      · exact absurd c_20 (by omega)
      · refine g_aload_n dX5_forgetFirst_23 rfl ?_
        refine g_getf fl5_9 hS.1 rfl dX5_forgetFirst_24 ?_
        refine g_iload_n dX5_forgetFirst_27 rfl ?_
        refine g_iload_n dX5_forgetFirst_28 rfl ?_
        first | refine g_isubN dX5_forgetFirst_29 (by omega) ?_ | refine g_isub dX5_forgetFirst_29 ?_
        refine g_aload_n dX5_forgetFirst_30 rfl ?_
        refine g_getf fl5_9 hS.1 rfl dX5_forgetFirst_31 ?_
        refine g_iload_n dX5_forgetFirst_34 rfl ?_
        refine g_ialdN (hS.2 0 (by decide)) (by omega) (by decide) dX5_forgetFirst_35 ?_
        rw [Nat.add_sub_cancel]
        refine sq_ast (q := 0) ⟨by decide, by decide⟩ (by omega) hS hO dX5_forgetFirst_36 (fun h hS hO => ?_)
        refine g_iincN dX5_forgetFirst_37 rfl (by decide) rfl ?_
        refine g_goto 15 dX5_forgetFirst_40 (by decide) ?_
        rw [upd0] at hS
        refine G.eql (lv' := [some (.ref a), some (.int x), some (.int (nI g)), some (.int (nI ((j + 1) + g)))]) (by rw [show j + 1 + g = j + g + 1 by omega]; rfl) ?_
        refine ih (j + 1) _ (by omega) h hS hO (fun i hi => ?_) (fun i hi => ?_)
        · simp only [va_up, if_pos, upd]
          by_cases e : i = j
          · subst e; rw [if_pos rfl]; exact hf2 _ (Nat.le_refl _)
          · rw [if_neg e]; exact hf i (by omega)
        · simp only [va_up, if_pos, upd]
          rw [if_neg (by omega)]; exact hf2 i (by omega)
  refine G.eql (lv' := [some (.ref a), some (.int x), some (.int (nI g)), some (.int (nI (0 + g)))]) (by rw [Nat.zero_add]; rfl) ?_
  exact loop (c - g) 0 (A 0) (by omega) h (by rw [hA0]; exact hS) hO (fun i hi => absurd hi (by omega)) (fun i hi => rfl)
