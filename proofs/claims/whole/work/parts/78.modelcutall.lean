/-! the reference: a tape is cut into tokens -/
/-- the first k tokens of the tape f of n bytes lie in the rows of the reference -/
def MTk (n : Nat) (f : Nat → Int32) (A : Nat → Nat → Int32) (V : Nat → Int64) (k : Nat) : Prop := ∀ i, i < k → A 1 i = nI (kd (tkk n f i)) ∧ A 2 i = nI (tks n f i) ∧ A 3 i = 0 ∧ (tkk n f i = 2 → V i = lN (nm (tkn n f i))) ∧ (tkk n f i = 3 → V i = lN (tku n f i))
theorem MTk.put {n k : Nat} {f : Nat → Int32} {A A' : Nat → Nat → Int32} {V V' : Nat → Int64} (h : MTk n f A V k) (hA : ∀ i, i < k → A' 1 i = A 1 i ∧ A' 2 i = A 2 i ∧ A' 3 i = A 3 i ∧ V' i = V i) (h1 : A' 1 k = nI (kd (tkk n f k))) (h2 : A' 2 k = nI (tks n f k)) (h3 : A' 3 k = 0) (h4 : tkk n f k = 2 → V' k = lN (nm (tkn n f k))) (h5 : tkk n f k = 3 → V' k = lN (tku n f k)) : MTk n f A' V' (k + 1) := fun i hi => by
  rcases Nat.lt_or_ge i k with q | q
  · obtain ⟨a1, a2, a3, a4⟩ := hA i q
    rw [a1, a2, a3, a4]; exact h i q
  · have : i = k := by omega
    subst this
    exact ⟨h1, h2, h3, h4, h5⟩
theorem tkK_1 {n p : Nat} {f : Nat → Int32} (h : p < n) : tkK n f p ≠ 1 := by
  unfold tkK
  rw [if_neg (by omega)]
  have h1 := wcd_lt f p (sce bLD n f p)
  have h2 := sy_lt (f p) (byt n f (p + 1))
  repeat' split
  all_goals omega
set_option maxRecDepth 100000 in
set_option maxHeartbeats 4000000 in
theorem m12_cutIntoTokens {X : gX} {h : gH} {z m c pl n : Nat} {I : Nat → Int32} {A : Nat → Nat → Int32} {V : Nat → Int64} {K : gKo} (hK : gCo X K) (hM : MdB X h m c pl I A V) (hI1 : I 1 = nI n) (hn : n ≤ 2000) (hby : ∀ j, j < n → A 0 j ≠ -1) : gM X yX12_cutIntoTokens cX12_cutIntoTokens 4 none (7, 0, 0) [.ref m] h z (fun r h' z' => r = none ∧ z' = z ∧ (∃ A' V', MdB X h' m c pl I A' V' ∧ MTk n (A 0) A' V' (tkl n (A 0) + 1) ∧ ∀ k, k ≠ 1 → k ≠ 2 → k ≠ 3 → A' k = A k) ∧ OffM h h' m) gNoX := by
  refine gM.of px12 (Nat.le_of_ble_eq_true rfl) ?_
  intro F hE
  obtain ⟨hl4, hl1, hl2⟩ := tkl_spec n (A 0)
  have blank : ∀ (i : Nat) (h1 : gH) (A1 : Nat → Nat → Int32) (V1 : Nat → Int64) (x3 : Option Value), MdB X h1 m c pl I A1 V1 → A1 0 = A 0 → G X F cX12_cutIntoTokens 4 yX12_cutIntoTokens.cls (7, 0, 0) 0 0 37 [some (.ref m), some (.int (nI (tks n (A 0) i))), some (.int (nI i)), x3] [] h1 z → ∀ (r q : Nat), n ≤ q + r → q ≤ n → sce isBl n (A 0) q = tks n (A 0) i → G X F cX12_cutIntoTokens 4 yX12_cutIntoTokens.cls (7, 0, 0) 0 0 11 [some (.ref m), some (.int (nI q)), some (.int (nI i)), x3] [] h1 z := by
    intro i h1 A1 V1 x3 hM hA0 hk r
    induction r with
    | zero =>
      intro q h1 h2 hs
      have hb : byt n (A 0) q = -1 := if_neg (by omega)
      refine g_aload_n dX12_cutIntoTokens_11 rfl ?_
      refine g_iload_n dX12_cutIntoTokens_12 rfl ?_
      refine g_callV0 kX12_224 (m12_byteOf q hM hI1 hn (by omega)) hM.1 rfl rfl rfl (Nat.le_of_ble_eq_true rfl) (by decide) (by decide) (by decide) (by decide) dX12_cutIntoTokens_13 ?_
      rintro v1 h2 z1 ⟨rfl, rfl, rfl⟩
      rw [hA0]
      refine g_bipush (nI 32) dX12_cutIntoTokens_16 (by decide) ?_
      refine g_icmp_eq 31 dX12_cutIntoTokens_18 (by decide) (fun c_18 => ?_) (fun c_18 => ?_)
      · rw [hb] at c_18; exact absurd c_18 (by decide)
      · refine g_aload_n dX12_cutIntoTokens_21 rfl ?_
        refine g_iload_n dX12_cutIntoTokens_22 rfl ?_
        refine g_callV0 kX12_224 (m12_byteOf q hM hI1 hn (by omega)) hM.1 rfl rfl rfl (Nat.le_of_ble_eq_true rfl) (by decide) (by decide) (by decide) (by decide) dX12_cutIntoTokens_23 ?_
        rintro v1 h2 z1 ⟨rfl, rfl, rfl⟩
        rw [hA0]
        refine g_bipush (nI 10) dX12_cutIntoTokens_26 (by decide) ?_
        refine g_icmp_ne 37 dX12_cutIntoTokens_28 (by decide) (fun c_28 => ?_) (fun c_28 => ?_)
        · have e : q = tks n (A 0) i := by rw [← hs, sce_stop (fun q9 => absurd q9 (by omega))]
          rw [e]
          exact hk
        · rw [hb] at c_28; exact absurd c_28 (by decide)
    | succ r ih =>
      intro q h1 h2 hs
      refine g_aload_n dX12_cutIntoTokens_11 rfl ?_
      refine g_iload_n dX12_cutIntoTokens_12 rfl ?_
      refine g_callV0 kX12_224 (m12_byteOf q hM hI1 hn (by omega)) hM.1 rfl rfl rfl (Nat.le_of_ble_eq_true rfl) (by decide) (by decide) (by decide) (by decide) dX12_cutIntoTokens_13 ?_
      rintro v1 h2 z1 ⟨rfl, rfl, rfl⟩
      rw [hA0]
      refine g_bipush (nI 32) dX12_cutIntoTokens_16 (by decide) ?_
      refine g_icmp_eq 31 dX12_cutIntoTokens_18 (by decide) (fun c_18 => ?_) (fun c_18 => ?_)
      · refine g_iincN dX12_cutIntoTokens_31 rfl (by decide) rfl ?_
        refine g_goto 11 dX12_cutIntoTokens_34 (by decide) ?_
        have hq := byt_lt (n := n) (f := A 0) (p := q) (fun e => by rw [e] at c_18; exact absurd c_18 (by decide))
        exact ih (q + 1) (by omega) (by omega) (by rw [← sce_step hq.1 (show isBl (A 0 q) = true by rw [← hq.2]; exact decide_eq_true (Or.inl c_18)), hs])
      · refine g_aload_n dX12_cutIntoTokens_21 rfl ?_
        refine g_iload_n dX12_cutIntoTokens_22 rfl ?_
        refine g_callV0 kX12_224 (m12_byteOf q hM hI1 hn (by omega)) hM.1 rfl rfl rfl (Nat.le_of_ble_eq_true rfl) (by decide) (by decide) (by decide) (by decide) dX12_cutIntoTokens_23 ?_
        rintro v1 h2 z1 ⟨rfl, rfl, rfl⟩
        rw [hA0]
        refine g_bipush (nI 10) dX12_cutIntoTokens_26 (by decide) ?_
        refine g_icmp_ne 37 dX12_cutIntoTokens_28 (by decide) (fun c_28 => ?_) (fun c_28 => ?_)
        · have e : q = tks n (A 0) i := by
            rw [← hs, sce_stop (fun q9 => ?_)]
            have e9 : byt n (A 0) q = A 0 q := if_pos q9
            rw [e9] at c_18 c_28
            exact decide_eq_false (fun q => q.elim c_18 c_28)
          rw [e]
          exact hk
        · refine g_iincN dX12_cutIntoTokens_31 rfl (by decide) rfl ?_
          refine g_goto 11 dX12_cutIntoTokens_34 (by decide) ?_
          have hq := byt_lt (n := n) (f := A 0) (p := q) (fun e => by rw [e] at c_28; exact absurd c_28 (by decide))
          exact ih (q + 1) (by omega) (by omega) (by rw [← sce_step hq.1 (show isBl (A 0 q) = true by rw [← hq.2]; exact decide_eq_true (Or.inr (by first | exact c_28 | exact Classical.not_not.mp c_28))), hs])
  have body : ∀ (i q : Nat) (h1 : gH) (A1 : Nat → Nat → Int32) (V1 : Nat → Int64) (x3 : Option Value), i ≤ tkl n (A 0) → q ≤ n → sce isBl n (A 0) q = tks n (A 0) i → MdB X h1 m c pl I A1 V1 → MTk n (A 0) A1 V1 i → (∀ k, k ≠ 1 → k ≠ 2 → k ≠ 3 → A1 k = A k) → OffM h h1 m → (∀ (h2 : gH) (A2 : Nat → Nat → Int32) (V2 : Nat → Int64), MdB X h2 m c pl I A2 V2 → MTk n (A 0) A2 V2 (i + 1) → (∀ k, k ≠ 1 → k ≠ 2 → k ≠ 3 → A2 k = A k) → OffM h h2 m → G X F cX12_cutIntoTokens 4 yX12_cutIntoTokens.cls (7, 0, 0) 0 0 96 [some (.ref m), some (.int (nI (tks n (A 0) i))), some (.int (nI i)), some (.int (nI (eoM n (A 0) (tks n (A 0) i))))] [] h2 z) → G X F cX12_cutIntoTokens 4 yX12_cutIntoTokens.cls (7, 0, 0) 0 0 4 [some (.ref m), some (.int (nI q)), some (.int (nI i)), x3] [] h1 z := by
    intro i q h1 A1 V1 x3 hil hqn hqs hM hMT hA1 hO1 kk
    have hA0 : A1 0 = A 0 := hA1 0 (by decide) (by decide) (by decide)
    have htn := tks_le n (A 0) i
    have hkd := tkK_lt n (A 0) (tks n (A 0) i)
    have hkb := kd_lt _ hkd
    have at37 : ∀ x3 : Option Value, G X F cX12_cutIntoTokens 4 yX12_cutIntoTokens.cls (7, 0, 0) 0 0 37 [some (.ref m), some (.int (nI (tks n (A 0) i))), some (.int (nI i)), x3] [] h1 z := by
      intro x3
      refine g_aload_n dX12_cutIntoTokens_37 rfl ?_
      refine g_iload_n dX12_cutIntoTokens_38 rfl ?_
      refine g_callV0 kX12_259 (m12_endOf (tks n (A 0) i) hM hI1 hn htn) hM.1 rfl rfl rfl (Nat.le_of_ble_eq_true rfl) (by decide) (by decide) (by decide) (by decide) dX12_cutIntoTokens_39 ?_
      rintro v1 h2 z1 ⟨rfl, rfl, rfl⟩
      rw [hA0]
      refine g_istore_n dX12_cutIntoTokens_42 (by decide) rfl ?_
      refine g_aload_n dX12_cutIntoTokens_43 rfl ?_
      refine g_getf fl12_27 hM.1 rfl dX12_cutIntoTokens_44 ?_
      refine g_iload_n dX12_cutIntoTokens_47 rfl ?_
      refine g_iload_n dX12_cutIntoTokens_48 rfl ?_
      refine md_ast (q := 2) (by decide) (by show i < 401; omega) hM hO1 dX12_cutIntoTokens_49 (fun h3 hM3 hO3 => ?_)
      refine g_aload_n dX12_cutIntoTokens_50 rfl ?_
      refine g_getf fl12_30 hM3.1 rfl dX12_cutIntoTokens_51 ?_
      refine g_iload_n dX12_cutIntoTokens_54 rfl ?_
      refine g_iconst (nI 0) dX12_cutIntoTokens_55 (by decide) ?_
      refine md_ast (q := 3) (by decide) (by show i < 401; omega) hM3 hO3 dX12_cutIntoTokens_56 (fun h4 hM4 hO4 => ?_)
      have hAm : ∀ k, k ≠ 1 → k ≠ 2 → k ≠ 3 → (va_up (va_up A1 2 (upd (A1 2) i (nI (tks n (A 0) i)))) 3 (upd ((va_up A1 2 (upd (A1 2) i (nI (tks n (A 0) i)))) 3) i (nI 0))) k = A k := fun k a b c => by rw [vu_ne c, vu_ne b]; exact hA1 k a b c
      have hA41 : (va_up (va_up A1 2 (upd (A1 2) i (nI (tks n (A 0) i)))) 3 (upd ((va_up A1 2 (upd (A1 2) i (nI (tks n (A 0) i)))) 3) i (nI 0))) 1 = A1 1 := by rw [vu_ne (by decide), vu_ne (by decide)]
      have hA42 : (va_up (va_up A1 2 (upd (A1 2) i (nI (tks n (A 0) i)))) 3 (upd ((va_up A1 2 (upd (A1 2) i (nI (tks n (A 0) i)))) 3) i (nI 0))) 2 = upd (A1 2) i (nI (tks n (A 0) i)) := by rw [vu_ne (by decide), vu_same]
      have hA43 : (va_up (va_up A1 2 (upd (A1 2) i (nI (tks n (A 0) i)))) 3 (upd ((va_up A1 2 (upd (A1 2) i (nI (tks n (A 0) i)))) 3) i (nI 0))) 3 = upd (A1 3) i (nI 0) := by rw [vu_same, vu_ne (by decide)]
      generalize (va_up (va_up A1 2 (upd (A1 2) i (nI (tks n (A 0) i)))) 3 (upd ((va_up A1 2 (upd (A1 2) i (nI (tks n (A 0) i)))) 3) i (nI 0))) = A4 at hM4 hAm hA41 hA42 hA43
      have hA40 : A4 0 = A 0 := hAm 0 (by decide) (by decide) (by decide)
      refine g_aload_n dX12_cutIntoTokens_57 rfl ?_
      refine g_getf fl12_24 hM4.1 rfl dX12_cutIntoTokens_58 ?_
      refine g_iload_n dX12_cutIntoTokens_61 rfl ?_
      refine g_aload_n dX12_cutIntoTokens_62 rfl ?_
      refine g_iload_n dX12_cutIntoTokens_63 rfl ?_
      refine g_iload_n dX12_cutIntoTokens_64 rfl ?_
      refine g_iload_n dX12_cutIntoTokens_65 rfl ?_
      have hk := m12_kindOf (z := z1) i (tks n (A 0) i) hK hM4 hI1 hn (by omega) htn (by rw [hA40]; exact hby)
      rw [hA40] at hk
      refine g_callV0 kX12_262 hk hM4.1 rfl rfl rfl (Nat.le_of_ble_eq_true rfl) (by decide) (by decide) (by decide) (by decide) dX12_cutIntoTokens_66 ?_
      rintro v1 h5 z1 ⟨rfl, rfl, ⟨V5, hM5, hV5, hV52, hV53⟩, hO5⟩
      refine md_ast (q := 1) (by decide) (by show i < 401; omega) hM5 (hO4.trans hO5) dX12_cutIntoTokens_69 (fun h6 hM6 hO6 => ?_)
      have mk : ∀ x : Int32, x = nI (kd (tkk n (A 0) i)) → MTk n (A 0) (va_up A4 1 (upd (A4 1) i x)) V5 (i + 1) := fun x hx => by
        refine hMT.put (fun j hj => ⟨?_, ?_, ?_, hV5 j (by omega)⟩) ?_ ?_ ?_ (fun q => ?_) (fun q => ?_)
        · rw [vu_same, upd_ne (by omega), hA41]
        · rw [vu_ne (by decide), hA42, upd_ne (by omega)]
        · rw [vu_ne (by decide), hA43, upd_ne (by omega)]
        · rw [vu_same, upd_same]; exact hx
        · rw [vu_ne (by decide), hA42, upd_same]
        · rw [vu_ne (by decide), hA43, upd_same]; rfl
        · have q1 := q
          unfold tkk at q1
          split at q1
          · cases q1
          · split at q1
            · rw [hV52 q1, eoM_E (by omega) (by omega)]; rfl
            · cases q1
        · have q1 := q
          unfold tkk at q1
          split at q1
          · cases q1
          · split at q1
            · rw [hV53 q1, eoM_E (by omega) (by omega)]; rfl
            · cases q1
      have mA : ∀ x : Nat → Int32, ∀ k, k ≠ 1 → k ≠ 2 → k ≠ 3 → (va_up A4 1 x) k = A k := fun x k a b c => by rw [vu_ne a]; exact hAm k a b c
      have hr6 : ∀ x : Int32, (va_up A4 1 (upd (A4 1) i x)) 1 i = x := fun x => by rw [vu_same, upd_same]
      refine g_iload_n dX12_cutIntoTokens_70 rfl ?_
      refine g_sipush (nI 400) dX12_cutIntoTokens_71 (by decide) ?_
      refine g_icmp_neN 96 dX12_cutIntoTokens_74 (by decide) (by omega) (by omega) (fun c_74 => ?_) (fun c_74 => ?_)
      · have e : tkk n (A 0) i = tkK n (A 0) (tks n (A 0) i) := by
          unfold tkk
          by_cases g : n ≤ tks n (A 0) i
          · rw [if_pos g]; unfold tkK; rw [if_pos g]
          · rw [if_neg g, if_pos (by omega)]
        exact kk h6 _ V5 hM6 (mk _ (by rw [e])) (mA _) hO6
      · refine g_aload_n dX12_cutIntoTokens_77 rfl ?_
        refine g_getf fl12_24 hM6.1 rfl dX12_cutIntoTokens_78 ?_
        refine g_iload_n dX12_cutIntoTokens_81 rfl ?_
        refine g_ialdN (hM6.2.1 1 (by decide)) (by show i < 401; omega) (by decide) dX12_cutIntoTokens_82 ?_
        rw [hr6]
        refine g_bipush (nI 33) dX12_cutIntoTokens_83 (by decide) ?_
        refine g_icmp_eqN 96 dX12_cutIntoTokens_85 (by decide) (by omega) (by omega) (fun c_85 => ?_) (fun c_85 => ?_)
        · have e1 := kd_inj _ hkd 1 (by decide) (c_85.trans rfl)
          have e : tkk n (A 0) i = 1 := by
            unfold tkk
            by_cases g : n ≤ tks n (A 0) i
            · rw [if_pos g]
            · exact absurd e1 (tkK_1 (by omega))
          exact kk h6 _ V5 hM6 (mk _ (by rw [e, e1])) (mA _) hO6
        · refine g_aload_n dX12_cutIntoTokens_88 rfl ?_
          refine g_getf fl12_24 hM6.1 rfl dX12_cutIntoTokens_89 ?_
          refine g_iload_n dX12_cutIntoTokens_92 rfl ?_
          refine g_bipush (nI 32) dX12_cutIntoTokens_93 (by decide) ?_
          refine md_ast (q := 1) (by decide) (by show i < 401; omega) hM6 hO6 dX12_cutIntoTokens_95 (fun h7 hM7 hO7 => ?_)
          have e7 : ∀ x y, va_up (va_up A4 1 (upd (A4 1) i x)) 1 (upd ((va_up A4 1 (upd (A4 1) i x)) 1) i y) = va_up A4 1 (upd (A4 1) i y) := fun x y => by
            funext k j
            by_cases e : k = 1
            · subst e
              rw [vu_same, vu_same, vu_same]
              by_cases e2 : j = i
              · subst e2; rw [upd_same, upd_same]
              · rw [upd_ne e2, upd_ne e2, upd_ne e2]
            · rw [vu_ne e, vu_ne e, vu_ne e]
          rw [e7] at hM7
          have e : tkk n (A 0) i = 0 := by
            unfold tkk
            by_cases g : n ≤ tks n (A 0) i
            · exact absurd (show kd (tkK n (A 0) (tks n (A 0) i)) = 33 by unfold tkK; rw [if_pos g]; rfl) c_85
            · rw [if_neg g, if_neg (by omega)]
          exact kk h7 _ V5 hM7 (mk _ (by rw [e]; rfl)) (mA _) hO7
    refine g_iload_n dX12_cutIntoTokens_4 rfl ?_
    refine g_sipush (nI 400) dX12_cutIntoTokens_5 (by decide) ?_
    refine g_icmp_gtN 127 dX12_cutIntoTokens_8 (by decide) (by omega) (by omega) (fun c_8 => ?_) (fun c_8 => ?_)
    · exact absurd c_8 (by omega)
    · exact blank i h1 A1 V1 x3 hM hA0 (at37 x3) (n - q) q (by omega) hqn hqs
  have loop : ∀ (r i q : Nat) (h1 : gH) (A1 : Nat → Nat → Int32) (V1 : Nat → Int64) (x3 : Option Value), i + r = tkl n (A 0) → q ≤ n → sce isBl n (A 0) q = tks n (A 0) i → MdB X h1 m c pl I A1 V1 → MTk n (A 0) A1 V1 i → (∀ k, k ≠ 1 → k ≠ 2 → k ≠ 3 → A1 k = A k) → OffM h h1 m → G X F cX12_cutIntoTokens 4 yX12_cutIntoTokens.cls (7, 0, 0) 0 0 4 [some (.ref m), some (.int (nI q)), some (.int (nI i)), x3] [] h1 z := by
    intro r
    induction r with
    | zero =>
      intro i q h1 A1 V1 x3 hi hqn hqs hM hMT hA1 hO1
      have hil : i = tkl n (A 0) := by omega
      refine body i q h1 A1 V1 x3 (by omega) hqn hqs hM hMT hA1 hO1 (fun h2 A2 V2 hM2 hMT2 hA2 hO2 => ?_)
      have hki := (hMT2 i (by omega)).1
      have hk1 : tkk n (A 0) i ≤ 1 := by rw [hil]; exact hl1
      have hkb := kd_lt _ (tkk_lt n (A 0) i)
      refine g_aload_n dX12_cutIntoTokens_96 rfl ?_
      refine g_getf fl12_24 hM2.1 rfl dX12_cutIntoTokens_97 ?_
      refine g_iload_n dX12_cutIntoTokens_100 rfl ?_
      refine g_ialdN (hM2.2.1 1 (by decide)) (by show i < 401; omega) (by decide) dX12_cutIntoTokens_101 ?_
      rw [hki]
      refine g_bipush (nI 32) dX12_cutIntoTokens_102 (by decide) ?_
      refine g_icmp_eqN 118 dX12_cutIntoTokens_104 (by decide) (by omega) (by omega) (fun c_104 => ?_) (fun c_104 => ?_)
      · exact g_vret hE (⟨rfl, rfl, ⟨A2, V2, hM2, by rw [← hil]; exact hMT2, hA2⟩, hO2⟩) dX12_cutIntoTokens_118
      · refine g_aload_n dX12_cutIntoTokens_107 rfl ?_
        refine g_getf fl12_24 hM2.1 rfl dX12_cutIntoTokens_108 ?_
        refine g_iload_n dX12_cutIntoTokens_111 rfl ?_
        refine g_ialdN (hM2.2.1 1 (by decide)) (by show i < 401; omega) (by decide) dX12_cutIntoTokens_112 ?_
        rw [hki]
        refine g_bipush (nI 33) dX12_cutIntoTokens_113 (by decide) ?_
        refine g_icmp_neN 119 dX12_cutIntoTokens_115 (by decide) (by omega) (by omega) (fun c_115 => ?_) (fun c_115 => ?_)
        · exact absurd c_115 (fun q => by rcases (show tkk n (A 0) i = 0 ∨ tkk n (A 0) i = 1 by omega) with e | e <;> (rw [e] at c_104 c_115; first | exact c_104 rfl | exact c_115 rfl))
        · exact g_vret hE (⟨rfl, rfl, ⟨A2, V2, hM2, by rw [← hil]; exact hMT2, hA2⟩, hO2⟩) dX12_cutIntoTokens_118
    | succ r ih =>
      intro i q h1 A1 V1 x3 hi hqn hqs hM hMT hA1 hO1
      refine body i q h1 A1 V1 x3 (by omega) hqn hqs hM hMT hA1 hO1 (fun h2 A2 V2 hM2 hMT2 hA2 hO2 => ?_)
      have hki := (hMT2 i (by omega)).1
      have hk2 := hl2 i (by omega)
      have hts : tks n (A 0) i < n := by
        unfold tkk at hk2
        by_cases g : n ≤ tks n (A 0) i
        · rw [if_pos g] at hk2; omega
        · omega
      have hkk : 2 ≤ tkK n (A 0) (tks n (A 0) i) := by
        unfold tkk at hk2
        rw [if_neg (by omega)] at hk2
        split at hk2
        · exact hk2
        · omega
      have he : eoM n (A 0) (tks n (A 0) i) = tkp n (A 0) (i + 1) := eoM_E hts hkk
      have hkl := tkk_lt n (A 0) i
      have c0 : kd (tkk n (A 0) i) ≠ 32 := fun q => by have := kd_inj _ hkl 0 (by decide) (q.trans rfl); omega
      have c1 : kd (tkk n (A 0) i) ≠ 33 := fun q => by have := kd_inj _ hkl 1 (by decide) (q.trans rfl); omega
      have hkb := kd_lt _ (tkk_lt n (A 0) i)
      refine g_aload_n dX12_cutIntoTokens_96 rfl ?_
      refine g_getf fl12_24 hM2.1 rfl dX12_cutIntoTokens_97 ?_
      refine g_iload_n dX12_cutIntoTokens_100 rfl ?_
      refine g_ialdN (hM2.2.1 1 (by decide)) (by show i < 401; omega) (by decide) dX12_cutIntoTokens_101 ?_
      rw [hki]
      refine g_bipush (nI 32) dX12_cutIntoTokens_102 (by decide) ?_
      refine g_icmp_eqN 118 dX12_cutIntoTokens_104 (by decide) (by omega) (by omega) (fun c_104 => ?_) (fun c_104 => ?_)
      · exact absurd c_104 c0
      · refine g_aload_n dX12_cutIntoTokens_107 rfl ?_
        refine g_getf fl12_24 hM2.1 rfl dX12_cutIntoTokens_108 ?_
        refine g_iload_n dX12_cutIntoTokens_111 rfl ?_
        refine g_ialdN (hM2.2.1 1 (by decide)) (by show i < 401; omega) (by decide) dX12_cutIntoTokens_112 ?_
        rw [hki]
        refine g_bipush (nI 33) dX12_cutIntoTokens_113 (by decide) ?_
        refine g_icmp_neN 119 dX12_cutIntoTokens_115 (by decide) (by omega) (by omega) (fun c_115 => ?_) (fun c_115 => ?_)
        · refine g_iload_n dX12_cutIntoTokens_119 rfl ?_
          refine g_istore_n dX12_cutIntoTokens_120 (by decide) rfl ?_
          refine g_iincN dX12_cutIntoTokens_121 rfl (by decide) rfl ?_
          refine g_goto 4 dX12_cutIntoTokens_124 (by decide) ?_
          rw [he]
          exact ih (i + 1) _ h2 A2 V2 _ (by omega) (tkp_le n (A 0) (i + 1)) (tks_p n (A 0) (i + 1)).symm hM2 hMT2 hA2 hO2
        · exact absurd (by first | exact c_115 | exact Classical.not_not.mp c_115) c1
  refine g_iconst (nI 0) dX12_cutIntoTokens_0 (by decide) ?_
  refine g_istore_n dX12_cutIntoTokens_1 (by decide) rfl ?_
  refine g_iconst (nI 0) dX12_cutIntoTokens_2 (by decide) ?_
  refine g_istore_n dX12_cutIntoTokens_3 (by decide) rfl ?_
  exact loop (tkl n (A 0)) 0 0 h A V _ (by omega) (Nat.zero_le _) rfl hM (fun i hi => absurd hi (Nat.not_lt_zero _)) (fun _ _ _ _ => rfl) OffM.rf
