/-! the tokens: the tape is cut, one is looked at, its name and its number -/
def tkp (n : Nat) (f : Nat → Int32) : Nat → Nat
  | 0 => 0
  | i + 1 => tkE n f (tks n f i)
theorem tks_p (n : Nat) (f : Nat → Int32) (i : Nat) : tks n f i = sce isBl n f (tkp n f i) := by cases i <;> rfl
theorem tkE_le {n : Nat} {f : Nat → Int32} {s : Nat} (h : s ≤ n) : tkE n f s ≤ n := by
  unfold tkE
  split
  · exact h
  · split
    · exact sce_le h
    · split
      · exact sce_le h
      · rename_i h1 h2 h3
        have h4 := sy_two (b := f s) (nx := byt n f (s + 1))
        unfold syl
        split
        · rename_i h5
          have h6 := h4 h5
          rw [byt] at h6
          split at h6
          · omega
          · exact absurd h6 (by decide)
        · split <;> omega
theorem tkp_le (n : Nat) (f : Nat → Int32) : ∀ i, tkp n f i ≤ n := by
  intro i
  induction i with
  | zero => exact Nat.zero_le _
  | succ i ih =>
    show tkE n f (tks n f i) ≤ n
    rw [tks_p]
    exact tkE_le (sce_le ih)
theorem tks_le (n : Nat) (f : Nat → Int32) (i : Nat) : tks n f i ≤ n := by rw [tks_p]; exact sce_le (tkp_le n f i)
theorem tkl_uniq {n : Nat} {f : Nat → Int32} {i : Nat} (h1 : tkk n f i ≤ 1) (h2 : ∀ c, c < i → 2 ≤ tkk n f c) : tkl n f = i := by
  obtain ⟨g1, g2, g3⟩ := tkl_spec n f
  rcases Nat.lt_trichotomy (tkl n f) i with q | q | q
  · have := h2 _ q; omega
  · exact q
  · have := g3 _ q; omega
theorem tkk_400 {n : Nat} {f : Nat → Int32} {i : Nat} (h : 2 ≤ tkk n f i) : i < 400 ∧ tks n f i < n ∧ tkk n f i = tkK n f (tks n f i) := by
  unfold tkk at h
  split at h
  · omega
  · split at h
    · refine ⟨by assumption, by omega, ?_⟩
      unfold tkk
      rw [if_neg (by assumption), if_pos (by assumption)]
    · omega
/-- tokens c ahead of i stand in the rows -/
def TkR (K : gKo) (n : Nat) (f : Nat → Int32) (kf : Nat → Option Nat) (S T : Nat → Int32) (i : Nat) : Prop := ∀ c, c < i → kf c = some (K.1 (tkk n f c)) ∧ S c = nI (tks n f c) ∧ ∃ e, T c = nI e ∧ (2 ≤ tkk n f c → e = tke n f c)
/-- the tape is cut, token t is looked at -/
def TkO (X : gX) (K : gKo) (h : gH) (q n : Nat) (f : Nat → Int32) (t : Nat) : Prop := ∃ kf S T en, TkT X h q n f kf S T (tkl n f) t (K.1 (tkk n f t)) (tks n f t) en ∧ TkR K n f kf S T (tkl n f + 1) ∧ (2 ≤ tkk n f t → en = tke n f t) ∧ t ≤ tkl n f
theorem TkO.off {X : gX} {K : gKo} {h h' : gH} {q n b m t : Nat} {f : Nat → Int32} (hT : TkO X K h q n f t) (hO : OffB h h' b m) (hd : q + 6 ≤ b ∨ b + m ≤ q) : TkO X K h' q n f t := by
  obtain ⟨kf, S, T, en, h1, h2⟩ := hT
  exact ⟨kf, S, T, en, h1.off hO hd, h2⟩
set_option maxRecDepth 100000 in
set_option maxHeartbeats 4000000 in
theorem m8_lookAt {X : gX} {h : gH} {z q n k kd st en : Nat} {f : Nat → Int32} {kf : Nat → Option Nat} {S T : Nat → Int32} {K : gKo} (i : Nat) (hi : i ≤ tkl n f) (hT : TkT X h q n f kf S T (tkl n f) k kd st en) (hR : TkR K n f kf S T (tkl n f + 1)) : gM X yX8_lookAt cX8_lookAt 2 none (0, 0, 0) [.ref q, .int (nI i)] h z (fun r h' z' => r = none ∧ z' = z ∧ TkO X K h' q n f i ∧ OffB h h' q 6) gNoX := by
  have hl := (tkl_spec n f).1
  obtain ⟨r1, r2, e, r3, r4⟩ := hR i (by omega)
  have hO : OffB h h q 6 := OffB.rf
  refine gM.of px8 (Nat.le_of_ble_eq_true rfl) ?_
  intro F hE
  refine g_iload_n dX8_lookAt_0 rfl ?_
  refine g_if_ltN 46 dX8_lookAt_1 (by decide) (by omega) ?_
  refine g_iload_n dX8_lookAt_4 rfl ?_
  refine g_sipush (nI 400) dX8_lookAt_5 (by decide) ?_
  refine g_icmp_gtN 46 dX8_lookAt_8 (by decide) (by omega) (by omega) (fun c_8 => ?_) (fun c_8 => ?_)
  · exact absurd c_8 (by omega)
  · refine g_aload_n dX8_lookAt_11 rfl ?_
    refine g_iload_n dX8_lookAt_12 rfl ?_
    refine tk_puta fl8_66 hT hO dX8_lookAt_13 (fun h hT hO => ?_)
    refine g_aload_n dX8_lookAt_16 rfl ?_
    refine g_aload_n dX8_lookAt_17 rfl ?_
    refine g_getf fl8_20 hT.1.1 rfl dX8_lookAt_18 ?_
    refine g_iload_n dX8_lookAt_21 rfl ?_
    refine g_aaldN hT.1.2.1 rfl (by omega) (by decide) r1 dX8_lookAt_22 ?_
    refine tk_putk fl8_35 hT hO dX8_lookAt_23 (fun h hT hO => ?_)
    refine g_aload_n dX8_lookAt_26 rfl ?_
    refine g_aload_n dX8_lookAt_27 rfl ?_
    refine g_getf fl8_24 hT.1.1 rfl dX8_lookAt_28 ?_
    refine g_iload_n dX8_lookAt_31 rfl ?_
    refine g_ialdN hT.1.2.2.1 (by omega) (by decide) dX8_lookAt_32 ?_
    rw [r2]
    refine tk_puts fl8_46 hT hO dX8_lookAt_33 (fun h hT hO => ?_)
    refine g_aload_n dX8_lookAt_36 rfl ?_
    refine g_aload_n dX8_lookAt_37 rfl ?_
    refine g_getf fl8_28 hT.1.1 rfl dX8_lookAt_38 ?_
    refine g_iload_n dX8_lookAt_41 rfl ?_
    refine g_ialdN hT.1.2.2.2 (by omega) (by decide) dX8_lookAt_42 ?_
    rw [r3]
    refine tk_pute fl8_38 hT hO dX8_lookAt_43 (fun h hT hO => ?_)
    exact g_vret hE (⟨rfl, rfl, ⟨kf, S, T, e, hT, hR, r4, hi⟩, hO⟩) dX8_lookAt_46
set_option maxRecDepth 100000 in
set_option maxHeartbeats 4000000 in
theorem m8_advance {X : gX} {h : gH} {z q n t : Nat} {f : Nat → Int32} {K : gKo} (hlt : t < tkl n f) (hT : TkO X K h q n f t) : gM X yX8_advance cX8_advance 1 none (1, 0, 0) [.ref q] h z (fun r h' z' => r = none ∧ z' = z ∧ TkO X K h' q n f (t + 1) ∧ OffB h h' q 6) gNoX := by
  have hl := (tkl_spec n f).1
  obtain ⟨kf, S, T, en, hT, hR, -, -⟩ := hT
  refine gM.of px8 (Nat.le_of_ble_eq_true rfl) ?_
  intro F hE
  refine g_aload_n dX8_advance_0 rfl ?_
  refine g_aload_n dX8_advance_1 rfl ?_
  refine g_getf fl8_66 hT.1.1 rfl dX8_advance_2 ?_
  refine g_iconst (nI 1) dX8_advance_5 (by decide) ?_
  first | refine g_iaddN dX8_advance_6 ?_ | refine g_iadd dX8_advance_6 ?_
  refine g_aload_n dX8_advance_7 rfl ?_
  refine g_getf fl8_59 hT.1.1 rfl dX8_advance_8 ?_
  refine gmin wmath_min wlX8_69 (by decide) (Nat.le_of_ble_eq_true rfl) (by decide) (by decide) dX8_advance_11 ?_
  rw [nI_min (by omega) (by omega), show min (t + 1) (tkl n f) = t + 1 by omega]
  refine g_callV0 kX8_62 (m8_lookAt (t + 1) (by omega) hT hR) hT.1.1 rfl rfl rfl (Nat.le_of_ble_eq_true rfl) (by decide) (by decide) (by decide) (by decide) dX8_advance_14 ?_
  rintro v1 h2 z1 ⟨rfl, rfl, hT2, hO2⟩
  exact g_vret hE (⟨rfl, rfl, hT2, hO2⟩) dX8_advance_17
set_option maxRecDepth 100000 in
set_option maxHeartbeats 4000000 in
theorem m8_split {X : gX} {h : gH} {z q n la k kd st en : Nat} {f : Nat → Int32} {kf : Nat → Option Nat} {S T : Nat → Int32} {K : gKo} (hK : gCo X K) (hT : TkT X h q n f kf S T la k kd st en) (hn : n ≤ 2000) : gM X yX8_split cX8_split 2 none (7, 0, 0) [.ref q] h z (fun r h' z' => r = none ∧ z' = z ∧ TkO X K h' q n f 0 ∧ OffB h h' q 6) gNoX := by
  obtain ⟨hl4, hl1, hl2⟩ := tkl_spec n f
  refine gM.of px8 (Nat.le_of_ble_eq_true rfl) ?_
  intro F hE
  have loop : ∀ (r i : Nat) (h1 : gH) (kf : Nat → Option Nat) (S T : Nat → Int32) (la k kd st : Nat), i + r = tkl n f → TkT X h1 q n f kf S T la k kd st (tkp n f i) → TkR K n f kf S T i → OffB h h1 q 6 → G X F cX8_split 2 yX8_split.cls (7, 0, 0) 0 0 7 [some (.ref q), some (.int (nI i))] [] h1 z := by
    intro r
    induction r with
    | zero =>
      intro i h1 kf S T la k kd st hi hT hR hO
      have hil : i = tkl n f := by omega
      have hsn := tks_le n f i
      have hpn := tkp_le n f i
      have hk1 : tkk n f i ≤ 1 := by rw [hil]; exact hl1
      have hk2 : tkk n f i = if n ≤ tks n f i then 1 else 0 := by
        by_cases g : n ≤ tks n f i
        · unfold tkk; rw [if_pos g, if_pos g]
        · rw [if_neg g]
          have : tkk n f i ≠ 1 := by
            unfold tkk; rw [if_neg g]
            split
            · unfold tkK
              rw [if_neg g]
              have w1 := wcd_lt f (tks n f i) (sce bLD n f (tks n f i))
              have w2 := sy_lt (f (tks n f i)) (byt n f (tks n f i + 1))
              repeat' split
              all_goals omega
            · decide
          omega
      have j86 : ∀ (h2 : gH) (en' : Nat), TkT X h2 q n f kf S T la k (K.1 (tkk n f i)) (tks n f i) en' → OffB h h2 q 6 → G X F cX8_split 2 yX8_split.cls (7, 0, 0) 0 0 86 [some (.ref q), some (.int (nI i))] [] h2 z := by
        intro h2 en' hT hO
        have j150 : ∀ h3 : gH, TkT X h3 q n f (va_up kf i (some (K.1 (tkk n f i)))) (upd S i (nI (tks n f i))) (upd T i (nI en')) i k (K.1 (tkk n f i)) (tks n f i) en' → OffB h h3 q 6 → G X F cX8_split 2 yX8_split.cls (7, 0, 0) 0 0 150 [some (.ref q), some (.int (nI i))] [] h3 z := by
          intro h3 hT hO
          rw [hil] at hT
          have hR' : TkR K n f (va_up kf i (some (K.1 (tkk n f i)))) (upd S i (nI (tks n f i))) (upd T i (nI en')) (tkl n f + 1) := by
            intro c hc
            by_cases e : c = i
            · subst e
              exact ⟨vu_same, upd_same, en', upd_same, fun g => by omega⟩
            · obtain ⟨a1, a2, a3⟩ := hR c (by omega)
              exact ⟨(vu_ne e).trans a1, (upd_ne e).trans a2, by rw [upd_ne e]; exact a3⟩
          rw [hil] at hR'
          refine g_aload_n dX8_split_150 rfl ?_
          refine g_iconst (nI 0) dX8_split_151 (by decide) ?_
          refine g_callV0 kX8_62 (m8_lookAt 0 (Nat.zero_le _) hT hR') hT.1.1 rfl rfl rfl (Nat.le_of_ble_eq_true rfl) (by decide) (by decide) (by decide) (by decide) dX8_split_152 ?_
          rintro v1 h4 z1 ⟨rfl, rfl, hT2, hO2⟩
          exact g_vret hE (⟨rfl, rfl, hT2, hO.trans hO2⟩) dX8_split_155
        refine g_aload_n dX8_split_86 rfl ?_
        refine g_getf fl8_20 hT.1.1 rfl dX8_split_87 ?_
        refine g_iload_n dX8_split_90 rfl ?_
        refine g_aload_n dX8_split_91 rfl ?_
        refine g_getf fl8_35 hT.1.1 rfl dX8_split_92 ?_
        refine tk_astk (by omega) (hK.1 _ (tkk_lt n f i)).2.1 hT hO dX8_split_95 (fun h3 hT hO => ?_)
        refine g_aload_n dX8_split_96 rfl ?_
        refine g_getf fl8_24 hT.1.1 rfl dX8_split_97 ?_
        refine g_iload_n dX8_split_100 rfl ?_
        refine g_aload_n dX8_split_101 rfl ?_
        refine g_getf fl8_46 hT.1.1 rfl dX8_split_102 ?_
        refine tk_asts (by omega) hT hO dX8_split_105 (fun h3 hT hO => ?_)
        refine g_aload_n dX8_split_106 rfl ?_
        refine g_getf fl8_28 hT.1.1 rfl dX8_split_107 ?_
        refine g_iload_n dX8_split_110 rfl ?_
        refine g_aload_n dX8_split_111 rfl ?_
        refine g_getf fl8_38 hT.1.1 rfl dX8_split_112 ?_
        refine tk_aste (by omega) hT hO dX8_split_115 (fun h3 hT hO => ?_)
        refine g_aload_n dX8_split_116 rfl ?_
        refine g_iload_n dX8_split_117 rfl ?_
        refine tk_putl fl8_59 hT hO dX8_split_118 (fun h3 hT hO => ?_)
        refine g_aload_n dX8_split_121 rfl ?_
        refine g_getf fl8_35 hT.1.1 rfl dX8_split_122 ?_
        refine g_gets (hK.1 1 (by decide)).1 wgX8_52 dX8_split_125 ?_
        refine g_acmp_eq 150 dX8_split_128 (by decide) (fun c_128 => ?_) (fun c_128 => ?_)
        · exact j150 _ hT hO
        · refine g_aload_n dX8_split_131 rfl ?_
          refine g_getf fl8_35 hT.1.1 rfl dX8_split_132 ?_
          refine g_gets (hK.1 0 (by decide)).1 wgX8_31 dX8_split_135 ?_
          refine g_acmp_ne 144 dX8_split_138 (by decide) (fun c_138 => ?_) (fun c_138 => ?_)
          · exact absurd ((hK.sm (tkk_lt n f i) (by decide)).mpr (show tkk n f i = 0 from by have : tkk n f i ≠ 1 := fun e => c_128 ((hK.sm (tkk_lt n f i) (by decide)).mpr e); omega)) c_138
          · refine g_goto 150 dX8_split_141 (by decide) ?_
            exact j150 _ hT hO
      refine g_iload_n dX8_split_7 rfl ?_
      refine g_sipush (nI 400) dX8_split_8 (by decide) ?_
      refine g_icmp_gtN 150 dX8_split_11 (by decide) (by omega) (by omega) (fun c_11 => ?_) (fun c_11 => ?_)
      · exact absurd c_11 (by omega)
      · refine g_aload_n dX8_split_14 rfl ?_
        refine g_aload_n dX8_split_15 rfl ?_
        refine g_aload_n dX8_split_16 rfl ?_
        refine g_getf fl8_38 hT.1.1 rfl dX8_split_17 ?_
        refine g_callV0 kX8_42 (m8_behindBlanks _ (by omega) hT hn) hT.1.1 rfl rfl rfl (Nat.le_of_ble_eq_true rfl) (by decide) (by decide) (by decide) (by decide) dX8_split_20 ?_
        rintro v1 h2 z1 ⟨rfl, rfl, rfl⟩
        rw [← tks_p]
        refine tk_puts fl8_46 hT hO dX8_split_23 (fun h3 hT hO => ?_)
        refine g_aload_n dX8_split_26 rfl ?_
        refine g_aload_n dX8_split_27 rfl ?_
        refine g_getf fl8_46 hT.1.1 rfl dX8_split_28 ?_
        refine tk_pute fl8_38 hT hO dX8_split_31 (fun h3 hT hO => ?_)
        refine g_aload_n dX8_split_34 rfl ?_
        refine g_aload_n dX8_split_35 rfl ?_
        refine g_getf fl8_46 hT.1.1 rfl dX8_split_36 ?_
        refine g_aload_n dX8_split_39 rfl ?_
        refine g_getf fl8_12 hT.1.1 rfl dX8_split_40 ?_
        refine g_getf fl8_49 hT.2.1 rfl dX8_split_43 ?_
        refine g_icmp_ltN 55 dX8_split_46 (by decide) (by omega) (by omega) (fun c_46 => ?_) (fun c_46 => ?_)
        · refine g_gets (hK.1 0 (by decide)).1 wgX8_31 dX8_split_55 ?_
          refine tk_putk fl8_35 hT hO dX8_split_58 (fun h3 hT hO => ?_)
          refine g_aload_n dX8_split_61 rfl ?_
          refine g_getf fl8_35 hT.1.1 rfl dX8_split_62 ?_
          refine g_gets (hK.1 0 (by decide)).1 wgX8_31 dX8_split_65 ?_
          refine g_acmp_ne 86 dX8_split_68 (by decide) (fun c_68 => ?_) (fun c_68 => ?_)
          · exact absurd rfl c_68
          · refine g_iload_n dX8_split_71 rfl ?_
            refine g_sipush (nI 400) dX8_split_72 (by decide) ?_
            refine g_icmp_geN 86 dX8_split_75 (by decide) (by omega) (by omega) (fun c_75 => ?_) (fun c_75 => ?_)
            · exact j86 _ _ (by rw [show tkk n f i = 0 from by rw [hk2, if_neg (by omega)]]; exact hT) hO
            · refine g_aload_n dX8_split_78 rfl ?_
              refine g_aload_n dX8_split_79 rfl ?_
              refine g_callV0 kX8_55 (m8_readToken hK (by omega) rfl hT hn) hT.1.1 rfl rfl rfl (Nat.le_of_ble_eq_true rfl) (by decide) (by decide) (by decide) (by decide) dX8_split_80 ?_
              rintro v1 h2 z1 ⟨rfl, rfl, hT, hO2⟩
              have hO := hO.trans hO2
              refine tk_putk fl8_35 hT hO dX8_split_83 (fun h3 hT hO => ?_)
              rw [show tkK n f (tks n f i) = tkk n f i from by unfold tkk; rw [if_neg (by omega), if_pos (by omega)]] at hT
              exact j86 _ _ hT hO
        · refine g_gets (hK.1 1 (by decide)).1 wgX8_52 dX8_split_49 ?_
          refine g_goto 58 dX8_split_52 (by decide) ?_
          refine tk_putk fl8_35 hT hO dX8_split_58 (fun h3 hT hO => ?_)
          refine g_aload_n dX8_split_61 rfl ?_
          refine g_getf fl8_35 hT.1.1 rfl dX8_split_62 ?_
          refine g_gets (hK.1 0 (by decide)).1 wgX8_31 dX8_split_65 ?_
          refine g_acmp_ne 86 dX8_split_68 (by decide) (fun c_68 => ?_) (fun c_68 => ?_)
          · exact j86 _ _ (by rw [show tkk n f i = 1 from by rw [hk2, if_pos (by omega)]]; exact hT) hO
          · exact absurd ((hK.sm (by decide) (by decide)).mp c_68) (by decide)
    | succ r ih =>
      intro i h1 kf S T la k kd st hi hT hR hO
      have hil : i < tkl n f := by omega
      have hsn := tks_le n f i
      have hpn := tkp_le n f i
      have hk2 := hl2 i hil
      obtain ⟨k4, k5, k6⟩ := tkk_400 hk2
      refine g_iload_n dX8_split_7 rfl ?_
      refine g_sipush (nI 400) dX8_split_8 (by decide) ?_
      refine g_icmp_gtN 150 dX8_split_11 (by decide) (by omega) (by omega) (fun c_11 => ?_) (fun c_11 => ?_)
      · exact absurd c_11 (by omega)
      · refine g_aload_n dX8_split_14 rfl ?_
        refine g_aload_n dX8_split_15 rfl ?_
        refine g_aload_n dX8_split_16 rfl ?_
        refine g_getf fl8_38 hT.1.1 rfl dX8_split_17 ?_
        refine g_callV0 kX8_42 (m8_behindBlanks _ (by omega) hT hn) hT.1.1 rfl rfl rfl (Nat.le_of_ble_eq_true rfl) (by decide) (by decide) (by decide) (by decide) dX8_split_20 ?_
        rintro v1 h2 z1 ⟨rfl, rfl, rfl⟩
        rw [← tks_p]
        refine tk_puts fl8_46 hT hO dX8_split_23 (fun h3 hT hO => ?_)
        refine g_aload_n dX8_split_26 rfl ?_
        refine g_aload_n dX8_split_27 rfl ?_
        refine g_getf fl8_46 hT.1.1 rfl dX8_split_28 ?_
        refine tk_pute fl8_38 hT hO dX8_split_31 (fun h3 hT hO => ?_)
        refine g_aload_n dX8_split_34 rfl ?_
        refine g_aload_n dX8_split_35 rfl ?_
        refine g_getf fl8_46 hT.1.1 rfl dX8_split_36 ?_
        refine g_aload_n dX8_split_39 rfl ?_
        refine g_getf fl8_12 hT.1.1 rfl dX8_split_40 ?_
        refine g_getf fl8_49 hT.2.1 rfl dX8_split_43 ?_
        refine g_icmp_ltN 55 dX8_split_46 (by decide) (by omega) (by omega) (fun c_46 => ?_) (fun c_46 => ?_)
        · refine g_gets (hK.1 0 (by decide)).1 wgX8_31 dX8_split_55 ?_
          refine tk_putk fl8_35 hT hO dX8_split_58 (fun h3 hT hO => ?_)
          refine g_aload_n dX8_split_61 rfl ?_
          refine g_getf fl8_35 hT.1.1 rfl dX8_split_62 ?_
          refine g_gets (hK.1 0 (by decide)).1 wgX8_31 dX8_split_65 ?_
          refine g_acmp_ne 86 dX8_split_68 (by decide) (fun c_68 => ?_) (fun c_68 => ?_)
          · exact absurd ((hK.sm (by decide) (by decide)).mpr rfl) c_68
          · refine g_iload_n dX8_split_71 rfl ?_
            refine g_sipush (nI 400) dX8_split_72 (by decide) ?_
            refine g_icmp_geN 86 dX8_split_75 (by decide) (by omega) (by omega) (fun c_75 => ?_) (fun c_75 => ?_)
            · exact absurd c_75 (by omega)
            · refine g_aload_n dX8_split_78 rfl ?_
              refine g_aload_n dX8_split_79 rfl ?_
              refine g_callV0 kX8_55 (m8_readToken hK (by omega) rfl hT hn) hT.1.1 rfl rfl rfl (Nat.le_of_ble_eq_true rfl) (by decide) (by decide) (by decide) (by decide) dX8_split_80 ?_
              rintro v1 h2 z1 ⟨rfl, rfl, hT, hO2⟩
              have hO := hO.trans hO2
              refine tk_putk fl8_35 hT hO dX8_split_83 (fun h3 hT hO => ?_)
              rw [← k6] at hT
              refine g_aload_n dX8_split_86 rfl ?_
              refine g_getf fl8_20 hT.1.1 rfl dX8_split_87 ?_
              refine g_iload_n dX8_split_90 rfl ?_
              refine g_aload_n dX8_split_91 rfl ?_
              refine g_getf fl8_35 hT.1.1 rfl dX8_split_92 ?_
              refine tk_astk (by omega) (hK.1 _ (tkk_lt n f i)).2.1 hT hO dX8_split_95 (fun h3 hT hO => ?_)
              refine g_aload_n dX8_split_96 rfl ?_
              refine g_getf fl8_24 hT.1.1 rfl dX8_split_97 ?_
              refine g_iload_n dX8_split_100 rfl ?_
              refine g_aload_n dX8_split_101 rfl ?_
              refine g_getf fl8_46 hT.1.1 rfl dX8_split_102 ?_
              refine tk_asts (by omega) hT hO dX8_split_105 (fun h3 hT hO => ?_)
              refine g_aload_n dX8_split_106 rfl ?_
              refine g_getf fl8_28 hT.1.1 rfl dX8_split_107 ?_
              refine g_iload_n dX8_split_110 rfl ?_
              refine g_aload_n dX8_split_111 rfl ?_
              refine g_getf fl8_38 hT.1.1 rfl dX8_split_112 ?_
              refine tk_aste (by omega) hT hO dX8_split_115 (fun h3 hT hO => ?_)
              refine g_aload_n dX8_split_116 rfl ?_
              refine g_iload_n dX8_split_117 rfl ?_
              refine tk_putl fl8_59 hT hO dX8_split_118 (fun h3 hT hO => ?_)
              refine g_aload_n dX8_split_121 rfl ?_
              refine g_getf fl8_35 hT.1.1 rfl dX8_split_122 ?_
              refine g_gets (hK.1 1 (by decide)).1 wgX8_52 dX8_split_125 ?_
              refine g_acmp_eq 150 dX8_split_128 (by decide) (fun c_128 => ?_) (fun c_128 => ?_)
              · exact absurd ((hK.sm (tkk_lt n f i) (by decide)).mp c_128) (by omega)
              · refine g_aload_n dX8_split_131 rfl ?_
                refine g_getf fl8_35 hT.1.1 rfl dX8_split_132 ?_
                refine g_gets (hK.1 0 (by decide)).1 wgX8_31 dX8_split_135 ?_
                refine g_acmp_ne 144 dX8_split_138 (by decide) (fun c_138 => ?_) (fun c_138 => ?_)
                · refine g_iincN dX8_split_144 rfl (by decide) rfl ?_
                  refine g_goto 7 dX8_split_147 (by decide) ?_
                  refine ih (i + 1) _ _ _ _ _ _ _ _ (by omega) hT (fun c hc => ?_) hO
                  by_cases e : c = i
                  · subst e
                    exact ⟨vu_same, upd_same, _, upd_same, fun _ => rfl⟩
                  · obtain ⟨a1, a2, a3⟩ := hR c (by omega)
                    exact ⟨(vu_ne e).trans a1, (upd_ne e).trans a2, by rw [upd_ne e]; exact a3⟩
                · exact absurd ((hK.sm (tkk_lt n f i) (by decide)).mp c_138) (by omega)
        · exact absurd c_46 (by omega)
  refine g_aload_n dX8_split_0 rfl ?_
  refine g_iconst (nI 0) dX8_split_1 (by decide) ?_
  refine tk_pute (x := 0) fl8_38 hT OffB.rf dX8_split_2 (fun h3 hT hO => ?_)
  refine g_iconst (nI 0) dX8_split_5 (by decide) ?_
  refine g_istore_n dX8_split_6 (by decide) rfl ?_
  exact loop (tkl n f) 0 _ _ _ _ _ _ _ _ (by omega) hT (fun c hc => absurd hc (Nat.not_lt_zero _)) hO
/-- the signs of a token that is a name or a word or a number -/
theorem tok_word {n : Nat} {f : Nat → Int32} {t : Nat} (h : tkk n f t = 2) : tks n f t < tke n f t ∧ tke n f t ≤ n ∧ tke n f t - tks n f t ≤ 10 ∧ isLe (f (tks n f t)) = true ∧ ∀ i, tks n f t ≤ i → i < tke n f t → bLD (f i) = true := by
  obtain ⟨h1, h2, h3⟩ := tkk_400 (show 2 ≤ tkk n f t by omega)
  rw [h3] at h
  unfold tke
  have hle : isLe (f (tks n f t)) = true := by
    cases e : isLe (f (tks n f t)) with
    | true => rfl
    | false =>
      unfold tkK at h
      rw [if_neg (by omega), e, if_neg (by decide)] at h
      have := sy_lt (f (tks n f t)) (byt n f (tks n f t + 1))
      split at h
      · split at h <;> omega
      · omega
  obtain ⟨s1, s2, s3⟩ := sce_spec bLD n f (tks n f t)
  have s5 := sce_step (P := bLD) (f := f) h2 (by unfold bLD; rw [hle]; rfl)
  have s6 := (sce_spec bLD n f (tks n f t + 1)).1
  unfold tkK at h
  rw [if_neg (by omega), if_pos hle] at h
  rw [show tkE n f (tks n f t) = sce bLD n f (tks n f t) from by unfold tkE; rw [if_neg (by omega), if_pos hle]]
  refine ⟨by omega, sce_le (by omega), ?_, hle, fun i a b => (s2 i a b).2⟩
  split at h
  · omega
  · omega
theorem tok_num {n : Nat} {f : Nat → Int32} {t : Nat} (h : tkk n f t = 3) : tks n f t < n ∧ tks n f t ≤ tke n f t ∧ tke n f t ≤ n ∧ tke n f t - tks n f t ≤ 6 ∧ isLe (f (tks n f t)) = false ∧ isDi (f (tks n f t)) = true ∧ ∀ i, tks n f t ≤ i → i < tke n f t → isDi (f i) = true := by
  obtain ⟨h1, h2, h3⟩ := tkk_400 (show 2 ≤ tkk n f t by omega)
  rw [h3] at h
  unfold tke
  have hle : isLe (f (tks n f t)) = false ∧ isDi (f (tks n f t)) = true := by
    unfold tkK at h
    rw [if_neg (by omega)] at h
    have w1 := wcd_lt f (tks n f t) (sce bLD n f (tks n f t))
    have := sy_lt (f (tks n f t)) (byt n f (tks n f t + 1))
    split at h
    · split at h <;> omega
    · rename_i e
      split at h
      · rename_i e2; exact ⟨by simpa using e, e2⟩
      · omega
  obtain ⟨s1, s2, s3⟩ := sce_spec isDi n f (tks n f t)
  unfold tkK at h
  rw [if_neg (by omega), if_neg (by rw [hle.1]; decide), if_pos hle.2] at h
  rw [show tkE n f (tks n f t) = sce isDi n f (tks n f t) from by unfold tkE; rw [if_neg (by omega), if_neg (by rw [hle.1]; decide), if_pos hle.2]]
  refine ⟨h2, s1, sce_le (by omega), ?_, hle.1, hle.2, fun i a b => (s2 i a b).2⟩
  split at h
  · omega
  · omega
/-- the name of token t, its number -/
def tkn (n : Nat) (f : Nat → Int32) (t : Nat) : List Nat := nmD f (tks n f t) (tke n f t)
def tku (n : Nat) (f : Nat → Int32) (t : Nat) : Nat := nuV f (tks n f t) (tke n f t)
/-- a name with a digit -/
def hsD (D : List Nat) : Bool := D.any (fun d => decide (26 < d))
theorem sgD_dig {x : Int32} (h : bLD x = true) : decide (26 < sgD x) = isDi x := by
  unfold sgD
  by_cases e : isLe x = true
  · rw [if_pos e]
    obtain ⟨h1, h2, h3⟩ := isLe_nat e
    have : isDi x = false := by
      rw [h3]
      refine decide_eq_false (fun q => ?_)
      rw [nI_leI (by decide) (by omega), nI_leI (by omega) (by decide)] at q
      omega
    rw [this]
    exact decide_eq_false (by omega)
  · rw [if_neg e]
    unfold bLD at h
    rw [Bool.or_eq_true] at h
    have hd := h.resolve_left e
    obtain ⟨h1, h2, h3⟩ := isDi_nat hd
    rw [hd]
    exact decide_eq_true (by omega)
set_option maxRecDepth 100000 in
set_option maxHeartbeats 4000000 in
theorem m8_number {X : gX} {h : gH} {z q n t : Nat} {f : Nat → Int32} {K : gKo} (hk : tkk n f t = 3) (hn : n ≤ 2000) (hT : TkO X K h q n f t) : gM X yX8_number cX8_number 3 (some .int) (2, 0, 0) [.ref q] h z (pR h z (nI (tku n f t))) gNoX := by
  obtain ⟨kf, S, T, en, hT, hR, hen, hle⟩ := hT
  have hen := hen (by omega)
  subst hen
  obtain ⟨t1, t2, t3, t4, t5, t6, t7⟩ := tok_num hk
  refine gM.of px8 (Nat.le_of_ble_eq_true rfl) ?_
  intro F hE
  have loop : ∀ (r j : Nat), j + r = tke n f t → tks n f t ≤ j → G X F cX8_number 3 yX8_number.cls (2, 0, 0) 0 0 7 [some (.ref q), some (.int (nI (nuV f (tks n f t) j))), some (.int (nI j))] [] h z := by
    intro r
    induction r with
    | zero =>
      intro j hj hpj
      rw [Nat.add_zero] at hj
      subst hj
      refine g_iload_n dX8_number_7 rfl ?_
      refine g_aload_n dX8_number_8 rfl ?_
      refine g_getf fl8_38 hT.1.1 rfl dX8_number_9 ?_
      refine g_icmp_geN 38 dX8_number_12 (by decide) (by omega) (by omega) (fun c_12 => ?_) (fun c_12 => ?_)
      · refine g_iload_n dX8_number_38 rfl ?_
        exact g_iret hE rfl (⟨rfl, rfl, rfl⟩) dX8_number_39
      · exact absurd c_12 (by omega)
    | succ r ih =>
      intro j hj hpj
      obtain ⟨d1, d2, d3⟩ := isDi_nat (t7 j hpj (by omega))
      have hb : byt n f j = nI (f j).toNatClampNeg := by rw [byt, if_pos (by omega)]; exact d3
      have hap := nuV_app (f := f) hpj
      refine g_iload_n dX8_number_7 rfl ?_
      refine g_aload_n dX8_number_8 rfl ?_
      refine g_getf fl8_38 hT.1.1 rfl dX8_number_9 ?_
      refine g_icmp_geN 38 dX8_number_12 (by decide) (by omega) (by omega) (fun c_12 => ?_) (fun c_12 => ?_)
      · exact absurd c_12 (by omega)
      · refine g_iload_n dX8_number_15 rfl ?_
        refine g_bipush (nI 10) dX8_number_16 (by decide) ?_
        first | refine g_imulN dX8_number_18 ?_ | refine g_imul dX8_number_18 ?_
        refine g_aload_n dX8_number_19 rfl ?_
        refine g_getf fl8_12 hT.1.1 rfl dX8_number_20 ?_
        refine g_iload_n dX8_number_23 rfl ?_
        refine g_callV0 kX8_75 (m6_byteAt (_) (by omega) hn hT.2) hT.2.1 rfl rfl rfl (Nat.le_of_ble_eq_true rfl) (by decide) (by decide) (by decide) (by decide) dX8_number_24 ?_
        rintro v1 h2 z1 ⟨rfl, rfl, rfl⟩
        rw [hb]
        first | refine g_iaddN dX8_number_27 ?_ | refine g_iadd dX8_number_27 ?_
        refine g_bipush (nI 48) dX8_number_28 (by decide) ?_
        first | refine g_isubN dX8_number_30 (by omega) ?_ | refine g_isub dX8_number_30 ?_
        rw [show nuV f (tks n f t) j * 10 + (f j).toNatClampNeg - 48 = nuV f (tks n f t) (j + 1) by omega]
        refine g_istore_n dX8_number_31 (by decide) rfl ?_
        refine g_iincN dX8_number_32 rfl (by decide) rfl ?_
        refine g_goto 7 dX8_number_35 (by decide) ?_
        exact ih (j + 1) (by omega) (by omega)
  refine g_iconst (nI 0) dX8_number_0 (by decide) ?_
  refine g_istore_n dX8_number_1 (by decide) rfl ?_
  refine g_aload_n dX8_number_2 rfl ?_
  refine g_getf fl8_46 hT.1.1 rfl dX8_number_3 ?_
  refine g_istore_n dX8_number_6 (by decide) rfl ?_
  rw [show nI 0 = nI (nuV f (tks n f t) (tks n f t)) by rw [nuV_self]]
  exact loop (tke n f t - tks n f t) (tks n f t) (by omega) (Nat.le_refl _)
set_option maxRecDepth 100000 in
set_option maxHeartbeats 4000000 in
theorem m8_hasDigit {X : gX} {h : gH} {z q n t : Nat} {f : Nat → Int32} {K : gKo} (hk : tkk n f t = 2) (hn : n ≤ 2000) (hT : TkO X K h q n f t) : gM X yX8_hasDigit cX8_hasDigit 2 (some .boolean) (2, 0, 0) [.ref q] h z (pR h z (b2i (hsD (tkn n f t)))) gNoX := by
  obtain ⟨kf, S, T, en, hT, hR, hen, hle⟩ := hT
  have hen := hen (by omega)
  subst hen
  obtain ⟨t1, t2, t3, t4, t5⟩ := tok_word hk
  refine gM.of px8 (Nat.le_of_ble_eq_true rfl) ?_
  intro F hE
  have hmem : ∀ j, tks n f t ≤ j → j < tke n f t → sgD (f j) ∈ tkn n f t := fun j a b => List.mem_map.mpr ⟨j - tks n f t, List.mem_range.mpr (by omega), by rw [show tks n f t + (j - tks n f t) = j by omega]⟩
  have loop : ∀ (r j : Nat), j + r = tke n f t → tks n f t ≤ j → (∀ i, tks n f t ≤ i → i < j → isDi (f i) = false) → G X F cX8_hasDigit 2 yX8_hasDigit.cls (2, 0, 0) 0 0 5 [some (.ref q), some (.int (nI j))] [] h z := by
    intro r
    induction r with
    | zero =>
      intro j hj hpj hm
      rw [Nat.add_zero] at hj
      subst hj
      refine g_iload_n dX8_hasDigit_5 rfl ?_
      refine g_aload_n dX8_hasDigit_6 rfl ?_
      refine g_getf fl8_38 hT.1.1 rfl dX8_hasDigit_7 ?_
      refine g_icmp_geN 35 dX8_hasDigit_10 (by decide) (by omega) (by omega) (fun c_10 => ?_) (fun c_10 => ?_)
      · refine g_iconst (nI 0) dX8_hasDigit_35 (by decide) ?_
        exact g_iret hE rfl (⟨by
          rw [show hsD (tkn n f t) = false from ?_]
          · rfl
          · refine List.any_eq_false.mpr (fun d hd => ?_)
            obtain ⟨i, hi, rfl⟩ := List.mem_map.mp hd
            have := List.mem_range.mp hi
            rw [sgD_dig (t5 _ (by omega) (by omega)), hm _ (by omega) (by omega)]
            decide, rfl, rfl⟩) dX8_hasDigit_36
      · exact absurd c_10 (by omega)
    | succ r ih =>
      intro j hj hpj hm
      have hb : byt n f j = f j := by rw [byt, if_pos (by omega)]
      refine g_iload_n dX8_hasDigit_5 rfl ?_
      refine g_aload_n dX8_hasDigit_6 rfl ?_
      refine g_getf fl8_38 hT.1.1 rfl dX8_hasDigit_7 ?_
      refine g_icmp_geN 35 dX8_hasDigit_10 (by decide) (by omega) (by omega) (fun c_10 => ?_) (fun c_10 => ?_)
      · exact absurd c_10 (by omega)
      · refine g_aload_n dX8_hasDigit_13 rfl ?_
        refine g_getf fl8_12 hT.1.1 rfl dX8_hasDigit_14 ?_
        refine g_iload_n dX8_hasDigit_17 rfl ?_
        refine g_callV0 kX8_75 (m6_byteAt (_) (by omega) hn hT.2) hT.2.1 rfl rfl rfl (Nat.le_of_ble_eq_true rfl) (by decide) (by decide) (by decide) (by decide) dX8_hasDigit_18 ?_
        rintro v1 h2 z1 ⟨rfl, rfl, rfl⟩
        rw [hb]
        refine g_callS0 kX8_78 (m8_isDigit _) rfl rfl (Nat.le_of_ble_eq_true rfl) (by decide) (by decide) (by decide) (by decide) dX8_hasDigit_21 ?_
        rintro v1 h2 z1 ⟨rfl, rfl, rfl⟩
        refine g_if_eqB 29 dX8_hasDigit_24 (by decide) (fun c_24 => ?_) (fun c_24 => ?_)
        · refine g_iincN dX8_hasDigit_29 rfl (by decide) rfl ?_
          refine g_goto 5 dX8_hasDigit_32 (by decide) ?_
          refine ih (j + 1) (by omega) (by omega) (fun i a b => ?_)
          by_cases e : i = j
          · subst e; exact c_24
          · exact hm i a (by omega)
        · refine g_iconst (nI 1) dX8_hasDigit_27 (by decide) ?_
          exact g_iret hE rfl (⟨by
            rw [show hsD (tkn n f t) = true from ?_]
            · rfl
            · exact List.any_eq_true.mpr ⟨_, hmem j hpj (by omega), by rw [sgD_dig (t5 j hpj (by omega))]; exact c_24⟩, rfl, rfl⟩) dX8_hasDigit_28
  refine g_aload_n dX8_hasDigit_0 rfl ?_
  refine g_getf fl8_46 hT.1.1 rfl dX8_hasDigit_1 ?_
  refine g_istore_n dX8_hasDigit_4 (by decide) rfl ?_
  exact loop (tke n f t - tks n f t) (tks n f t) (by omega) (Nat.le_refl _) (fun i a b => by omega)
