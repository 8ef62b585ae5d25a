/-! the tokens: their cells; blanks, texts that stand at the start of a token -/
/-- the tokens at q (the tape at q + 1): kinds, starts, ends; the last one, the one looked at, its kind, start and end -/
def TkB (X : gX) (h : gH) (q : Nat) (kf : Nat → Option Nat) (S T : Nat → Int32) (la k kd st en : Nat) : Prop := h q = some (.inr (6, [.ref (q + 1), .ref (q + 3), .ref (q + 4), .ref (q + 5), .int (nI la), .int (nI k), .ref kd, .int (nI st), .int (nI en)])) ∧ h (q + 3) = some (gRA X 2 401 kf) ∧ h (q + 4) = some (gIA X 401 S) ∧ h (q + 5) = some (gIA X 401 T)
def TkT (X : gX) (h : gH) (q n : Nat) (f : Nat → Int32) (kf : Nat → Option Nat) (S T : Nat → Int32) (la k kd st en : Nat) : Prop := TkB X h q kf S T la k kd st en ∧ TpB X h (q + 1) n f
theorem TkT.off {X : gX} {h h' : gH} {q n b m la k kd st en : Nat} {f : Nat → Int32} {kf : Nat → Option Nat} {S T : Nat → Int32} (hT : TkT X h q n f kf S T la k kd st en) (hO : OffB h h' b m) (hd : q + 6 ≤ b ∨ b + m ≤ q) : TkT X h' q n f kf S T la k kd st en :=
  ⟨⟨(hO _ (by omega)).trans hT.1.1, (hO _ (by omega)).trans hT.1.2.1, (hO _ (by omega)).trans hT.1.2.2.1, (hO _ (by omega)).trans hT.1.2.2.2⟩, hT.2.off hO (by omega)⟩
section TKP
variable {X : gX} {F : gF} {cc : ByteArray} {nL : Nat} {own : String} {R : Nat × Nat × Nat} {k n pc : Nat} {lv : List (Option Value)} {sk : List Value} {h h0 : gH} {z q N la j kd st en idx x : Nat} {f : Nat → Int32} {kf : Nat → Option Nat} {S T : Nat → Int32}

theorem tk_putl (fl : gFl own idx 6 4 RX8 TX8 9 tyX8) (hT : TkT X h q N f kf S T la j kd st en) (hO : OffB h0 h q 6) (d : decode cc pc = .ok (.putfield idx, 3)) (kk : ∀ h : gH, TkT X h q N f kf S T x j kd st en → OffB h0 h q 6 → G X F cc nL own R k n (pc + 3) lv sk h z) : G X F cc nL own R k n pc lv (.int (nI x) :: .ref q :: sk) h z :=
  g_putf fl hT.1.1 rfl rfl rfl (Nat.le_of_ble_eq_true rfl) d (kk _ ⟨⟨gset_same, (gset_ne (by omega)).trans hT.1.2.1, (gset_ne (by omega)).trans hT.1.2.2.1, (gset_ne (by omega)).trans hT.1.2.2.2⟩, (gset_ne (by omega)).trans hT.2.1, (gset_ne (by omega)).trans hT.2.2⟩ (hO.put (by omega) (by omega)))
theorem tk_puta (fl : gFl own idx 6 5 RX8 TX8 9 tyX8) (hT : TkT X h q N f kf S T la j kd st en) (hO : OffB h0 h q 6) (d : decode cc pc = .ok (.putfield idx, 3)) (kk : ∀ h : gH, TkT X h q N f kf S T la x kd st en → OffB h0 h q 6 → G X F cc nL own R k n (pc + 3) lv sk h z) : G X F cc nL own R k n pc lv (.int (nI x) :: .ref q :: sk) h z :=
  g_putf fl hT.1.1 rfl rfl rfl (Nat.le_of_ble_eq_true rfl) d (kk _ ⟨⟨gset_same, (gset_ne (by omega)).trans hT.1.2.1, (gset_ne (by omega)).trans hT.1.2.2.1, (gset_ne (by omega)).trans hT.1.2.2.2⟩, (gset_ne (by omega)).trans hT.2.1, (gset_ne (by omega)).trans hT.2.2⟩ (hO.put (by omega) (by omega)))
theorem tk_putk (fl : gFl own idx 6 6 RX8 TX8 9 tyX8) (hT : TkT X h q N f kf S T la j kd st en) (hO : OffB h0 h q 6) (d : decode cc pc = .ok (.putfield idx, 3)) (kk : ∀ h : gH, TkT X h q N f kf S T la j x st en → OffB h0 h q 6 → G X F cc nL own R k n (pc + 3) lv sk h z) : G X F cc nL own R k n pc lv (.ref x :: .ref q :: sk) h z :=
  g_putf fl hT.1.1 rfl rfl rfl (Nat.le_of_ble_eq_true rfl) d (kk _ ⟨⟨gset_same, (gset_ne (by omega)).trans hT.1.2.1, (gset_ne (by omega)).trans hT.1.2.2.1, (gset_ne (by omega)).trans hT.1.2.2.2⟩, (gset_ne (by omega)).trans hT.2.1, (gset_ne (by omega)).trans hT.2.2⟩ (hO.put (by omega) (by omega)))
theorem tk_puts (fl : gFl own idx 6 7 RX8 TX8 9 tyX8) (hT : TkT X h q N f kf S T la j kd st en) (hO : OffB h0 h q 6) (d : decode cc pc = .ok (.putfield idx, 3)) (kk : ∀ h : gH, TkT X h q N f kf S T la j kd x en → OffB h0 h q 6 → G X F cc nL own R k n (pc + 3) lv sk h z) : G X F cc nL own R k n pc lv (.int (nI x) :: .ref q :: sk) h z :=
  g_putf fl hT.1.1 rfl rfl rfl (Nat.le_of_ble_eq_true rfl) d (kk _ ⟨⟨gset_same, (gset_ne (by omega)).trans hT.1.2.1, (gset_ne (by omega)).trans hT.1.2.2.1, (gset_ne (by omega)).trans hT.1.2.2.2⟩, (gset_ne (by omega)).trans hT.2.1, (gset_ne (by omega)).trans hT.2.2⟩ (hO.put (by omega) (by omega)))
theorem tk_pute (fl : gFl own idx 6 8 RX8 TX8 9 tyX8) (hT : TkT X h q N f kf S T la j kd st en) (hO : OffB h0 h q 6) (d : decode cc pc = .ok (.putfield idx, 3)) (kk : ∀ h : gH, TkT X h q N f kf S T la j kd st x → OffB h0 h q 6 → G X F cc nL own R k n (pc + 3) lv sk h z) : G X F cc nL own R k n pc lv (.int (nI x) :: .ref q :: sk) h z :=
  g_putf fl hT.1.1 rfl rfl rfl (Nat.le_of_ble_eq_true rfl) d (kk _ ⟨⟨gset_same, (gset_ne (by omega)).trans hT.1.2.1, (gset_ne (by omega)).trans hT.1.2.2.1, (gset_ne (by omega)).trans hT.1.2.2.2⟩, (gset_ne (by omega)).trans hT.2.1, (gset_ne (by omega)).trans hT.2.2⟩ (hO.put (by omega) (by omega)))
theorem tk_astk {i : Nat} (hi : i < 401) (hx : gO X RX7 x) (hT : TkT X h q N f kf S T la j kd st en) (hO : OffB h0 h q 6) (d : decode cc pc = .ok (.aastore, 1)) (kk : ∀ h : gH, TkT X h q N f (va_up kf i (some x)) S T la j kd st en → OffB h0 h q 6 → G X F cc nL own R k n (pc + 1) lv sk h z) : G X F cc nL own R k n pc lv (.ref x :: .int (nI i) :: .ref (q + 3) :: sk) h z :=
  g_aastO hT.1.2.1 rfl hx hi (by decide) d (kk _ ⟨⟨(gset_ne (by omega)).trans hT.1.1, gset_same, (gset_ne (by omega)).trans hT.1.2.2.1, (gset_ne (by omega)).trans hT.1.2.2.2⟩, (gset_ne (by omega)).trans hT.2.1, (gset_ne (by omega)).trans hT.2.2⟩ (hO.put (by omega) (by omega)))
theorem tk_asts {i : Nat} {v : Int32} (hi : i < 401) (hT : TkT X h q N f kf S T la j kd st en) (hO : OffB h0 h q 6) (d : decode cc pc = .ok (.iastore, 1)) (kk : ∀ h : gH, TkT X h q N f kf (upd S i v) T la j kd st en → OffB h0 h q 6 → G X F cc nL own R k n (pc + 1) lv sk h z) : G X F cc nL own R k n pc lv (.int v :: .int (nI i) :: .ref (q + 4) :: sk) h z :=
  g_iastN hT.1.2.2.1 hi (by decide) d (kk _ ⟨⟨(gset_ne (by omega)).trans hT.1.1, (gset_ne (by omega)).trans hT.1.2.1, gset_same, (gset_ne (by omega)).trans hT.1.2.2.2⟩, (gset_ne (by omega)).trans hT.2.1, (gset_ne (by omega)).trans hT.2.2⟩ (hO.put (by omega) (by omega)))
theorem tk_aste {i : Nat} {v : Int32} (hi : i < 401) (hT : TkT X h q N f kf S T la j kd st en) (hO : OffB h0 h q 6) (d : decode cc pc = .ok (.iastore, 1)) (kk : ∀ h : gH, TkT X h q N f kf S (upd T i v) la j kd st en → OffB h0 h q 6 → G X F cc nL own R k n (pc + 1) lv sk h z) : G X F cc nL own R k n pc lv (.int v :: .int (nI i) :: .ref (q + 5) :: sk) h z :=
  g_iastN hT.1.2.2.2 hi (by decide) d (kk _ ⟨⟨(gset_ne (by omega)).trans hT.1.1, (gset_ne (by omega)).trans hT.1.2.1, (gset_ne (by omega)).trans hT.1.2.2.1, gset_same⟩, (gset_ne (by omega)).trans hT.2.1, (gset_ne (by omega)).trans hT.2.2⟩ (hO.put (by omega) (by omega)))
end TKP
theorem wtx : Cond.fieldLinkNest RX8 111 RX7 "text" "Ljava/lang/String;" "ParrotSquawks" ∈ lw_tbl := gm8 96 (by decide +kernel)
theorem tkT_len : ∀ c, c < 39 → (tkT.getD c []).length ≤ 7 := by decide +kernel
theorem tkT_b1 : ∀ c, c < 39 → ∀ j, j < 8 → (tkT.getD c []).getD j 0 < 128 := by decide +kernel
theorem tkT_b {c : Nat} (hc : c < 39) (j : Nat) : (tkT.getD c []).getD j 0 < 128 := by
  by_cases h : j < 8
  · exact tkT_b1 c hc j h
  · have := tkT_len c hc
    rw [List.getD_eq_getElem?_getD, List.getElem?_eq_none (by omega)]
    decide
/-- the text of token c stands at s -/
def shT (n : Nat) (f : Nat → Int32) (s c : Nat) : Bool := decide (∀ i, i < (tkT.getD c []).length → byt n f (s + i) = nI ((tkT.getD c []).getD i 0))
set_option maxRecDepth 100000 in
set_option maxHeartbeats 4000000 in
theorem m8_behindBlanks {X : gX} {h : gH} {z q n la k kd st en : Nat} {f : Nat → Int32} {kf : Nat → Option Nat} {S T : Nat → Int32} (p : Nat) (hp : p ≤ 4000) (hT : TkT X h q n f kf S T la k kd st en) (hn : n ≤ 2000) : gM X yX8_behindBlanks cX8_behindBlanks 3 (some .int) (2, 0, 0) [.ref q, .int (nI p)] h z (pR h z (nI (sce isBl n f p))) gNoX := by
  refine gM.of px8 (Nat.le_of_ble_eq_true rfl) ?_
  intro F hE
  obtain ⟨s1, s2, s3⟩ := sce_spec isBl n f p
  have hsle : sce isBl n f p ≤ p ∨ sce isBl n f p ≤ n := by
    rcases Nat.lt_or_ge n (sce isBl n f p) with g | g
    · left
      rcases Nat.lt_or_ge p (sce isBl n f p) with g2 | g2
      · rcases Nat.lt_or_ge n p with g3 | g3
        · have := (s2 p (Nat.le_refl _) g2).1; omega
        · have := (s2 n g3 g).1; omega
      · omega
    · right; exact g
  have loop : ∀ (r j : Nat), j + r = sce isBl n f p → p ≤ j → G X F cX8_behindBlanks 3 yX8_behindBlanks.cls (2, 0, 0) 0 0 2 [some (.ref q), some (.int (nI p)), some (.int (nI j))] [] h z := by
    intro r
    induction r with
    | zero =>
      intro j hj hpj
      rw [Nat.add_zero] at hj
      subst hj
      refine g_iload_n dX8_behindBlanks_2 rfl ?_
      refine g_aload_n dX8_behindBlanks_3 rfl ?_
      refine g_getf fl8_12 hT.1.1 rfl dX8_behindBlanks_4 ?_
      refine g_getf fl8_49 hT.2.1 rfl dX8_behindBlanks_7 ?_
      refine g_icmp_geN 33 dX8_behindBlanks_10 (by decide) (by omega) (by omega) (fun c_10 => ?_) (fun c_10 => ?_)
      · refine g_iload_n dX8_behindBlanks_33 rfl ?_
        exact g_iret hE rfl (⟨rfl, rfl, rfl⟩) dX8_behindBlanks_34
      · refine g_aload_n dX8_behindBlanks_13 rfl ?_
        refine g_getf fl8_12 hT.1.1 rfl dX8_behindBlanks_14 ?_
        refine g_iload_n dX8_behindBlanks_17 rfl ?_
        refine g_callV0 kX8_75 (m6_byteAt (_) (by omega) hn hT.2) hT.2.1 rfl rfl rfl (Nat.le_of_ble_eq_true rfl) (by decide) (by decide) (by decide) (by decide) dX8_behindBlanks_18 ?_
        rintro v1 h2 z1 ⟨rfl, rfl, rfl⟩
        refine g_callS0 kX8_90 (m8_isBlank _) rfl rfl (Nat.le_of_ble_eq_true rfl) (by decide) (by decide) (by decide) (by decide) dX8_behindBlanks_21 ?_
        rintro v1 h2 z1 ⟨rfl, rfl, rfl⟩
        refine g_if_eqB 33 dX8_behindBlanks_24 (by decide) (fun c_24 => ?_) (fun c_24 => ?_)
        · refine g_iload_n dX8_behindBlanks_33 rfl ?_
          exact g_iret hE rfl (⟨rfl, rfl, rfl⟩) dX8_behindBlanks_34
        · exact absurd c_24 (by rw [byt, if_pos (by omega), s3 (by omega)]; decide)
    | succ r ih =>
      intro j hj hpj
      obtain ⟨a1, a2⟩ := s2 j hpj (by omega)
      refine g_iload_n dX8_behindBlanks_2 rfl ?_
      refine g_aload_n dX8_behindBlanks_3 rfl ?_
      refine g_getf fl8_12 hT.1.1 rfl dX8_behindBlanks_4 ?_
      refine g_getf fl8_49 hT.2.1 rfl dX8_behindBlanks_7 ?_
      refine g_icmp_geN 33 dX8_behindBlanks_10 (by decide) (by omega) (by omega) (fun c_10 => ?_) (fun c_10 => ?_)
      · exact absurd c_10 (by omega)
      · refine g_aload_n dX8_behindBlanks_13 rfl ?_
        refine g_getf fl8_12 hT.1.1 rfl dX8_behindBlanks_14 ?_
        refine g_iload_n dX8_behindBlanks_17 rfl ?_
        refine g_callV0 kX8_75 (m6_byteAt (_) (by omega) hn hT.2) hT.2.1 rfl rfl rfl (Nat.le_of_ble_eq_true rfl) (by decide) (by decide) (by decide) (by decide) dX8_behindBlanks_18 ?_
        rintro v1 h2 z1 ⟨rfl, rfl, rfl⟩
        refine g_callS0 kX8_90 (m8_isBlank _) rfl rfl (Nat.le_of_ble_eq_true rfl) (by decide) (by decide) (by decide) (by decide) dX8_behindBlanks_21 ?_
        rintro v1 h2 z1 ⟨rfl, rfl, rfl⟩
        refine g_if_eqB 33 dX8_behindBlanks_24 (by decide) (fun c_24 => ?_) (fun c_24 => ?_)
        · exact absurd c_24 (by rw [byt, if_pos a1, a2]; decide)
        · refine g_iincN dX8_behindBlanks_27 rfl (by decide) rfl ?_
          refine g_goto 2 dX8_behindBlanks_30 (by decide) ?_
          exact ih (j + 1) (by omega) (by omega)
  refine g_iload_n dX8_behindBlanks_0 rfl ?_
  refine g_istore_n dX8_behindBlanks_1 (by decide) rfl ?_
  exact loop (sce isBl n f p - p) p (by omega) (Nat.le_refl _)
set_option maxRecDepth 100000 in
set_option maxHeartbeats 4000000 in
theorem m8_standsHere {X : gX} {h : gH} {z q n la k kd st en : Nat} {f : Nat → Int32} {kf : Nat → Option Nat} {S T : Nat → Int32} {K : gKo} (c : Nat) (hc : c < 39) (hK : gCo X K) (hs : st ≤ 3000) (hT : TkT X h q n f kf S T la k kd st en) (hn : n ≤ 2000) : gM X yX8_standsHere cX8_standsHere 3 (some .boolean) (4, 0, 0) [.ref q, .ref (K.2.1 c)] h z (pR h z (b2i (shT n f st c))) gNoX := by
  have hl := tkT_len c hc
  have hg := hK.2.1 c hc
  have h8 := tkT_b hc
  have hsd : shT n f st c = decide (∀ i, i < (tkT.getD c []).length → byt n f (st + i) = nI ((tkT.getD c []).getD i 0)) := rfl
  generalize tkT.getD c [] = W at hl hg h8 hsd
  refine gM.of px8 (Nat.le_of_ble_eq_true rfl) ?_
  intro F hE
  have loop : ∀ (r j : Nat), j + r = W.length → (∀ i, i < j → byt n f (st + i) = nI (W.getD i 0)) → G X F cX8_standsHere 3 yX8_standsHere.cls (4, 0, 0) 0 0 2 [some (.ref q), some (.ref (K.2.1 c)), some (.int (nI j))] [] h z := by
    intro r
    induction r with
    | zero =>
      intro j hj hm
      refine g_iload_n dX8_standsHere_2 rfl ?_
      refine g_aload_n dX8_standsHere_3 rfl ?_
      refine g_callVO0 kX8_115 (mJ0_length hK hg (by omega)) hg.1 rfl rfl (Nat.le_of_ble_eq_true rfl) (by decide) (by decide) (by decide) (by decide) dX8_standsHere_4 ?_
      rintro v1 h2 z1 ⟨rfl, rfl, rfl⟩
      refine g_icmp_geN 39 dX8_standsHere_7 (by decide) (by omega) (by omega) (fun c_7 => ?_) (fun c_7 => ?_)
      · refine g_iconst (nI 1) dX8_standsHere_39 (by decide) ?_
        exact g_iret hE rfl (⟨by rw [hsd, decide_eq_true (fun i hi => hm i (by omega))]; rfl, rfl, rfl⟩) dX8_standsHere_40
      · exact absurd c_7 (by omega)
    | succ r ih =>
      intro j hj hm
      refine g_iload_n dX8_standsHere_2 rfl ?_
      refine g_aload_n dX8_standsHere_3 rfl ?_
      refine g_callVO0 kX8_115 (mJ0_length hK hg (by omega)) hg.1 rfl rfl (Nat.le_of_ble_eq_true rfl) (by decide) (by decide) (by decide) (by decide) dX8_standsHere_4 ?_
      rintro v1 h2 z1 ⟨rfl, rfl, rfl⟩
      refine g_icmp_geN 39 dX8_standsHere_7 (by decide) (by omega) (by omega) (fun c_7 => ?_) (fun c_7 => ?_)
      · exact absurd c_7 (by omega)
      · refine g_aload_n dX8_standsHere_10 rfl ?_
        refine g_getf fl8_12 hT.1.1 rfl dX8_standsHere_11 ?_
        refine g_aload_n dX8_standsHere_14 rfl ?_
        refine g_getf fl8_46 hT.1.1 rfl dX8_standsHere_15 ?_
        refine g_iload_n dX8_standsHere_18 rfl ?_
        first | refine g_iaddN dX8_standsHere_19 ?_ | refine g_iadd dX8_standsHere_19 ?_
        refine g_callV0 kX8_75 (m6_byteAt (st + j) (by omega) hn hT.2) hT.2.1 rfl rfl rfl (Nat.le_of_ble_eq_true rfl) (by decide) (by decide) (by decide) (by decide) dX8_standsHere_20 ?_
        rintro v1 h2 z1 ⟨rfl, rfl, rfl⟩
        refine g_aload_n dX8_standsHere_23 rfl ?_
        refine g_iload_n dX8_standsHere_24 rfl ?_
        refine g_callVO0 kX8_131 (mJ0_charAt hK hg (i := j) (by omega) (by omega) h8) hg.1 rfl rfl (Nat.le_of_ble_eq_true rfl) (by decide) (by decide) (by decide) (by decide) dX8_standsHere_25 ?_
        rintro v1 h2 z1 ⟨rfl, rfl, rfl⟩
        refine g_icmp_eq 33 dX8_standsHere_28 (by decide) (fun c_28 => ?_) (fun c_28 => ?_)
        · refine g_iincN dX8_standsHere_33 rfl (by decide) rfl ?_
          refine g_goto 2 dX8_standsHere_36 (by decide) ?_
          refine ih (j + 1) (by omega) (fun i hi => ?_)
          by_cases e : i = j
          · subst e; exact c_28
          · exact hm i (by omega)
        · refine g_iconst (nI 0) dX8_standsHere_31 (by decide) ?_
          exact g_iret hE rfl (⟨by rw [hsd, decide_eq_false (fun q => c_28 (q j (by omega)))]; rfl, rfl, rfl⟩) dX8_standsHere_32
  refine g_iconst (nI 0) dX8_standsHere_0 (by decide) ?_
  refine g_istore_n dX8_standsHere_1 (by decide) rfl ?_
  exact loop W.length 0 (by omega) (fun i hi => absurd hi (Nat.not_lt_zero _))
