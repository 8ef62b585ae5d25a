/-! the reference: its plan, insults in the letters -/
def po (k : Nat) : Nat := [2, 3, 4, 5, 7, 8, 9, 10, 11].getD k 0
def pz (k : Nat) : Nat := [8, 80, 16, 16, 16, 16, 16, 800, 800].getD k 0
abbrev mpF (q : Nat) (J : Nat → Int32) : List Value := [.int (J 0), .ref (q + 1), .ref (q + 2), .ref (q + 3), .int (J 1), .ref (q + 4), .ref (q + 5), .ref (q + 6), .ref (q + 7), .ref (q + 8), .ref (q + 9), .ref (q + 10), .ref (q + 11), .int (J 2)]
/-- a plan of the reference at q; J: insults, orders, many; B: letters, said, does, whom, sum, begins, ends, order, with; U: insult, W: word -/
def MpB (X : gX) (h : gH) (q : Nat) (J : Nat → Int32) (B : Nat → Nat → Int32) (U W : Nat → Int64) : Prop := h q = some (.inr (9, mpF q J)) ∧ (∀ k, k < 9 → h (q + po k) = some (gIA X (pz k) (B k))) ∧ h (q + 1) = some (gJA X 8 U) ∧ h (q + 6) = some (gJA X 16 W)
/-- insult i of the plan is the word W -/
def MpW (B : Nat → Nat → Int32) (i : Nat) (W : List Int32) : Prop := i < 8 ∧ W.length ≤ 10 ∧ B 0 i = nI W.length ∧ ∀ k, k < W.length → B 1 (10 * i + k) = lt W k
set_option maxRecDepth 100000 in
set_option maxHeartbeats 4000000 in
theorem m12_stands {X : gX} {h : gH} {z m pl : Nat} {I : Nat → Int32} {A : Nat → Nat → Int32} {V : Nat → Int64} {L : List Int32} {J : Nat → Int32} {B : Nat → Nat → Int32} {U1 U2 : Nat → Int64} {W : List Int32} (i : Nat) (hP : MpB X h pl J B U1 U2) (hW : MpW B i W) (p : Nat) (hp : p ≤ L.length) (hM : MdB X h m L.length pl I A V) (hn : L.length ≤ 40) (hA : ∀ i, i < L.length → A 5 i = lt L i) : gM X yX12_stands cX12_stands 4 (some .boolean) (1, 0, 0) [.ref m, .int (nI i), .int (nI p)] h z (pR h z (b2i (stands L W p))) gNoX := by
  obtain ⟨hi8, hw10, hW0, hW1⟩ := id hW
  refine gM.of px12 (Nat.le_of_ble_eq_true rfl) ?_
  intro F hE
  have loop : ∀ (r j : Nat), j + r = W.length → p + W.length ≤ L.length → (∀ i, i < j → lt L (p + i) = lt W i) → G X F cX12_stands 4 yX12_stands.cls (1, 0, 0) 0 0 22 [some (.ref m), some (.int (nI i)), some (.int (nI p)), some (.int (nI j))] [] h z := by
    intro r
    induction r with
    | zero =>
      intro j hj hpw hm
      refine g_iload_n dX12_stands_22 rfl ?_
      refine g_aload_n dX12_stands_23 rfl ?_
      refine g_getf fl12_20 hM.1 rfl dX12_stands_24 ?_
      refine g_getfN fl12_82 hP.1 rfl dX12_stands_27 ?_
      refine g_iload_n dX12_stands_30 rfl ?_
      refine g_ialdN (hP.2.1 0 (by decide)) (by show i < 8; omega) (by decide) dX12_stands_31 ?_
      rw [hW0]
      refine g_icmp_geN 68 dX12_stands_32 (by decide) (by omega) (by omega) (fun c_32 => ?_) (fun c_32 => ?_)
      · refine g_iconst (nI 1) dX12_stands_68 (by decide) ?_
        exact g_iret hE rfl (⟨by rw [b2i_t (show stands L W p = true from decide_eq_true ⟨hpw, fun i hi => hm i (by omega)⟩)]; rfl, rfl, rfl⟩) dX12_stands_69
      · exact absurd c_32 (by omega)
    | succ r ih =>
      intro j hj hpw hm
      refine g_iload_n dX12_stands_22 rfl ?_
      refine g_aload_n dX12_stands_23 rfl ?_
      refine g_getf fl12_20 hM.1 rfl dX12_stands_24 ?_
      refine g_getfN fl12_82 hP.1 rfl dX12_stands_27 ?_
      refine g_iload_n dX12_stands_30 rfl ?_
      refine g_ialdN (hP.2.1 0 (by decide)) (by show i < 8; omega) (by decide) dX12_stands_31 ?_
      rw [hW0]
      refine g_icmp_geN 68 dX12_stands_32 (by decide) (by omega) (by omega) (fun c_32 => ?_) (fun c_32 => ?_)
      · exact absurd c_32 (by omega)
      · refine g_aload_n dX12_stands_35 rfl ?_
        refine g_getf fl12_40 hM.1 rfl dX12_stands_36 ?_
        refine g_iload_n dX12_stands_39 rfl ?_
        refine g_iload_n dX12_stands_40 rfl ?_
        first | refine g_iaddN dX12_stands_41 ?_ | refine g_iadd dX12_stands_41 ?_
        refine g_ialdN (hM.2.1 5 (by decide)) (by show _ < 40; omega) (by decide) dX12_stands_42 ?_
        refine g_aload_n dX12_stands_43 rfl ?_
        refine g_getf fl12_20 hM.1 rfl dX12_stands_44 ?_
        refine g_getfN fl12_85 hP.1 rfl dX12_stands_47 ?_
        refine g_bipush (nI 10) dX12_stands_50 (by decide) ?_
        refine g_iload_n dX12_stands_52 rfl ?_
        first | refine g_imulN dX12_stands_53 ?_ | refine g_imul dX12_stands_53 ?_
        refine g_iload_n dX12_stands_54 rfl ?_
        first | refine g_iaddN dX12_stands_55 ?_ | refine g_iadd dX12_stands_55 ?_
        refine g_ialdN (hP.2.1 1 (by decide)) (by show _ < 80; omega) (by decide) dX12_stands_56 ?_
        rw [hA _ (by omega), hW1 _ (by omega)]
        refine g_icmp_eq 62 dX12_stands_57 (by decide) (fun c_57 => ?_) (fun c_57 => ?_)
        · refine g_iincN dX12_stands_62 rfl (by decide) rfl ?_
          refine g_goto 22 dX12_stands_65 (by decide) ?_
          refine ih (j + 1) (by omega) hpw (fun i hi => ?_)
          by_cases e : i = j
          · subst e; exact c_57
          · exact hm i (by omega)
        · refine g_iconst (nI 0) dX12_stands_60 (by decide) ?_
          exact g_iret hE rfl (⟨by rw [b2i_f (show stands L W p = false from decide_eq_false (fun x => c_57 (x.2 j (by omega))))]; rfl, rfl, rfl⟩) dX12_stands_61
  refine g_iload_n dX12_stands_0 rfl ?_
  refine g_aload_n dX12_stands_1 rfl ?_
  refine g_getf fl12_20 hM.1 rfl dX12_stands_2 ?_
  refine g_getfN fl12_82 hP.1 rfl dX12_stands_5 ?_
  refine g_iload_n dX12_stands_8 rfl ?_
  refine g_ialdN (hP.2.1 0 (by decide)) (by show i < 8; omega) (by decide) dX12_stands_9 ?_
  rw [hW0]
  first | refine g_iaddN dX12_stands_10 ?_ | refine g_iadd dX12_stands_10 ?_
  refine g_aload_n dX12_stands_11 rfl ?_
  refine g_getf fl12_61 hM.1 rfl dX12_stands_12 ?_
  refine g_icmp_leN 20 dX12_stands_15 (by decide) (by omega) (by omega) (fun c_15 => ?_) (fun c_15 => ?_)
  · refine g_iconst (nI 0) dX12_stands_20 (by decide) ?_
    refine g_istore_n dX12_stands_21 (by decide) rfl ?_
    exact loop W.length 0 (by omega) c_15 (fun i hi => absurd hi (Nat.not_lt_zero _))
  · refine g_iconst (nI 0) dX12_stands_18 (by decide) ?_
    exact g_iret hE rfl (⟨by rw [b2i_f (show stands L W p = false from decide_eq_false (fun x => c_15 x.1))]; rfl, rfl, rfl⟩) dX12_stands_19
set_option maxRecDepth 100000 in
set_option maxHeartbeats 4000000 in
theorem m12_first {X : gX} {h : gH} {z m pl : Nat} {I : Nat → Int32} {A : Nat → Nat → Int32} {V : Nat → Int64} {L : List Int32} {J : Nat → Int32} {B : Nat → Nat → Int32} {U1 U2 : Nat → Int64} {W : List Int32} (i : Nat) (hP : MpB X h pl J B U1 U2) (hW : MpW B i W) (hM : MdB X h m L.length pl I A V) (hn : L.length ≤ 40) (hA : ∀ i, i < L.length → A 5 i = lt L i) : gM X yX12_first cX12_first 3 (some .int) (2, 0, 0) [.ref m, .int (nI i)] h z (pR h z (oI (fstA (stands L W) L.length 0))) gNoX := by
  obtain ⟨hi8, hw10, hW0, hW1⟩ := id hW
  refine gM.of px12 (Nat.le_of_ble_eq_true rfl) ?_
  intro F hE
  have loop : ∀ (r j : Nat), j + r = L.length → fstA (stands L W) L.length 0 = fstA (stands L W) r j → G X F cX12_first 3 yX12_first.cls (2, 0, 0) 0 0 2 [some (.ref m), some (.int (nI i)), some (.int (nI j))] [] h z := by
    intro r
    induction r with
    | zero =>
      intro j hj hm
      refine g_iload_n dX12_first_2 rfl ?_
      refine g_aload_n dX12_first_3 rfl ?_
      refine g_getf fl12_61 hM.1 rfl dX12_first_4 ?_
      refine g_icmp_geN 27 dX12_first_7 (by decide) (by omega) (by omega) (fun c_7 => ?_) (fun c_7 => ?_)
      · refine g_iconst (-1) dX12_first_27 (by decide) ?_
        exact g_iret hE rfl (⟨by rw [hm]; rfl, rfl, rfl⟩) dX12_first_28
      · exact absurd c_7 (by omega)
    | succ r ih =>
      intro j hj hm
      have hm2 : fstA (stands L W) L.length 0 = if stands L W j = true then some j else fstA (stands L W) r (j + 1) := hm
      refine g_iload_n dX12_first_2 rfl ?_
      refine g_aload_n dX12_first_3 rfl ?_
      refine g_getf fl12_61 hM.1 rfl dX12_first_4 ?_
      refine g_icmp_geN 27 dX12_first_7 (by decide) (by omega) (by omega) (fun c_7 => ?_) (fun c_7 => ?_)
      · exact absurd c_7 (by omega)
      · refine g_aload_n dX12_first_10 rfl ?_
        refine g_iload_n dX12_first_11 rfl ?_
        refine g_iload_n dX12_first_12 rfl ?_
        refine g_callV0 kX12_142 (m12_stands i hP hW j (by omega) hM hn hA) hM.1 rfl rfl rfl (Nat.le_of_ble_eq_true rfl) (by decide) (by decide) (by decide) (by decide) dX12_first_13 ?_
        rintro v2 h2 z2 ⟨rfl, rfl, rfl⟩
        refine g_if_eqB 21 dX12_first_16 (by decide) (fun c_16 => ?_) (fun c_16 => ?_)
        · refine g_iincN dX12_first_21 rfl (by decide) rfl ?_
          refine g_goto 2 dX12_first_24 (by decide) ?_
          exact ih (j + 1) (by omega) (by rw [hm2, if_neg (by rw [c_16]; decide)])
        · refine g_iload_n dX12_first_19 rfl ?_
          exact g_iret hE rfl (⟨by rw [hm2, if_pos c_16]; rfl, rfl, rfl⟩) dX12_first_20
  refine g_iconst (nI 0) dX12_first_0 (by decide) ?_
  refine g_istore_n dX12_first_1 (by decide) rfl ?_
  exact loop L.length 0 (by omega) rfl
set_option maxRecDepth 100000 in
set_option maxHeartbeats 4000000 in
theorem m12_count {X : gX} {h : gH} {z m pl : Nat} {I : Nat → Int32} {A : Nat → Nat → Int32} {V : Nat → Int64} {L : List Int32} {J : Nat → Int32} {B : Nat → Nat → Int32} {U1 U2 : Nat → Int64} {W : List Int32} (i : Nat) (hP : MpB X h pl J B U1 U2) (hW : MpW B i W) (hM : MdB X h m L.length pl I A V) (hn : L.length ≤ 40) (hA : ∀ i, i < L.length → A 5 i = lt L i) : gM X yX12_count cX12_count 4 (some .int) (2, 0, 0) [.ref m, .int (nI i)] h z (pR h z (nI (cnt (stands L W) L.length))) gNoX := by
  obtain ⟨hi8, hw10, hW0, hW1⟩ := id hW
  refine gM.of px12 (Nat.le_of_ble_eq_true rfl) ?_
  intro F hE
  have loop : ∀ (r j : Nat), j + r = L.length → G X F cX12_count 4 yX12_count.cls (2, 0, 0) 0 0 4 [some (.ref m), some (.int (nI i)), some (.int (nI (cnt (stands L W) j))), some (.int (nI j))] [] h z := by
    intro r
    induction r with
    | zero =>
      intro j hj
      refine g_iload_n dX12_count_4 rfl ?_
      refine g_aload_n dX12_count_5 rfl ?_
      refine g_getf fl12_61 hM.1 rfl dX12_count_6 ?_
      refine g_icmp_geN 35 dX12_count_9 (by decide) (by omega) (by omega) (fun c_9 => ?_) (fun c_9 => ?_)
      · refine g_iload_n dX12_count_35 rfl ?_
        exact g_iret hE rfl (⟨by rw [show j = L.length by omega], rfl, rfl⟩) dX12_count_36
      · exact absurd c_9 (by omega)
    | succ r ih =>
      intro j hj
      have hb := cnt_le (stands L W) j
      have hstep : cnt (stands L W) (j + 1) = cnt (stands L W) j + if stands L W j = true then 1 else 0 := rfl
      refine g_iload_n dX12_count_4 rfl ?_
      refine g_aload_n dX12_count_5 rfl ?_
      refine g_getf fl12_61 hM.1 rfl dX12_count_6 ?_
      refine g_icmp_geN 35 dX12_count_9 (by decide) (by omega) (by omega) (fun c_9 => ?_) (fun c_9 => ?_)
      · exact absurd c_9 (by omega)
      · refine g_iload_n dX12_count_12 rfl ?_
        refine g_aload_n dX12_count_13 rfl ?_
        refine g_iload_n dX12_count_14 rfl ?_
        refine g_iload_n dX12_count_15 rfl ?_
        refine g_callV0 kX12_142 (m12_stands i hP hW j (by omega) hM hn hA) hM.1 rfl rfl rfl (Nat.le_of_ble_eq_true rfl) (by decide) (by decide) (by decide) (by decide) dX12_count_16 ?_
        rintro v2 h2 z2 ⟨rfl, rfl, rfl⟩
        refine g_if_eqB 26 dX12_count_19 (by decide) (fun c_19 => ?_) (fun c_19 => ?_)
        · refine g_iconst (nI 0) dX12_count_26 (by decide) ?_
          first | refine g_iaddN dX12_count_27 ?_ | refine g_iadd dX12_count_27 ?_
          refine g_istore_n dX12_count_28 (by decide) rfl ?_
          refine g_iincN dX12_count_29 rfl (by decide) rfl ?_
          refine g_goto 4 dX12_count_32 (by decide) ?_
          rw [show cnt (stands L W) j + 0 = cnt (stands L W) (j + 1) from by rw [hstep, c_19]; rfl]
          exact ih (j + 1) (by omega)
        · refine g_iconst (nI 1) dX12_count_22 (by decide) ?_
          refine g_goto 27 dX12_count_23 (by decide) ?_
          first | refine g_iaddN dX12_count_27 ?_ | refine g_iadd dX12_count_27 ?_
          refine g_istore_n dX12_count_28 (by decide) rfl ?_
          refine g_iincN dX12_count_29 rfl (by decide) rfl ?_
          refine g_goto 4 dX12_count_32 (by decide) ?_
          rw [show cnt (stands L W) j + 1 = cnt (stands L W) (j + 1) from by rw [hstep, c_19]; rfl]
          exact ih (j + 1) (by omega)
  refine g_iconst (nI 0) dX12_count_0 (by decide) ?_
  refine g_istore_n dX12_count_1 (by decide) rfl ?_
  refine g_iconst (nI 0) dX12_count_2 (by decide) ?_
  refine g_istore_n dX12_count_3 (by decide) rfl ?_
  exact loop L.length 0 (by omega)
set_option maxRecDepth 100000 in
set_option maxHeartbeats 4000000 in
theorem m12_last {X : gX} {h : gH} {z m pl : Nat} {I : Nat → Int32} {A : Nat → Nat → Int32} {V : Nat → Int64} {L : List Int32} {J : Nat → Int32} {B : Nat → Nat → Int32} {U1 U2 : Nat → Int64} {W : List Int32} (i : Nat) (hP : MpB X h pl J B U1 U2) (hW : MpW B i W) (hM : MdB X h m L.length pl I A V) (hn : L.length ≤ 40) (hA : ∀ i, i < L.length → A 5 i = lt L i) : gM X yX12_last cX12_last 3 (some .int) (2, 0, 0) [.ref m, .int (nI i)] h z (pR h z (oI (lstA (stands L W) L.length))) gNoX := by
  obtain ⟨hi8, hw10, hW0, hW1⟩ := id hW
  refine gM.of px12 (Nat.le_of_ble_eq_true rfl) ?_
  intro F hE
  have loop : ∀ (j : Nat), j ≤ L.length → lstA (stands L W) L.length = lstA (stands L W) j → G X F cX12_last 3 yX12_last.cls (2, 0, 0) 0 0 7 [some (.ref m), some (.int (nI i)), some (.int (nI j + -1))] [] h z := by
    intro j
    induction j with
    | zero =>
      intro hj hm
      refine g_iload_n dX12_last_7 rfl ?_
      refine g_if_lt 28 dX12_last_8 (by decide) (fun c_8 => ?_) (fun c_8 => ?_)
      · refine g_iconst (-1) dX12_last_28 (by decide) ?_
        exact g_iret hE rfl (⟨by rw [hm]; rfl, rfl, rfl⟩) dX12_last_29
      · exact absurd (by decide) c_8
    | succ j ih =>
      intro hj hm
      have hm2 : lstA (stands L W) L.length = if stands L W j = true then some j else lstA (stands L W) j := hm
      rw [pk_m1]
      refine g_iload_n dX12_last_7 rfl ?_
      refine g_if_ltN 28 dX12_last_8 (by decide) (by omega) ?_
      refine g_aload_n dX12_last_11 rfl ?_
      refine g_iload_n dX12_last_12 rfl ?_
      refine g_iload_n dX12_last_13 rfl ?_
      refine g_callV0 kX12_142 (m12_stands i hP hW j (by omega) hM hn hA) hM.1 rfl rfl rfl (Nat.le_of_ble_eq_true rfl) (by decide) (by decide) (by decide) (by decide) dX12_last_14 ?_
      rintro v2 h2 z2 ⟨rfl, rfl, rfl⟩
      refine g_if_eqB 22 dX12_last_17 (by decide) (fun c_17 => ?_) (fun c_17 => ?_)
      · refine g_iinc (nI j + -1) dX12_last_22 rfl rfl (by decide) rfl ?_
        refine g_goto 7 dX12_last_25 (by decide) ?_
        exact ih (by omega) (by rw [hm2, if_neg (by rw [c_17]; decide)])
      · refine g_iload_n dX12_last_20 rfl ?_
        exact g_iret hE rfl (⟨by rw [hm2, if_pos c_17]; rfl, rfl, rfl⟩) dX12_last_21
  refine g_aload_n dX12_last_0 rfl ?_
  refine g_getf fl12_61 hM.1 rfl dX12_last_1 ?_
  refine g_iconst (nI 1) dX12_last_4 (by decide) ?_
  refine g_isub dX12_last_5 ?_
  rw [show nI L.length - nI 1 = nI L.length + -1 from Int32.sub_eq_add_neg (nI L.length) (nI 1)]
  refine g_istore_n dX12_last_6 (by decide) rfl ?_
  exact loop L.length (Nat.le_refl _) rfl
