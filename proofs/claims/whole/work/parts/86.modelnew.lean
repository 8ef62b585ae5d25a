/-! the reference: an insult is declared, an order counted, an insult looked up -/
theorem MpB.astU {X : gX} {h : gH} {q j : Nat} {x : Int64} {J : Nat → Int32} {B : Nat → Nat → Int32} {U W : Nat → Int64} (hP : MpB X h q J B U W) : MpB X (gset h (q + 1) (gJA X 8 (vp_updL U j x))) q J B (vp_updL U j x) W :=
  ⟨(gset_ne (by omega)).trans hP.1, fun i hi => (gset_ne (by have := po_in i hi; omega)).trans (hP.2.1 i hi), gset_same, (gset_ne (by omega)).trans hP.2.2.2⟩
theorem MpB.astW {X : gX} {h : gH} {q j : Nat} {x : Int64} {J : Nat → Int32} {B : Nat → Nat → Int32} {U W : Nat → Int64} (hP : MpB X h q J B U W) : MpB X (gset h (q + 6) (gJA X 16 (vp_updL W j x))) q J B U (vp_updL W j x) :=
  ⟨(gset_ne (by omega)).trans hP.1, fun i hi => (gset_ne (by have := po_in i hi; omega)).trans (hP.2.1 i hi), (gset_ne (by omega)).trans hP.2.2.1, gset_same⟩
/-- the error that a declared insult makes -/
def erI (Ws : List (List Nat)) (D : List Nat) : Nat := if (fnd Ws D).isSome = true then 2 else if 8 ≤ Ws.length then 4 else if hsD D = true then 5 else 0
set_option maxRecDepth 100000 in
set_option maxHeartbeats 4000000 in
theorem m12_newInsult {X : gX} {h : gH} {z m q : Nat} {J : Nat → Int32} {B : Nat → Nat → Int32} {U W : Nat → Int64} (Ws : List (List Nat)) (D : List Nat) (hok : WsOk Ws) (hd : dg D) (h10 : D.length ≤ 10) {fm : List Value} (hm : h m = some (.inr (10, fm))) (hP : MpB X h q J B U W) (hJ : J 0 = nI Ws.length) (hU : ∀ i, i < Ws.length → U i = lN (nm (Ws.getD i []))) : gM X yX12_newInsult cX12_newInsult 8 (some .int) (1, 0, 0) [.ref m, .ref q, .long (lN (nm D))] h z (fun r h' z' => r = some (.int (nI (erI Ws D))) ∧ z' = z ∧ (erI Ws D ≠ 0 → h' = h) ∧ (erI Ws D = 0 → ∃ (J' : Nat → Int32) (B' : Nat → Nat → Int32) (U' : Nat → Int64), MpB X h' q J' B' U' W ∧ J' 0 = nI (Ws.length + 1) ∧ (∀ j, j ≠ 0 → J' j = J j) ∧ (∀ i, i < Ws.length + 1 → U' i = lN (nm ((Ws ++ [D]).getD i []))) ∧ MpW B' Ws.length (wl D) ∧ (∀ i, i < Ws.length → B' 0 i = B 0 i ∧ ∀ k, k < 10 → B' 1 (10 * i + k) = B 1 (10 * i + k)) ∧ ∀ k, 2 ≤ k → B' k = B k) ∧ OffB h h' q 12) gNoX := by
  have hl8 := hok.1
  have hsm := nm_small hd h10
  have hwl := wl_len D
  have hfl : ∀ i, fnd Ws D = some i → i < Ws.length := fun i w => (fnd_some.mp w).1
  refine gM.of px12 (Nat.le_of_ble_eq_true rfl) ?_
  intro F hE
  have tail : ∀ (j : Nat), j ≤ D.length → ∀ (h1 : gH) (B1 : Nat → Nat → Int32), Ws.length < 8 → erI Ws D = 0 → MpB X h1 q J B1 U W → (∀ x, x < 10 * Ws.length → B1 1 x = B 1 x) → (∀ i, (hi : i < D.length) → j ≤ i → B1 1 (10 * Ws.length + i) = nI D[i]) → (∀ k, k ≠ 1 → B1 k = B k) → OffB h h1 q 12 → G X F cX12_newInsult 8 yX12_newInsult.cls (1, 0, 0) 0 0 73 [some (.ref m), some (.ref q), some (.long (lN (nm D))), none, some (.int (nI D.length)), some (.int (nI (10 * Ws.length + j))), some (.long (lN (nm (D.take j)))), none] [] h1 z := by
    intro j
    induction j with
    | zero =>
      intro hj h1 B1 h8 hz hP1 hB1 hB2 hB3 hO1
      have hPa := hP1.astU (j := Ws.length) (x := lN (nm D))
      have hPb := hPa.ast (k := 0) (j := Ws.length) (x := nI D.length) (by decide)
      have hPc := hPb.put (J' := upd J 0 (nI (Ws.length + 1)))
      have oo : ∀ e1 e2 e3, OffB h (gset (gset (gset h1 (q + 1) e1) (q + po 0) e2) q e3) q 12 := fun e1 e2 e3 => ((hO1.put (by omega) (by omega)).put (by omega) (by show q + 2 < q + 12; omega)).put (by omega) (by omega)
      refine g_lload dX12_newInsult_73 rfl ?_
      refine g_lconst (lN 0) dX12_newInsult_75 rfl ?_
      refine g_lcmp dX12_newInsult_76 ?_
      refine g_if_le 108 dX12_newInsult_77 (by decide) (fun c_77 => ?_) (fun c_77 => ?_)
      · refine g_aload_n dX12_newInsult_108 rfl ?_
        refine g_getfN fl12_329 hP1.1 rfl dX12_newInsult_109 ?_
        refine g_aload_n dX12_newInsult_112 rfl ?_
        refine g_getfN fl12_68 hP1.1 rfl dX12_newInsult_113 ?_
        rw [hJ]
        refine g_lload_n dX12_newInsult_116 rfl ?_
        refine g_lastN hP1.2.2.1 (by omega) (by decide) dX12_newInsult_117 ?_
        refine g_aload_n dX12_newInsult_118 rfl ?_
        refine g_getfN fl12_82 hPa.1 rfl dX12_newInsult_119 ?_
        refine g_aload_n dX12_newInsult_122 rfl ?_
        refine g_getfN fl12_68 hPa.1 rfl dX12_newInsult_123 ?_
        rw [hJ]
        refine g_iload dX12_newInsult_126 rfl ?_
        refine g_iastN (hPa.2.1 0 (by decide)) (by show Ws.length < 8; omega) (by decide) dX12_newInsult_128 ?_
        refine g_aload_n dX12_newInsult_129 rfl ?_
        refine g_dup dX12_newInsult_130 rfl ?_
        refine g_getfN fl12_68 hPb.1 rfl dX12_newInsult_131 ?_
        rw [hJ]
        refine g_iconst (nI 1) dX12_newInsult_134 (by decide) ?_
        first | refine g_iaddN dX12_newInsult_135 ?_ | refine g_iadd dX12_newInsult_135 ?_
        refine g_putfN fl12_68 (hPb.1) rfl rfl rfl (Nat.le_of_ble_eq_true rfl) dX12_newInsult_136 ?_
        refine g_iconst (nI 0) dX12_newInsult_139 (by decide) ?_
        refine g_iret hE rfl ⟨by rw [hz], rfl, fun w => absurd hz w, fun _ => ⟨_, _, _, hPc, upd_same, fun j a => upd_ne a, fun i hi => ?_, ⟨h8, by rw [hwl]; exact h10, ?_, fun k hk => ?_⟩, fun i hi => ⟨?_, fun k hk => ?_⟩, fun k hk => ?_⟩, oo _ _ _⟩ dX12_newInsult_140
        · show vp_updL U Ws.length (lN (nm D)) i = _
          by_cases e : i = Ws.length
          · rw [e, List.getD_eq_getElem?_getD, List.getElem?_append_right (Nat.le_refl _), Nat.sub_self]
            exact if_pos rfl
          · rw [show vp_updL U Ws.length (lN (nm D)) i = U i from if_neg e, hU i (by omega), List.getD_eq_getElem?_getD, List.getD_eq_getElem?_getD, List.getElem?_append_left (by omega)]
        · rw [vu_same, upd_same, hwl]
        · rw [hwl] at hk
          rw [vu_ne (by decide), hB2 k hk (Nat.zero_le _), wl_lt hk]
        · rw [vu_same, upd_ne (by omega), hB3 0 (by decide)]
        · rw [vu_ne (by decide), hB1 _ (by omega)]
        · rw [vu_ne (by omega), hB3 k (by omega)]
      · exact absurd ((cmpN (a := 0) (b := 0) (by decide) (by decide)).2.1.mpr (by decide)) c_77
    | succ j ih =>
      intro hj h1 B1 h8 hz hP1 hB1 hB2 hB3 hO1
      obtain ⟨n1, n2⟩ := nm_last hd (show j < D.length by omega)
      have n3 := nm_pos hd (show j < D.length by omega)
      have n4 := nm_tk hd h10 (j + 1)
      have hc1 := (cmpN (a := nm (D.take (j + 1))) (b := 0) (by omega) (by decide)).2.1
      have hPa := hP1.ast (k := 1) (j := 10 * Ws.length + j) (x := nI D[j]) (by decide)
      rw [show 10 * Ws.length + (j + 1) = 10 * Ws.length + j + 1 by omega]
      refine g_lload dX12_newInsult_73 rfl ?_
      refine g_lconst (lN 0) dX12_newInsult_75 rfl ?_
      refine g_lcmp dX12_newInsult_76 ?_
      refine g_if_le 108 dX12_newInsult_77 (by decide) (fun c_77 => ?_) (fun c_77 => ?_)
      · exact absurd (hc1.mp c_77) (by omega)
      · refine g_iincD dX12_newInsult_80 rfl (by decide) rfl ?_
        refine g_aload_n dX12_newInsult_83 rfl ?_
        refine g_getfN fl12_85 hP1.1 rfl dX12_newInsult_84 ?_
        refine g_iload dX12_newInsult_87 rfl ?_
        refine g_lload dX12_newInsult_89 rfl ?_
        refine g_37 w37 dX12_newInsult_91 ?_
        refine g_lremN dX12_newInsult_94 (by omega) (by decide) (by decide) ?_
        rw [n2]
        refine g_l2iN dX12_newInsult_95 ?_
        refine g_iastN (hP1.2.1 1 (by decide)) (by show 10 * Ws.length + j < 80; omega) (by decide) dX12_newInsult_96 ?_
        refine g_lload dX12_newInsult_97 rfl ?_
        refine g_37 w37 dX12_newInsult_99 ?_
        refine g_ldivN dX12_newInsult_102 (by omega) (by decide) (by decide) ?_
        rw [n1]
        refine g_lstore dX12_newInsult_103 (by decide) rfl ?_
        refine g_goto 73 dX12_newInsult_105 (by decide) ?_
        refine ih (by omega) _ _ h8 hz hPa (fun x hx => ?_) (fun i hi h2 => ?_) (fun k hk => ?_) (hO1.put (by omega) (by show q + 3 < q + 12; omega))
        · rw [vu_same, upd_ne (by omega)]; exact hB1 x hx
        · rw [vu_same]
          by_cases e : i = j
          · subst e; exact upd_same
          · rw [upd_ne (by omega)]; exact hB2 i hi (by omega)
        · rw [vu_ne hk]; exact hB3 k hk
  have cnt : ∀ (j : Nat), j ≤ D.length → Ws.length < 8 → erI Ws D = 0 → G X F cX12_newInsult 8 yX12_newInsult.cls (1, 0, 0) 0 0 37 [some (.ref m), some (.ref q), some (.long (lN (nm D))), none, some (.int (nI (D.length - j))), some (.long (lN (nm (D.take j)))), none, none] [] h z := by
    intro j
    induction j with
    | zero =>
      intro hj h8 hz
      refine g_lload dX12_newInsult_37 rfl ?_
      refine g_lconst (lN 0) dX12_newInsult_39 rfl ?_
      refine g_lcmp dX12_newInsult_40 ?_
      refine g_if_le 58 dX12_newInsult_41 (by decide) (fun c_41 => ?_) (fun c_41 => ?_)
      · refine g_bipush (nI 10) dX12_newInsult_58 (by decide) ?_
        refine g_aload_n dX12_newInsult_60 rfl ?_
        refine g_getfN fl12_68 hP.1 rfl dX12_newInsult_61 ?_
        rw [hJ]
        first | refine g_imulN dX12_newInsult_64 ?_ | refine g_imul dX12_newInsult_64 ?_
        refine g_iload dX12_newInsult_65 rfl ?_
        first | refine g_iaddN dX12_newInsult_67 ?_ | refine g_iadd dX12_newInsult_67 ?_
        refine g_istore dX12_newInsult_68 (by decide) rfl ?_
        refine g_lload_n dX12_newInsult_70 rfl ?_
        refine g_lstore dX12_newInsult_71 (by decide) rfl ?_
        have e9 : D.take D.length = D := List.take_of_length_le (Nat.le_refl _)
        have hl := tail D.length (Nat.le_refl _) h B h8 hz hP (fun _ _ => rfl) (fun i hi h2 => absurd hi (by omega)) (fun _ _ => rfl) OffB.rf
        rw [e9] at hl
        exact hl
      · exact absurd ((cmpN (a := 0) (b := 0) (by decide) (by decide)).2.1.mpr (by decide)) c_41
    | succ j ih =>
      intro hj h8 hz
      obtain ⟨n1, n2⟩ := nm_last hd (show j < D.length by omega)
      have n3 := nm_pos hd (show j < D.length by omega)
      have n4 := nm_tk hd h10 (j + 1)
      have hc1 := (cmpN (a := nm (D.take (j + 1))) (b := 0) (by omega) (by decide)).2.1
      refine g_lload dX12_newInsult_37 rfl ?_
      refine g_lconst (lN 0) dX12_newInsult_39 rfl ?_
      refine g_lcmp dX12_newInsult_40 ?_
      refine g_if_le 58 dX12_newInsult_41 (by decide) (fun c_41 => ?_) (fun c_41 => ?_)
      · exact absurd (hc1.mp c_41) (by omega)
      · refine g_iincN dX12_newInsult_44 rfl (by decide) rfl ?_
        refine g_lload dX12_newInsult_47 rfl ?_
        refine g_37 w37 dX12_newInsult_49 ?_
        refine g_ldivN dX12_newInsult_52 (by omega) (by decide) (by decide) ?_
        rw [n1]
        refine g_lstore dX12_newInsult_53 (by decide) rfl ?_
        refine g_goto 37 dX12_newInsult_55 (by decide) ?_
        rw [show D.length - (j + 1) + 1 = D.length - j by omega]
        exact ih (by omega) h8 hz
  refine g_aload_n dX12_newInsult_0 rfl ?_
  refine g_lload_n dX12_newInsult_1 rfl ?_
  refine g_callS0 kX12_334 (m12_find Ws D hok hd h10 hP hJ hU) rfl rfl (Nat.le_of_ble_eq_true rfl) (by decide) (by decide) (by decide) (by decide) dX12_newInsult_2 ?_
  rintro v1 h2 z1 ⟨rfl, rfl, rfl⟩
  refine g_iconst (-1) dX12_newInsult_5 (by decide) ?_
  refine g_icmp_eq 11 dX12_newInsult_6 (by decide) (fun c_6 => ?_) (fun c_6 => ?_)
  · have hno : ¬ (fnd Ws D).isSome = true := fun w => by
      obtain ⟨i, hi⟩ := Option.isSome_iff_exists.mp w
      rw [hi] at c_6
      have := hfl i hi
      exact absurd ((nI_toInt (show i < 2 ^ 31 by omega)).symm.trans (congrArg Int32.toInt c_6)) (by show ¬ (i : Int) = -1; omega)
    refine g_aload_n dX12_newInsult_11 rfl ?_
    refine g_getfN fl12_68 hP.1 rfl dX12_newInsult_12 ?_
    rw [hJ]
    refine g_bipush (nI 8) dX12_newInsult_15 (by decide) ?_
    refine g_icmp_neN 22 dX12_newInsult_17 (by decide) (by omega) (by omega) (fun c_17 => ?_) (fun c_17 => ?_)
    · refine g_lload_n dX12_newInsult_22 rfl ?_
      refine g_callS0 kX12_338 (m12_hasDigit D hd h10) rfl rfl (Nat.le_of_ble_eq_true rfl) (by decide) (by decide) (by decide) (by decide) dX12_newInsult_23 ?_
      rintro v1 h2 z1 ⟨rfl, rfl, rfl⟩
      refine g_if_eqB 31 dX12_newInsult_26 (by decide) (fun c_26 => ?_) (fun c_26 => ?_)
      · refine g_iconst (nI 0) dX12_newInsult_31 (by decide) ?_
        refine g_istore dX12_newInsult_32 (by decide) rfl ?_
        refine g_lload_n dX12_newInsult_34 rfl ?_
        refine g_lstore dX12_newInsult_35 (by decide) rfl ?_
        have hz : erI Ws D = 0 := by unfold erI; rw [if_neg hno, if_neg (by omega), if_neg (by rw [c_26]; decide)]
        have e9 : D.take D.length = D := List.take_of_length_le (Nat.le_refl _)
        have hc := cnt D.length (Nat.le_refl _) (by omega) hz
        rw [e9, Nat.sub_self] at hc
        exact hc
      · refine g_iconst (nI 5) dX12_newInsult_29 (by decide) ?_
        exact g_iret hE rfl (⟨by unfold erI; rw [if_neg hno, if_neg (by omega), if_pos c_26], rfl, fun _ => rfl, fun w => absurd w (by unfold erI; rw [if_neg hno, if_neg (by omega), if_pos c_26]; decide), OffB.rf⟩) dX12_newInsult_30
    · refine g_iconst (nI 4) dX12_newInsult_20 (by decide) ?_
      exact g_iret hE rfl (⟨by unfold erI; rw [if_neg hno, if_pos (by omega)], rfl, fun _ => rfl, fun w => absurd w (by unfold erI; rw [if_neg hno, if_pos (by omega)]; decide), OffB.rf⟩) dX12_newInsult_21
  · have hyes : (fnd Ws D).isSome = true := by
      cases e : fnd Ws D with
      | none => rw [e] at c_6; exact absurd rfl c_6
      | some i => rfl
    refine g_iconst (nI 2) dX12_newInsult_9 (by decide) ?_
    exact g_iret hE rfl (⟨by unfold erI; rw [if_pos hyes], rfl, fun _ => rfl, fun w => absurd w (by unfold erI; rw [if_pos hyes]; decide), OffB.rf⟩) dX12_newInsult_10
