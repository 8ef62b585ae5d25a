/-! the reference: halving, the insult said most, echoing, mocking -/
set_option maxRecDepth 100000 in
set_option maxHeartbeats 4000000 in
theorem m12_isBefore {X : gX} {h : gH} {z m pl : Nat} {I : Nat → Int32} {A : Nat → Nat → Int32} {V : Nat → Int64} {L : List Int32} {J : Nat → Int32} {B : Nat → Nat → Int32} {U1 U2 : Nat → Int64} {W : List Int32} (i : Nat) (hP : MpB X h pl J B U1 U2) (hW : MpW B i W) (p : Nat) (hp : p ≤ L.length) (hM : MdB X h m L.length pl I A V) (hn : L.length ≤ 40) (hA : ∀ i, i < L.length → A 5 i = lt L i) : gM X yX12_isBefore cX12_isBefore 4 (some .boolean) (1, 0, 0) [.ref m, .int (nI p), .int (nI i)] h z (pR h z (b2i (abf L W p))) gNoX := by
  obtain ⟨hi8, hw10, hW0, hW1⟩ := id hW
  refine gM.of px12 (Nat.le_of_ble_eq_true rfl) ?_
  intro F hE
  have j56 : ∀ k : Nat, k ≤ W.length → p + k ≤ L.length → (abf L W p = if k = W.length then false else if p + k = L.length then true else decide (lt L (p + k) < lt W k)) → G X F cX12_isBefore 4 yX12_isBefore.cls (1, 0, 0) 0 0 56 [some (.ref m), some (.int (nI p)), some (.int (nI i)), some (.int (nI k))] [] h z := by
    intro k hk hpk hv
    refine g_iload_n dX12_isBefore_56 rfl ?_
    refine g_aload_n dX12_isBefore_57 rfl ?_
    refine g_getf fl12_20 hM.1 rfl dX12_isBefore_58 ?_
    refine g_getfN fl12_82 hP.1 rfl dX12_isBefore_61 ?_
    refine g_iload_n dX12_isBefore_64 rfl ?_
    refine g_ialdN (hP.2.1 0 (by decide)) (by show i < 8; omega) (by decide) dX12_isBefore_65 ?_
    rw [hW0]
    refine g_icmp_neN 71 dX12_isBefore_66 (by decide) (by omega) (by omega) (fun c_66 => ?_) (fun c_66 => ?_)
    · refine g_iload_n dX12_isBefore_71 rfl ?_
      refine g_iload_n dX12_isBefore_72 rfl ?_
      first | refine g_iaddN dX12_isBefore_73 ?_ | refine g_iadd dX12_isBefore_73 ?_
      refine g_aload_n dX12_isBefore_74 rfl ?_
      refine g_getf fl12_61 hM.1 rfl dX12_isBefore_75 ?_
      refine g_icmp_eqN 106 dX12_isBefore_78 (by decide) (by omega) (by omega) (fun c_78 => ?_) (fun c_78 => ?_)
      · refine g_iconst (nI 1) dX12_isBefore_106 (by decide) ?_
        refine g_goto 111 dX12_isBefore_107 (by decide) ?_
        exact g_iret hE rfl (⟨by rw [hv, if_neg (by omega), if_pos (by omega)]; rfl, rfl, rfl⟩) dX12_isBefore_111
      · refine g_aload_n dX12_isBefore_81 rfl ?_
        refine g_getf fl12_40 hM.1 rfl dX12_isBefore_82 ?_
        refine g_iload_n dX12_isBefore_85 rfl ?_
        refine g_iload_n dX12_isBefore_86 rfl ?_
        first | refine g_iaddN dX12_isBefore_87 ?_ | refine g_iadd dX12_isBefore_87 ?_
        refine g_ialdN (hM.2.1 5 (by decide)) (by show _ < 40; omega) (by decide) dX12_isBefore_88 ?_
        refine g_aload_n dX12_isBefore_89 rfl ?_
        refine g_getf fl12_20 hM.1 rfl dX12_isBefore_90 ?_
        refine g_getfN fl12_85 hP.1 rfl dX12_isBefore_93 ?_
        refine g_bipush (nI 10) dX12_isBefore_96 (by decide) ?_
        refine g_iload_n dX12_isBefore_98 rfl ?_
        first | refine g_imulN dX12_isBefore_99 ?_ | refine g_imul dX12_isBefore_99 ?_
        refine g_iload_n dX12_isBefore_100 rfl ?_
        first | refine g_iaddN dX12_isBefore_101 ?_ | refine g_iadd dX12_isBefore_101 ?_
        refine g_ialdN (hP.2.1 1 (by decide)) (by show _ < 80; omega) (by decide) dX12_isBefore_102 ?_
        rw [hA _ (by omega), hW1 _ (by omega)]
        refine g_icmp_ge 110 dX12_isBefore_103 (by decide) (fun c_103 => ?_) (fun c_103 => ?_)
        · refine g_iconst (nI 0) dX12_isBefore_110 (by decide) ?_
          exact g_iret hE rfl (⟨by rw [hv, if_neg (by omega), if_neg (by omega), decide_eq_false (by simp only [Int32.lt_iff_toInt_lt, Int32.le_iff_toInt_le] at *; omega)]; rfl, rfl, rfl⟩) dX12_isBefore_111
        · refine g_iconst (nI 1) dX12_isBefore_106 (by decide) ?_
          refine g_goto 111 dX12_isBefore_107 (by decide) ?_
          exact g_iret hE rfl (⟨by rw [hv, if_neg (by omega), if_neg (by omega), decide_eq_true (by simp only [Int32.lt_iff_toInt_lt, Int32.le_iff_toInt_le] at *; omega)]; rfl, rfl, rfl⟩) dX12_isBefore_111
    · refine g_iconst (nI 0) dX12_isBefore_69 (by decide) ?_
      exact g_iret hE rfl (⟨by rw [hv, if_pos (by omega)]; rfl, rfl, rfl⟩) dX12_isBefore_70
  have loop : ∀ (r k : Nat), k + r = W.length → p + k ≤ L.length → abf L W p = abfA L W p r k → G X F cX12_isBefore 4 yX12_isBefore.cls (1, 0, 0) 0 0 2 [some (.ref m), some (.int (nI p)), some (.int (nI i)), some (.int (nI k))] [] h z := by
    intro r
    induction r with
    | zero =>
      intro k hk hpk hf
      have hv : abf L W p = false := hf
      refine g_iload_n dX12_isBefore_2 rfl ?_
      refine g_iload_n dX12_isBefore_3 rfl ?_
      first | refine g_iaddN dX12_isBefore_4 ?_ | refine g_iadd dX12_isBefore_4 ?_
      refine g_aload_n dX12_isBefore_5 rfl ?_
      refine g_getf fl12_61 hM.1 rfl dX12_isBefore_6 ?_
      refine g_icmp_geN 56 dX12_isBefore_9 (by decide) (by omega) (by omega) (fun c_9 => ?_) (fun c_9 => ?_)
      · exact j56 k (by omega) (by omega) (by rw [hv, if_pos (by omega)])
      · refine g_iload_n dX12_isBefore_12 rfl ?_
        refine g_aload_n dX12_isBefore_13 rfl ?_
        refine g_getf fl12_20 hM.1 rfl dX12_isBefore_14 ?_
        refine g_getfN fl12_82 hP.1 rfl dX12_isBefore_17 ?_
        refine g_iload_n dX12_isBefore_20 rfl ?_
        refine g_ialdN (hP.2.1 0 (by decide)) (by show i < 8; omega) (by decide) dX12_isBefore_21 ?_
        rw [hW0]
        refine g_icmp_geN 56 dX12_isBefore_22 (by decide) (by omega) (by omega) (fun c_22 => ?_) (fun c_22 => ?_)
        · exact j56 k (by omega) (by omega) (by rw [hv, if_pos (by omega)])
        · exact absurd c_22 (by omega)
    | succ r ih =>
      intro k hk hpk hf
      have hf2 : abf L W p = if L.length ≤ p + k then true else if lt L (p + k) = lt W k then abfA L W p r (k + 1) else decide (lt L (p + k) < lt W k) := hf
      refine g_iload_n dX12_isBefore_2 rfl ?_
      refine g_iload_n dX12_isBefore_3 rfl ?_
      first | refine g_iaddN dX12_isBefore_4 ?_ | refine g_iadd dX12_isBefore_4 ?_
      refine g_aload_n dX12_isBefore_5 rfl ?_
      refine g_getf fl12_61 hM.1 rfl dX12_isBefore_6 ?_
      refine g_icmp_geN 56 dX12_isBefore_9 (by decide) (by omega) (by omega) (fun c_9 => ?_) (fun c_9 => ?_)
      · exact j56 k (by omega) (by omega) (by rw [hf2, if_pos (by omega), if_neg (by omega), if_pos (by omega)])
      · refine g_iload_n dX12_isBefore_12 rfl ?_
        refine g_aload_n dX12_isBefore_13 rfl ?_
        refine g_getf fl12_20 hM.1 rfl dX12_isBefore_14 ?_
        refine g_getfN fl12_82 hP.1 rfl dX12_isBefore_17 ?_
        refine g_iload_n dX12_isBefore_20 rfl ?_
        refine g_ialdN (hP.2.1 0 (by decide)) (by show i < 8; omega) (by decide) dX12_isBefore_21 ?_
        rw [hW0]
        refine g_icmp_geN 56 dX12_isBefore_22 (by decide) (by omega) (by omega) (fun c_22 => ?_) (fun c_22 => ?_)
        · exact absurd c_22 (by omega)
        · refine g_aload_n dX12_isBefore_25 rfl ?_
          refine g_getf fl12_40 hM.1 rfl dX12_isBefore_26 ?_
          refine g_iload_n dX12_isBefore_29 rfl ?_
          refine g_iload_n dX12_isBefore_30 rfl ?_
          first | refine g_iaddN dX12_isBefore_31 ?_ | refine g_iadd dX12_isBefore_31 ?_
          refine g_ialdN (hM.2.1 5 (by decide)) (by show _ < 40; omega) (by decide) dX12_isBefore_32 ?_
          refine g_aload_n dX12_isBefore_33 rfl ?_
          refine g_getf fl12_20 hM.1 rfl dX12_isBefore_34 ?_
          refine g_getfN fl12_85 hP.1 rfl dX12_isBefore_37 ?_
          refine g_bipush (nI 10) dX12_isBefore_40 (by decide) ?_
          refine g_iload_n dX12_isBefore_42 rfl ?_
          first | refine g_imulN dX12_isBefore_43 ?_ | refine g_imul dX12_isBefore_43 ?_
          refine g_iload_n dX12_isBefore_44 rfl ?_
          first | refine g_iaddN dX12_isBefore_45 ?_ | refine g_iadd dX12_isBefore_45 ?_
          refine g_ialdN (hP.2.1 1 (by decide)) (by show _ < 80; omega) (by decide) dX12_isBefore_46 ?_
          rw [hA _ (by omega), hW1 _ (by omega)]
          refine g_icmp_ne 56 dX12_isBefore_47 (by decide) (fun c_47 => ?_) (fun c_47 => ?_)
          · exact j56 k (by omega) (by omega) (by rw [hf2, if_neg (by omega), if_neg c_47, if_neg (by omega), if_neg (by omega)])
          · refine g_iincN dX12_isBefore_50 rfl (by decide) rfl ?_
            refine g_goto 2 dX12_isBefore_53 (by decide) ?_
            exact ih (k + 1) (by omega) (by omega) (by rw [hf2, if_neg (by omega), if_pos c_47])
  refine g_iconst (nI 0) dX12_isBefore_0 (by decide) ?_
  refine g_istore_n dX12_isBefore_1 (by decide) rfl ?_
  exact loop W.length 0 (by omega) (by omega) rfl
theorem MpB.off {X : gX} {h h' : gH} {q m : Nat} {J : Nat → Int32} {B : Nat → Nat → Int32} {U W : Nat → Int64} (hP : MpB X h q J B U W) (hO : OffM h h' m) (hd : q + 12 ≤ m ∨ q = m + 2 ∨ m + 25 ≤ q) : MpB X h' q J B U W := by
  have hb : ∀ k, k < 9 → po k < 12 := by decide
  refine ⟨(hO q (by omega) (by omega) (by omega)).trans hP.1, fun k hk => (hO _ ?_ ?_ ?_).trans (hP.2.1 k hk), (hO _ (by omega) (by omega) (by omega)).trans hP.2.2.1, (hO _ (by omega) (by omega) (by omega)).trans hP.2.2.2⟩ <;> (have := hb k hk; omega)
set_option maxRecDepth 100000 in
set_option maxHeartbeats 4000000 in
theorem m12_steps {X : gX} {h : gH} {z m pl : Nat} {I : Nat → Int32} {A : Nat → Nat → Int32} {V : Nat → Int64} {L : List Int32} {J : Nat → Int32} {B : Nat → Nat → Int32} {U1 U2 : Nat → Int64} {W : List Int32} (i : Nat) (hP : MpB X h pl J B U1 U2) (hW : MpW B i W) (hM : MdB X h m L.length pl I A V) (hn : L.length ≤ 40) (hA : ∀ i, i < L.length → A 5 i = lt L i) (hC : I 11 = 0 ∨ (I 11 = 1 ∧ MdC L A)) (hd : pl + 12 ≤ m ∨ pl = m + 2 ∨ m + 25 ≤ pl) : gM X yX12_steps cX12_steps 6 (some .int) (4, 0, 0) [.ref m, .int (nI i)] h z (mdR X h z m pl I A V L (nI (hv L W))) gNoX := by
  obtain ⟨hi8, hw10, hW0, hW1⟩ := id hW
  refine gM.of px12 (Nat.le_of_ble_eq_true rfl) ?_
  intro F hE
  refine g_aload_n dX12_steps_0 rfl ?_
  refine g_callV0 kX12_117 (m12_sort hM hn hA hC) hM.1 rfl rfl rfl (Nat.le_of_ble_eq_true rfl) (by decide) (by decide) (by decide) (by decide) dX12_steps_1 ?_
  rintro v1 h1 z1 ⟨rfl, rfl, ⟨I1, A1, hM, hE1, hI1, hC1, hC2⟩, hO⟩
  have hP := hP.off hO hd
  have hA : ∀ i, i < L.length → A1 5 i = lt L i := fun i hi => by rw [hE1.2 5 (by decide) (by decide)]; exact hA i hi
  have loop : ∀ (r s lo hi : Nat), s + r = 40 → lo ≤ hi → hi ≤ L.length → hi - lo ≤ r → hv L W = hvA L W r lo hi s → G X F cX12_steps 6 yX12_steps.cls (4, 0, 0) 0 0 14 [some (.ref m), some (.int (nI i)), some (.int (nI lo)), some (.int (nI hi)), some (.int (nI s)), none] [] h1 z1 := by
    intro r
    induction r with
    | zero =>
      intro s lo hi hs hlh hh hm hf
      refine g_iload_n dX12_steps_14 rfl ?_
      refine g_iload_n dX12_steps_15 rfl ?_
      refine g_icmp_geN 58 dX12_steps_16 (by decide) (by omega) (by omega) (fun c_16 => ?_) (fun c_16 => ?_)
      · refine g_iload dX12_steps_58 rfl ?_
        exact g_iret hE rfl (⟨by rw [show hv L W = s from hf], rfl, ⟨I1, A1, hM, hE1, hI1, hC1, hC2⟩, hO⟩) dX12_steps_60
      · exact absurd c_16 (by omega)
    | succ r ih =>
      intro s lo hi hs hlh hh hm hf
      have hf2 : hv L W = if lo < hi then (if abf L W (plc L ((lo + hi) / 2)) = true then hvA L W r ((lo + hi) / 2 + 1) hi (s + 1) else hvA L W r lo ((lo + hi) / 2) (s + 1)) else s := hf
      refine g_iload_n dX12_steps_14 rfl ?_
      refine g_iload_n dX12_steps_15 rfl ?_
      refine g_icmp_geN 58 dX12_steps_16 (by decide) (by omega) (by omega) (fun c_16 => ?_) (fun c_16 => ?_)
      · refine g_iload dX12_steps_58 rfl ?_
        exact g_iret hE rfl (⟨by rw [hf2, if_neg (by omega)], rfl, ⟨I1, A1, hM, hE1, hI1, hC1, hC2⟩, hO⟩) dX12_steps_60
      · refine g_iload_n dX12_steps_19 rfl ?_
        refine g_iload_n dX12_steps_20 rfl ?_
        first | refine g_iaddN dX12_steps_21 ?_ | refine g_iadd dX12_steps_21 ?_
        refine g_iconst (nI 2) dX12_steps_22 (by decide) ?_
        refine g_idivN dX12_steps_23 (by omega) (by decide) (by decide) ?_
        refine g_istore dX12_steps_24 (by decide) rfl ?_
        refine g_aload_n dX12_steps_26 rfl ?_
        refine g_aload_n dX12_steps_27 rfl ?_
        refine g_getf fl12_49 hM.1 rfl dX12_steps_28 ?_
        refine g_iload dX12_steps_31 rfl ?_
        refine g_ialdN (hM.2.1 8 (by decide)) (by show _ < 40; omega) (by decide) dX12_steps_33 ?_
        rw [hC2 _ (by omega)]
        refine g_iload_n dX12_steps_34 rfl ?_
        have hpl := (plc_spec (L := L) (r := (lo + hi) / 2) (by omega)).1
        refine g_callV0 kX12_145 (m12_isBefore i hP hW (plc L ((lo + hi) / 2)) (by omega) hM hn hA) hM.1 rfl rfl rfl (Nat.le_of_ble_eq_true rfl) (by decide) (by decide) (by decide) (by decide) dX12_steps_35 ?_
        rintro v2 h2 z2 ⟨rfl, rfl, rfl⟩
        refine g_if_eqB 49 dX12_steps_38 (by decide) (fun c_38 => ?_) (fun c_38 => ?_)
        · refine g_iload dX12_steps_49 rfl ?_
          refine g_istore_n dX12_steps_51 (by decide) rfl ?_
          refine g_iincN dX12_steps_52 rfl (by decide) rfl ?_
          refine g_goto 14 dX12_steps_55 (by decide) ?_
          refine G.kill 5 ?_
          exact ih (s + 1) lo ((lo + hi) / 2) (by omega) (by omega) (by omega) (by omega) (by rw [hf2, if_pos (by omega), if_neg (by rw [c_38]; decide)])
        · refine g_iload dX12_steps_41 rfl ?_
          refine g_iconst (nI 1) dX12_steps_43 (by decide) ?_
          first | refine g_iaddN dX12_steps_44 ?_ | refine g_iadd dX12_steps_44 ?_
          refine g_istore_n dX12_steps_45 (by decide) rfl ?_
          refine g_goto 52 dX12_steps_46 (by decide) ?_
          refine g_iincN dX12_steps_52 rfl (by decide) rfl ?_
          refine g_goto 14 dX12_steps_55 (by decide) ?_
          refine G.kill 5 ?_
          exact ih (s + 1) ((lo + hi) / 2 + 1) hi (by omega) (by omega) (by omega) (by omega) (by rw [hf2, if_pos (by omega), if_pos c_38])
  refine g_iconst (nI 0) dX12_steps_4 (by decide) ?_
  refine g_istore_n dX12_steps_5 (by decide) rfl ?_
  refine g_aload_n dX12_steps_6 rfl ?_
  refine g_getf fl12_61 hM.1 rfl dX12_steps_7 ?_
  refine g_istore_n dX12_steps_10 (by decide) rfl ?_
  refine g_iconst (nI 0) dX12_steps_11 (by decide) ?_
  refine g_istore dX12_steps_12 (by decide) rfl ?_
  exact loop 40 0 0 L.length (by omega) (by omega) (Nat.le_refl _) (by omega) rfl
