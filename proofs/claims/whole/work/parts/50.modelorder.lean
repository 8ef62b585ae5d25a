/-! the reference: an order carried out, days -/
theorem clampN_eq2 {x : Int32} {n : Nat} (hn : n < 2 ^ 31) : (if (if nI 0 < x then x else nI 0) < nI n then (if nI 0 < x then x else nI 0) else nI n) = nI (clampN x n) := by
  have e0 : (nI 0).toInt = 0 := rfl
  have en : (nI n).toInt = (n : Int) := nI_toInt hn
  rw [← clampN_eq hn]
  apply Int32.toInt_inj.mp
  repeat' split
  all_goals (simp only [Int32.lt_iff_toInt_lt] at * <;> omega)
theorem nrB (b : Bool) : narrow .boolean (.int (b2i b)) = .int (b2i b) := by cases b <;> rfl
theorem MdV.put {X : gX} {h h1 : gH} {m pl j : Nat} {x : Int32} {L : List Int32} {I : Nat → Int32} {A : Nat → Nat → Int32} {V : Nat → Int64} (hV : MdV X h m pl L I A V) (hj : j ≠ 11) (hM : MdB X h1 m L.length pl (upd I j x) A V) : MdV X h1 m pl L (upd I j x) A V :=
  ⟨hM, hV.2.1, hV.2.2.1, by rw [upd_ne (fun e => hj e.symm)]; exact hV.2.2.2⟩
/-- a change of the reference's letters, ranks, rows and stack, its day and what it carried out alone -/
def MdP (I I' : Nat → Int32) (A A' : Nat → Nat → Int32) : Prop := (∀ j, j ≠ 6 → j ≠ 7 → j ≠ 11 → I' j = I j) ∧ ∀ k, k ≠ 5 → k ≠ 7 → k ≠ 8 → k ≠ 9 → k ≠ 10 → A' k = A k
theorem MdP.rf {I : Nat → Int32} {A : Nat → Nat → Int32} : MdP I I A A := ⟨fun _ _ _ _ => rfl, fun _ _ _ _ _ _ => rfl⟩
theorem MdP.trans {I I1 I2 : Nat → Int32} {A A1 A2 : Nat → Nat → Int32} (x : MdP I I1 A A1) (y : MdP I1 I2 A1 A2) : MdP I I2 A A2 := ⟨fun j a b c => (y.1 j a b c).trans (x.1 j a b c), fun k a b c d e => (y.2 k a b c d e).trans (x.2 k a b c d e)⟩
theorem MdG.toP {I I' : Nat → Int32} {A A' : Nat → Nat → Int32} (x : MdG I I' A A') : MdP I I' A A' := ⟨fun j _ _ c => x.1 j c, x.2⟩
theorem MdG.stk {I : Nat → Int32} {A : Nat → Nat → Int32} {f : Nat → Int32} : MdG I I A (va_up A 9 f) := ⟨fun _ _ => rfl, fun _ _ _ _ d _ => vu_ne d⟩
set_option maxRecDepth 100000 in
set_option maxHeartbeats 4000000 in
theorem m12_carriesOut {X : gX} {h : gH} {z m pl : Nat} {I : Nat → Int32} {A : Nat → Nat → Int32} {V : Nat → Int64} {L : List Int32} {P : PlM} (k : Nat) (hk : k < P.2.1.1) (hok : OkP P) (hP : MpP X h pl P) (hd : pl + 12 ≤ m ∨ pl = m + 2 ∨ m + 25 ≤ pl) (hV : MdV X h m pl L I A V) : gM X yX12_carriesOut cX12_carriesOut 2 (some .boolean) (5, 0, 0) [.ref m, .int (nI k)] h z (fun r h' z' => r = some (.int (b2i (dos P (P.2.1.2 k) L (I 6)).1)) ∧ z' = z ∧ (∃ I' A', MdV X h' m pl (dos P (P.2.1.2 k) L (I 6)).2 I' A' V ∧ MdG I I' A A') ∧ OffM h h' m) gNoX := by
  have hok' := hok
  obtain ⟨⟨h8, hW8⟩, ⟨h16, hoo⟩, -⟩ := hok'
  obtain ⟨J, B, U1, U2, hB, hJ, hWs, hOr, hS⟩ := id hP
  have hOk := hOr k hk
  have hO0 := hoo k hk
  have hn := hV.2.1
  refine gM.of px12 (Nat.le_of_ble_eq_true rfl) ?_
  intro F hE
  generalize P.2.1.2 k = q at hE hOk hO0
  obtain ⟨⟨act, ins, hrd⟩, s, t, e⟩ := q
  simp only [OkO] at hO0 hOk
  obtain ⟨⟨g1, g2, g3⟩, -, hc⟩ := hO0
  obtain ⟨o1, o2, o3, o4, o5, o6⟩ := hOk
  rcases hc with ⟨rfl, a1, a2, a3⟩ | ⟨rfl, a1⟩ | ⟨a0, a1⟩
  · refine g_aload_n dX12_carriesOut_0 rfl ?_
    refine g_getf fl12_20 hV.1.1 rfl dX12_carriesOut_1 ?_
    refine g_getfN fl12_151 hB.1 rfl dX12_carriesOut_4 ?_
    refine g_iload_n dX12_carriesOut_7 rfl ?_
    refine g_ialdN (hB.2.1 2 (by decide)) (by show _ < 16; omega) (by decide) dX12_carriesOut_8 ?_
    rw [o1]
    refine g_iconst (nI 1) dX12_carriesOut_9 (by decide) ?_
    refine g_icmp_neN 29 dX12_carriesOut_10 (by decide) (by omega) (by omega) (fun c_10 => ?_) (fun c_10 => ?_)
    · exact absurd rfl c_10
    · refine g_aload_n dX12_carriesOut_13 rfl ?_
      refine g_aload_n dX12_carriesOut_14 rfl ?_
      refine g_getf fl12_20 hV.1.1 rfl dX12_carriesOut_15 ?_
      refine g_getfN fl12_154 hB.1 rfl dX12_carriesOut_18 ?_
      refine g_iload_n dX12_carriesOut_21 rfl ?_
      refine g_laldN (hB.2.2.2) (by omega) (by decide) dX12_carriesOut_22 ?_
      rw [o2 rfl]
      refine g_callV0 kX12_157 (m12_hearsWord hrd a3 a1 a2 hV) hV.1.1 rfl rfl rfl (Nat.le_of_ble_eq_true rfl) (by decide) (by decide) (by decide) (by decide) dX12_carriesOut_23 ?_
      rintro v1 h2 z1 ⟨rfl, rfl, ⟨I2, A2, hV2, hH2⟩, hO2⟩
      refine g_goto 97 dX12_carriesOut_26 (by decide) ?_
      refine g_iconst (nI 1) dX12_carriesOut_97 (by decide) ?_
      exact g_iret hE rfl (⟨rfl, rfl, ⟨I2, A2, hV2, hH2.toG⟩, hO2⟩) dX12_carriesOut_98
  · refine g_aload_n dX12_carriesOut_0 rfl ?_
    refine g_getf fl12_20 hV.1.1 rfl dX12_carriesOut_1 ?_
    refine g_getfN fl12_151 hB.1 rfl dX12_carriesOut_4 ?_
    refine g_iload_n dX12_carriesOut_7 rfl ?_
    refine g_ialdN (hB.2.1 2 (by decide)) (by show _ < 16; omega) (by decide) dX12_carriesOut_8 ?_
    rw [o1]
    refine g_iconst (nI 1) dX12_carriesOut_9 (by decide) ?_
    refine g_icmp_neN 29 dX12_carriesOut_10 (by decide) (by omega) (by omega) (fun c_10 => ?_) (fun c_10 => ?_)
    · refine g_aload_n dX12_carriesOut_29 rfl ?_
      refine g_getf fl12_20 hV.1.1 rfl dX12_carriesOut_30 ?_
      refine g_getfN fl12_151 hB.1 rfl dX12_carriesOut_33 ?_
      refine g_iload_n dX12_carriesOut_36 rfl ?_
      refine g_ialdN (hB.2.1 2 (by decide)) (by show _ < 16; omega) (by decide) dX12_carriesOut_37 ?_
      rw [o1]
      refine g_iconst (nI 2) dX12_carriesOut_38 (by decide) ?_
      refine g_icmp_neN 58 dX12_carriesOut_39 (by decide) (by omega) (by omega) (fun c_39 => ?_) (fun c_39 => ?_)
      · exact absurd rfl c_39
      · refine g_aload_n dX12_carriesOut_42 rfl ?_
        refine g_aload_n dX12_carriesOut_43 rfl ?_
        refine g_getf fl12_20 hV.1.1 rfl dX12_carriesOut_44 ?_
        refine g_getfN fl12_161 hB.1 rfl dX12_carriesOut_47 ?_
        refine g_iload_n dX12_carriesOut_50 rfl ?_
        refine g_ialdN (hB.2.1 3 (by decide)) (by show _ < 16; omega) (by decide) dX12_carriesOut_51 ?_
        rw [o3 rfl]
        refine g_callV0 kX12_164 (m12_mocks ins hB (hWs ins a1) hd hV) hV.1.1 rfl rfl rfl (Nat.le_of_ble_eq_true rfl) (by decide) (by decide) (by decide) (by decide) dX12_carriesOut_52 ?_
        rintro v1 h2 z1 ⟨rfl, rfl, ⟨I2, A2, hV2, hH2⟩, hO2⟩
        refine g_goto 97 dX12_carriesOut_55 (by decide) ?_
        refine g_iconst (nI 1) dX12_carriesOut_97 (by decide) ?_
        exact g_iret hE rfl (⟨rfl, rfl, ⟨I2, A2, hV2, hH2.toG⟩, hO2⟩) dX12_carriesOut_98
    · exact absurd c_10 (by decide)
  · refine g_aload_n dX12_carriesOut_0 rfl ?_
    refine g_getf fl12_20 hV.1.1 rfl dX12_carriesOut_1 ?_
    refine g_getfN fl12_151 hB.1 rfl dX12_carriesOut_4 ?_
    refine g_iload_n dX12_carriesOut_7 rfl ?_
    refine g_ialdN (hB.2.1 2 (by decide)) (by show _ < 16; omega) (by decide) dX12_carriesOut_8 ?_
    rw [o1]
    refine g_iconst (nI 1) dX12_carriesOut_9 (by decide) ?_
    refine g_icmp_neN 29 dX12_carriesOut_10 (by decide) (by omega) (by omega) (fun c_10 => ?_) (fun c_10 => ?_)
    · refine g_aload_n dX12_carriesOut_29 rfl ?_
      refine g_getf fl12_20 hV.1.1 rfl dX12_carriesOut_30 ?_
      refine g_getfN fl12_151 hB.1 rfl dX12_carriesOut_33 ?_
      refine g_iload_n dX12_carriesOut_36 rfl ?_
      refine g_ialdN (hB.2.1 2 (by decide)) (by show _ < 16; omega) (by decide) dX12_carriesOut_37 ?_
      rw [o1]
      refine g_iconst (nI 2) dX12_carriesOut_38 (by decide) ?_
      refine g_icmp_neN 58 dX12_carriesOut_39 (by decide) (by omega) (by omega) (fun c_39 => ?_) (fun c_39 => ?_)
      · refine g_aload_n dX12_carriesOut_58 rfl ?_
        refine g_iload_n dX12_carriesOut_59 rfl ?_
        refine g_aload_n dX12_carriesOut_60 rfl ?_
        refine g_getf fl12_61 hV.1.1 rfl dX12_carriesOut_61 ?_
        refine g_iconst (nI 0) dX12_carriesOut_64 (by decide) ?_
        refine g_aload_n dX12_carriesOut_65 rfl ?_
        refine g_aload_n dX12_carriesOut_66 rfl ?_
        refine g_getf fl12_20 hV.1.1 rfl dX12_carriesOut_67 ?_
        refine g_getfN fl12_167 hB.1 rfl dX12_carriesOut_70 ?_
        refine g_iload_n dX12_carriesOut_73 rfl ?_
        refine g_ialdN (hB.2.1 4 (by decide)) (by show _ < 16; omega) (by decide) dX12_carriesOut_74 ?_
        rw [o4]
        refine g_aload_n dX12_carriesOut_75 rfl ?_
        refine g_getf fl12_20 hV.1.1 rfl dX12_carriesOut_76 ?_
        refine g_getfN fl12_170 hB.1 rfl dX12_carriesOut_79 ?_
        refine g_iload_n dX12_carriesOut_82 rfl ?_
        refine g_ialdN (hB.2.1 5 (by decide)) (by show _ < 16; omega) (by decide) dX12_carriesOut_83 ?_
        rw [o5]
        refine g_callV0 kX12_173 (m12_result s t _ g1 (by omega) hok (vl_of a1 L (I 6)).1 hP hd hV) hV.1.1 rfl rfl rfl (Nat.le_of_ble_eq_true rfl) (by decide) (by decide) (by decide) (by decide) dX12_carriesOut_84 ?_
        rintro v1 h2 z1 ⟨rfl, rfl, ⟨f2, hV2⟩, hO2⟩
        refine gmax wmath_max wlX12_120 (by decide) (Nat.le_of_ble_eq_true rfl) (by decide) (by decide) dX12_carriesOut_87 ?_
        refine gmin wmath_min wlX12_176 (by decide) (Nat.le_of_ble_eq_true rfl) (by decide) (by decide) dX12_carriesOut_90 ?_
        rw [clampN_eq2 (by omega)]
        have hcl := clampN_le (x := vl P L (I 6) s t) (n := L.length) (by omega)
        refine g_callV0 kX12_179 (m12_isMany k _ (by omega) (hB.off hO2 hd) hcl hV2) hV2.1.1 rfl rfl rfl (Nat.le_of_ble_eq_true rfl) (by decide) (by decide) (by decide) (by decide) dX12_carriesOut_93 ?_
        rintro v1 h3 z1 ⟨rfl, rfl, ⟨I3, A3, hV3, hH3⟩, hO3⟩
        rcases a0 with rfl | rfl
        · rw [if_pos o1] at hV3
          exact g_iret hE (nrB _) ⟨rfl, rfl, ⟨I3, A3, hV3, MdG.stk.trans hH3.toG⟩, hO2.trans hO3⟩ dX12_carriesOut_96
        · rw [if_neg (by rw [o1]; decide)] at hV3
          exact g_iret hE (nrB _) ⟨rfl, rfl, ⟨I3, A3, hV3, MdG.stk.trans hH3.toG⟩, hO2.trans hO3⟩ dX12_carriesOut_96
      · exact absurd c_39 (by omega)
    · exact absurd c_10 (by omega)
set_option maxRecDepth 100000 in
set_option maxHeartbeats 4000000 in
theorem m12_pass {X : gX} {h : gH} {z m pl : Nat} {I : Nat → Int32} {A : Nat → Nat → Int32} {V : Nat → Int64} {L : List Int32} {P : PlM} (d : Nat) (hdd : d ≤ 30) (hok : OkP P) (hP : MpP X h pl P) (hd : pl + 12 ≤ m ∨ pl = m + 2 ∨ m + 25 ≤ pl) (hV : MdV X h m pl L I A V) : gM X yX12_pass cX12_pass 6 (some .int) (6, 0, 0) [.ref m, .int (nI d)] h z (fun r h' z' => r = some (.int ((dyU P ((L, I 7), I 6) d).1.2 - I 7)) ∧ z' = z ∧ (∃ I' A', MdV X h' m pl (dyU P ((L, I 7), I 6) d).1.1 I' A' V ∧ MdP I I' A A' ∧ I' 7 = (dyU P ((L, I 7), I 6) d).1.2 ∧ I' 6 = (dyU P ((L, I 7), I 6) d).2) ∧ OffM h h' m) gNoX := by
  have hok' := hok
  obtain ⟨⟨h8, hW8⟩, ⟨h16, hoo⟩, -⟩ := hok'
  refine gM.of px12 (Nat.le_of_ble_eq_true rfl) ?_
  intro F hE
  have inner : ∀ (r j k : Nat) (o : Option Value) (L0 : List Int32) (c0 : Int32) (h1 : gH) (I1 : Nat → Int32) (A1 : Nat → Nat → Int32), j + r = P.2.1.1 → MdV X h1 m pl (odU P (I1 6) (L0, c0) j).1 I1 A1 V → I1 7 = (odU P (I1 6) (L0, c0) j).2 → MdP I I1 A A1 → OffM h h1 m → (∀ (o : Option Value) (h2 : gH) (I2 : Nat → Int32) (A2 : Nat → Nat → Int32), I2 6 = I1 6 → MdV X h2 m pl (odU P (I1 6) (L0, c0) P.2.1.1).1 I2 A2 V → I2 7 = (odU P (I1 6) (L0, c0) P.2.1.1).2 → MdP I I2 A A2 → OffM h h2 m → G X F cX12_pass 6 yX12_pass.cls (6, 0, 0) 0 0 119 [some (.ref m), some (.int (nI d)), some (.int (I 7)), some (.int (nI k)), some (.int (nI P.2.1.1)), o] [] h2 z) → G X F cX12_pass 6 yX12_pass.cls (6, 0, 0) 0 0 15 [some (.ref m), some (.int (nI d)), some (.int (I 7)), some (.int (nI k)), some (.int (nI j)), o] [] h1 z := by
    intro r
    induction r with
    | zero =>
      intro j k o L0 c0 h1 I1 A1 hj hV h7 hH hO K
      obtain ⟨J, B, U1, U2, hB, hJ, hWs, hOr, hS⟩ := hP.off hO hd
      refine g_iload dX12_pass_15 rfl ?_
      refine g_aload_n dX12_pass_17 rfl ?_
      refine g_getf fl12_20 hV.1.1 rfl dX12_pass_18 ?_
      refine g_getfN fl12_185 hB.1 rfl dX12_pass_21 ?_
      rw [hJ.2.1]
      refine g_icmp_geN 119 dX12_pass_24 (by decide) (by omega) (by omega) (fun c_24 => ?_) (fun c_24 => ?_)
      · have hj2 : j = P.2.1.1 := by omega
        subst hj2
        exact K o h1 I1 A1 rfl hV h7 hH hO
      · exact absurd c_24 (by omega)
    | succ r ih =>
      intro j k o L0 c0 h1 I1 A1 hj hV h7 hH hO K
      have hP1 := hP.off hO hd
      obtain ⟨J, B, U1, U2, hB, hJ, hWs, hOr, hS⟩ := id hP1
      obtain ⟨o1, o2, o3, o4, o5, o6⟩ := hOr j (by omega)
      obtain ⟨⟨g1, g2, g3⟩, gt, -⟩ := hoo j (by omega)
      obtain ⟨⟨h400, -⟩⟩ : (P.2.2.1 ≤ 400 ∧ True) ∧ True := ⟨⟨hok.2.2.1, trivial⟩, trivial⟩
      have hu : odU P (I1 6) (L0, c0) (j + 1) = od1 P (P.2.1.2 j) (I1 6) (odU P (I1 6) (L0, c0) j) := rfl
      generalize odU P (I1 6) (L0, c0) j = sj at hV h7 hu
      have j109 : ∀ (b : Bool) (L2 : List Int32) (o : Option Value) (h2 : gH) (I2 : Nat → Int32) (A2 : Nat → Nat → Int32), odU P (I1 6) (L0, c0) (j + 1) = (L2, sj.2 + b2i b) → I2 7 = sj.2 → I2 6 = I1 6 → MdV X h2 m pl L2 I2 A2 V → MdP I I2 A A2 → OffM h h2 m → G X F cX12_pass 6 yX12_pass.cls (6, 0, 0) 0 0 109 [some (.ref m), some (.int (nI d)), some (.int (I 7)), some (.int (nI k)), some (.int (nI j)), o] [.int (b2i b), .int (I2 7), .ref m] h2 z := by
        intro b L2 o h2 I2 A2 e1 e7 e6 hV hH hO
        refine g_iadd dX12_pass_109 ?_
        refine md_put7 fl12_103 hV.1 hO dX12_pass_110 (fun h3 hM hO => ?_)
        refine g_iincN dX12_pass_113 rfl (by decide) rfl ?_
        refine g_goto 15 dX12_pass_116 (by decide) ?_
        refine ih (j + 1) k o L0 c0 h3 (upd I2 7 (I2 7 + b2i b)) A2 (by omega) ?_ ?_ (hH.trans ⟨fun i _ b _ => upd_ne b, fun _ _ _ _ _ _ => rfl⟩) hO ?_
        · rw [upd_ne (by decide), e6, e1]; exact hV.put (by decide) hM
        · rw [upd_same, upd_ne (show (6 : Nat) ≠ 7 by decide), e6, e1, e7]
        · rw [upd_ne (by decide), e6]; exact K
      have j83 : ∀ (o : Option Value) (h2 : gH) (A2 : Nat → Nat → Int32), MdV X h2 m pl sj.1 I1 A2 V → MdP I I1 A A2 → OffM h h2 m → G X F cX12_pass 6 yX12_pass.cls (6, 0, 0) 0 0 83 [some (.ref m), some (.int (nI d)), some (.int (I 7)), some (.int (nI k)), some (.int (nI j)), o] [.int (b2i (hld P (P.2.1.2 j) sj.1 (I1 6)))] h2 z := by
        intro o h2 A2 hV hH hO
        refine g_istore dX12_pass_83 (by decide) rfl ?_
        refine g_aload_n dX12_pass_85 rfl ?_
        refine g_dup dX12_pass_86 rfl ?_
        refine g_getf fl12_103 hV.1.1 rfl dX12_pass_87 ?_
        refine g_iload dX12_pass_90 rfl ?_
        refine g_if_eqB 108 dX12_pass_92 (by decide) (fun c_92 => ?_) (fun c_92 => ?_)
        · refine g_iconst (nI 0) dX12_pass_108 (by decide) ?_
          exact j109 false sj.1 _ h2 I1 A2 (by rw [hu]; unfold od1; rw [if_neg (by rw [c_92]; decide)]; exact Prod.ext rfl (Int32.add_zero _).symm) h7 rfl hV hH hO
        · refine g_aload_n dX12_pass_95 rfl ?_
          refine g_iload dX12_pass_96 rfl ?_
          refine g_callV0 kX12_191 (m12_carriesOut j (by omega) hok (hP.off hO hd) hd hV) hV.1.1 rfl rfl rfl (Nat.le_of_ble_eq_true rfl) (by decide) (by decide) (by decide) (by decide) dX12_pass_98 ?_
          rintro v1 h3 z1 ⟨rfl, rfl, ⟨I3, A3, hV3, hH3⟩, hO3⟩
          refine g_if_eqB 108 dX12_pass_101 (by decide) (fun c_101 => ?_) (fun c_101 => ?_)
          · refine g_iconst (nI 0) dX12_pass_108 (by decide) ?_
            rw [← hH3.1 7 (by decide)]
            exact j109 false _ _ h3 I3 A3 (by rw [hu]; unfold od1; rw [if_pos c_92, c_101]) ((hH3.1 7 (by decide)).trans h7) (hH3.1 6 (by decide)) hV3 (hH.trans hH3.toP) (hO.trans hO3)
          · refine g_iconst (nI 1) dX12_pass_104 (by decide) ?_
            refine g_goto 109 dX12_pass_105 (by decide) ?_
            rw [← hH3.1 7 (by decide)]
            exact j109 true _ _ h3 I3 A3 (by rw [hu]; unfold od1; rw [if_pos c_92, c_101]) ((hH3.1 7 (by decide)).trans h7) (hH3.1 6 (by decide)) hV3 (hH.trans hH3.toP) (hO.trans hO3)
      refine g_iload dX12_pass_15 rfl ?_
      refine g_aload_n dX12_pass_17 rfl ?_
      refine g_getf fl12_20 hV.1.1 rfl dX12_pass_18 ?_
      refine g_getfN fl12_185 hB.1 rfl dX12_pass_21 ?_
      rw [hJ.2.1]
      refine g_icmp_geN 119 dX12_pass_24 (by decide) (by omega) (by omega) (fun c_24 => ?_) (fun c_24 => ?_)
      · exact absurd c_24 (by omega)
      · refine g_aload_n dX12_pass_27 rfl ?_
        refine g_getf fl12_20 hV.1.1 rfl dX12_pass_28 ?_
        refine g_getfN fl12_170 hB.1 rfl dX12_pass_31 ?_
        refine g_iload dX12_pass_34 rfl ?_
        refine g_ialdN (hB.2.1 5 (by decide)) (by show _ < 16; omega) (by decide) dX12_pass_36 ?_
        rw [o5]
        refine g_aload_n dX12_pass_37 rfl ?_
        refine g_getf fl12_20 hV.1.1 rfl dX12_pass_38 ?_
        refine g_getfN fl12_188 hB.1 rfl dX12_pass_41 ?_
        refine g_iload dX12_pass_44 rfl ?_
        refine g_ialdN (hB.2.1 6 (by decide)) (by show _ < 16; omega) (by decide) dX12_pass_46 ?_
        rw [o6]
        refine g_icmp_eqN 78 dX12_pass_47 (by decide) (by omega) (by omega) (fun c_47 => ?_) (fun c_47 => ?_)
        · refine g_iconst (nI 1) dX12_pass_78 (by decide) ?_
          refine g_goto 83 dX12_pass_79 (by decide) ?_
          rw [show (nI 1 : Int32) = b2i (hld P (P.2.1.2 j) sj.1 (I1 6)) from by unfold hld; rw [decide_eq_true c_47]; rfl]
          exact j83 _ h1 A1 hV hH hO
        · refine g_aload_n dX12_pass_50 rfl ?_
          refine g_aload_n dX12_pass_51 rfl ?_
          refine g_getf fl12_20 hV.1.1 rfl dX12_pass_52 ?_
          refine g_getfN fl12_170 hB.1 rfl dX12_pass_55 ?_
          refine g_iload dX12_pass_58 rfl ?_
          refine g_ialdN (hB.2.1 5 (by decide)) (by show _ < 16; omega) (by decide) dX12_pass_60 ?_
          rw [o5]
          refine g_aload_n dX12_pass_61 rfl ?_
          refine g_getf fl12_20 hV.1.1 rfl dX12_pass_62 ?_
          refine g_getfN fl12_188 hB.1 rfl dX12_pass_65 ?_
          refine g_iload dX12_pass_68 rfl ?_
          refine g_ialdN (hB.2.1 6 (by decide)) (by show _ < 16; omega) (by decide) dX12_pass_70 ?_
          rw [o6]
          refine g_callV0 kX12_173 (m12_result _ _ _ g2 (by omega) hok (vl_of (gt (by omega)) sj.1 (I1 6)).1 hP1 hd hV) hV.1.1 rfl rfl rfl (Nat.le_of_ble_eq_true rfl) (by decide) (by decide) (by decide) (by decide) dX12_pass_71 ?_
          rintro v1 h2 z1 ⟨rfl, rfl, ⟨f2, hV2⟩, hO2⟩
          refine g_iconst (nI 1) dX12_pass_74 (by decide) ?_
          refine g_icmp_ne 82 dX12_pass_75 (by decide) (fun c_75 => ?_) (fun c_75 => ?_)
          · refine g_iconst (nI 0) dX12_pass_82 (by decide) ?_
            rw [show (nI 0 : Int32) = b2i (hld P (P.2.1.2 j) sj.1 (I1 6)) from by unfold hld; rw [decide_eq_false c_47, decide_eq_false (show ¬ vl P sj.1 (I1 6) _ _ = 1 from c_75)]; rfl]
            exact j83 _ h2 _ hV2 (hH.trans MdG.stk.toP) (hO.trans hO2)
          · refine g_iconst (nI 1) dX12_pass_78 (by decide) ?_
            refine g_goto 83 dX12_pass_79 (by decide) ?_
            rw [show (nI 1 : Int32) = b2i (hld P (P.2.1.2 j) sj.1 (I1 6)) from by unfold hld; rw [decide_eq_true (show vl P sj.1 (I1 6) _ _ = 1 from c_75), Bool.or_true]; rfl]
            exact j83 _ h2 _ hV2 (hH.trans MdG.stk.toP) (hO.trans hO2)
  have outer : ∀ (r k : Nat) (oa ob : Option Value) (h1 : gH) (I1 : Nat → Int32) (A1 : Nat → Nat → Int32), k + r = d → MdV X h1 m pl (dyU P ((L, I 7), I 6) k).1.1 I1 A1 V → I1 7 = (dyU P ((L, I 7), I 6) k).1.2 → I1 6 = (dyU P ((L, I 7), I 6) k).2 → MdP I I1 A A1 → OffM h h1 m → G X F cX12_pass 6 yX12_pass.cls (6, 0, 0) 0 0 7 [some (.ref m), some (.int (nI d)), some (.int (I 7)), some (.int (nI k)), oa, ob] [] h1 z := by
    intro r
    induction r with
    | zero =>
      intro k oa ob h1 I1 A1 hk hV h7 h6 hH hO
      have hkd : k = d := by omega
      subst hkd
      refine g_iload_n dX12_pass_7 rfl ?_
      refine g_iload_n dX12_pass_8 rfl ?_
      refine g_icmp_geN 135 dX12_pass_9 (by decide) (by omega) (by omega) (fun c_9 => ?_) (fun c_9 => ?_)
      · refine g_aload_n dX12_pass_135 rfl ?_
        refine g_getf fl12_103 hV.1.1 rfl dX12_pass_136 ?_
        refine g_iload_n dX12_pass_139 rfl ?_
        refine g_isub dX12_pass_140 ?_
        exact g_iret hE rfl (⟨by rw [h7], rfl, ⟨I1, A1, hV, hH, h7, h6⟩, hO⟩) dX12_pass_141
      · exact absurd c_9 (by omega)
    | succ r ih =>
      intro k oa ob h1 I1 A1 hk hV h7 h6 hH hO
      refine g_iload_n dX12_pass_7 rfl ?_
      refine g_iload_n dX12_pass_8 rfl ?_
      refine g_icmp_geN 135 dX12_pass_9 (by decide) (by omega) (by omega) (fun c_9 => ?_) (fun c_9 => ?_)
      · exact absurd c_9 (by omega)
      · refine g_iconst (nI 0) dX12_pass_12 (by decide) ?_
        refine g_istore dX12_pass_13 (by decide) rfl ?_
        refine inner P.2.1.1 0 k ob (dyU P ((L, I 7), I 6) k).1.1 (dyU P ((L, I 7), I 6) k).1.2 h1 I1 A1 (by omega) hV h7 hH hO ?_
        clear hV h7 hH hO
        intro o2 h2 I2 A2 e6 hV h7 hH hO
        rw [h6] at e6 hV h7
        refine g_aload_n dX12_pass_119 rfl ?_
        refine g_dup dX12_pass_120 rfl ?_
        refine g_getf fl12_97 hV.1.1 rfl dX12_pass_121 ?_
        refine g_iconst (nI 1) dX12_pass_124 (by decide) ?_
        refine g_iadd dX12_pass_125 ?_
        refine md_put6 fl12_97 hV.1 hO dX12_pass_126 (fun h3 hM hO => ?_)
        refine g_iincN dX12_pass_129 rfl (by decide) rfl ?_
        refine g_goto 7 dX12_pass_132 (by decide) ?_
        refine ih (k + 1) _ _ h3 (upd I2 6 (I2 6 + nI 1)) A2 (by omega) (hV.put (by decide) hM) ((upd_ne (by decide)).trans h7) ?_ (hH.trans ⟨fun i a _ _ => upd_ne a, fun _ _ _ _ _ _ => rfl⟩) hO
        rw [upd_same, e6]; rfl
  refine g_aload_n dX12_pass_0 rfl ?_
  refine g_getf fl12_103 hV.1.1 rfl dX12_pass_1 ?_
  refine g_istore_n dX12_pass_4 (by decide) rfl ?_
  refine g_iconst (nI 0) dX12_pass_5 (by decide) ?_
  refine g_istore_n dX12_pass_6 (by decide) rfl ?_
  exact outer d 0 _ _ h I A (by omega) hV rfl rfl MdP.rf OffM.rf
