/-! the reference: mocking, echoing or forgetting as an order asks -/
set_option maxRecDepth 100000 in
set_option maxHeartbeats 4000000 in
theorem m12_mocks {X : gX} {h : gH} {z m pl : Nat} {I : Nat → Int32} {A : Nat → Nat → Int32} {V : Nat → Int64} {L : List Int32} {J : Nat → Int32} {B : Nat → Nat → Int32} {U1 U2 : Nat → Int64} {W : List Int32} (i : Nat) (hP : MpB X h pl J B U1 U2) (hW : MpW B i W) (hd : pl + 12 ≤ m ∨ pl = m + 2 ∨ m + 25 ≤ pl) (hV : MdV X h m pl L I A V) : gM X yX12_mocks cX12_mocks 3 none (3, 0, 0) [.ref m, .int (nI i)] h z (mdQp X h z m pl I A V (W.foldl hearL L)) gNoX := by
  obtain ⟨hi8, hw10, hW0, hW1⟩ := id hW
  refine gM.of px12 (Nat.le_of_ble_eq_true rfl) ?_
  intro F hE
  have hO : OffM h h m := OffM.rf
  have loop : ∀ (r j : Nat), j + r = W.length → ∀ (h1 : gH) (I1 : Nat → Int32) (A1 : Nat → Nat → Int32), MdV X h1 m pl ((W.take j).foldl hearL L) I1 A1 V → MdH I I1 A A1 → OffM h h1 m → G X F cX12_mocks 3 yX12_mocks.cls (3, 0, 0) 0 0 2 [some (.ref m), some (.int (nI i)), some (.int (nI j))] [] h1 z := by
    intro r
    induction r with
    | zero =>
      intro j hj h1 I1 A1 hV hH hO
      have hP := hP.off hO hd
      refine g_iload_n dX12_mocks_2 rfl ?_
      refine g_aload_n dX12_mocks_3 rfl ?_
      refine g_getf fl12_20 hV.1.1 rfl dX12_mocks_4 ?_
      refine g_getfN fl12_82 hP.1 rfl dX12_mocks_7 ?_
      refine g_iload_n dX12_mocks_10 rfl ?_
      refine g_ialdN (hP.2.1 0 (by decide)) (by show i < 8; omega) (by decide) dX12_mocks_11 ?_
      rw [hW0]
      refine g_icmp_geN 39 dX12_mocks_12 (by decide) (by omega) (by omega) (fun c_12 => ?_) (fun c_12 => ?_)
      · exact g_vret hE (⟨rfl, rfl, ⟨I1, A1, by rw [show j = W.length by omega, List.take_length] at hV; exact hV, hH⟩, hO⟩) dX12_mocks_39
      · exact absurd c_12 (by omega)
    | succ r ih =>
      intro j hj h1 I1 A1 hV hH hO
      have hP := hP.off hO hd
      refine g_iload_n dX12_mocks_2 rfl ?_
      refine g_aload_n dX12_mocks_3 rfl ?_
      refine g_getf fl12_20 hV.1.1 rfl dX12_mocks_4 ?_
      refine g_getfN fl12_82 hP.1 rfl dX12_mocks_7 ?_
      refine g_iload_n dX12_mocks_10 rfl ?_
      refine g_ialdN (hP.2.1 0 (by decide)) (by show i < 8; omega) (by decide) dX12_mocks_11 ?_
      rw [hW0]
      refine g_icmp_geN 39 dX12_mocks_12 (by decide) (by omega) (by omega) (fun c_12 => ?_) (fun c_12 => ?_)
      · exact absurd c_12 (by omega)
      · refine g_aload_n dX12_mocks_15 rfl ?_
        refine g_aload_n dX12_mocks_16 rfl ?_
        refine g_getf fl12_20 hV.1.1 rfl dX12_mocks_17 ?_
        refine g_getfN fl12_85 hP.1 rfl dX12_mocks_20 ?_
        refine g_bipush (nI 10) dX12_mocks_23 (by decide) ?_
        refine g_iload_n dX12_mocks_25 rfl ?_
        first | refine g_imulN dX12_mocks_26 ?_ | refine g_imul dX12_mocks_26 ?_
        refine g_iload_n dX12_mocks_27 rfl ?_
        first | refine g_iaddN dX12_mocks_28 ?_ | refine g_iadd dX12_mocks_28 ?_
        refine g_ialdN (hP.2.1 1 (by decide)) (by show _ < 80; omega) (by decide) dX12_mocks_29 ?_
        rw [hW1 _ (by omega)]
        refine g_callV0 kX12_79 (m12_hears _ hV) hV.1.1 rfl rfl rfl (Nat.le_of_ble_eq_true rfl) (by decide) (by decide) (by decide) (by decide) dX12_mocks_30 ?_
        rintro v1 h2 z1 ⟨rfl, rfl, ⟨I2, A2, hV2, hH2, h10, -⟩, hO2⟩
        refine g_iincN dX12_mocks_33 rfl (by decide) rfl ?_
        refine g_goto 2 dX12_mocks_36 (by decide) ?_
        exact ih (j + 1) (by omega) h2 I2 A2 (by rw [fold_take (by omega)]; exact hV2) (hH.trans hH2) (hO.trans hO2)
  refine g_iconst (nI 0) dX12_mocks_0 (by decide) ?_
  refine g_istore_n dX12_mocks_1 (by decide) rfl ?_
  exact loop W.length 0 (by omega) h I A hV MdH.rf hO
set_option maxRecDepth 100000 in
set_option maxHeartbeats 4000000 in
theorem m12_isMany {X : gX} {h : gH} {z m pl : Nat} {I : Nat → Int32} {A : Nat → Nat → Int32} {V : Nat → Int64} {L : List Int32} {J : Nat → Int32} {B : Nat → Nat → Int32} {U1 U2 : Nat → Int64} (k g : Nat) (hk : k < 16) (hP : MpB X h pl J B U1 U2) (hg : g ≤ L.length) (hV : MdV X h m pl L I A V) : gM X yX12_isMany cX12_isMany 3 (some .boolean) (4, 0, 0) [.ref m, .int (nI k), .int (nI g)] h z (fun r h' z' => r = some (.int (b2i (decide (g ≠ 0)))) ∧ z' = z ∧ (∃ I' A', MdV X h' m pl (if B 2 k = nI 3 then (L.drop (L.length - g)).foldl hearL L else L.drop g) I' A' V ∧ MdH I I' A A') ∧ OffM h h' m) gNoX := by
  have hn := hV.2.1
  refine gM.of px12 (Nat.le_of_ble_eq_true rfl) ?_
  intro F hE
  refine g_iload_n dX12_isMany_0 rfl ?_
  refine g_if_neN 6 dX12_isMany_1 (by decide) (by omega) (fun c_1 => ?_) (fun c_1 => ?_)
  · refine g_aload_n dX12_isMany_6 rfl ?_
    refine g_getf fl12_20 hV.1.1 rfl dX12_isMany_7 ?_
    refine g_getfN fl12_151 hP.1 rfl dX12_isMany_10 ?_
    refine g_iload_n dX12_isMany_13 rfl ?_
    refine g_ialdN (hP.2.1 2 (by decide)) (by show _ < 16; omega) (by decide) dX12_isMany_14 ?_
    refine g_iconst (nI 3) dX12_isMany_15 (by decide) ?_
    refine g_icmp_ne 27 dX12_isMany_16 (by decide) (fun c_16 => ?_) (fun c_16 => ?_)
    · refine g_aload_n dX12_isMany_27 rfl ?_
      refine g_iload_n dX12_isMany_28 rfl ?_
      refine g_callV0 kX12_75 (m12_forgets g hg hV) hV.1.1 rfl rfl rfl (Nat.le_of_ble_eq_true rfl) (by decide) (by decide) (by decide) (by decide) dX12_isMany_29 ?_
      rintro v1 h2 z1 ⟨rfl, rfl, ⟨I2, A2, hV2, hH2, -, -⟩, hO2⟩
      refine g_iconst (nI 1) dX12_isMany_32 (by decide) ?_
      exact g_iret hE rfl (⟨by rw [decide_eq_true c_1]; rfl, rfl, ⟨I2, A2, by rw [if_neg c_16]; exact hV2, hH2⟩, hO2⟩) dX12_isMany_33
    · refine g_aload_n dX12_isMany_19 rfl ?_
      refine g_iload_n dX12_isMany_20 rfl ?_
      refine g_callV0 kX12_182 (m12_echoes g hg hV) hV.1.1 rfl rfl rfl (Nat.le_of_ble_eq_true rfl) (by decide) (by decide) (by decide) (by decide) dX12_isMany_21 ?_
      rintro v1 h2 z1 ⟨rfl, rfl, ⟨I2, A2, hV2, hH2⟩, hO2⟩
      refine g_goto 32 dX12_isMany_24 (by decide) ?_
      refine g_iconst (nI 1) dX12_isMany_32 (by decide) ?_
      exact g_iret hE rfl (⟨by rw [decide_eq_true c_1]; rfl, rfl, ⟨I2, A2, by rw [if_pos c_16]; exact hV2, hH2⟩, hO2⟩) dX12_isMany_33
  · refine g_iconst (nI 0) dX12_isMany_4 (by decide) ?_
    exact g_iret hE rfl (⟨by rw [c_1]; rfl, rfl, ⟨I, A, by rw [c_1]; simp only [Nat.sub_zero, List.drop_length, List.foldl_nil, List.drop_zero, ite_self]; exact hV, MdH.rf⟩, OffM.rf⟩) dX12_isMany_5
