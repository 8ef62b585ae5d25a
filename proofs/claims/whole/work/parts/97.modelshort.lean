/-! the reference: short answers -/
set_option maxRecDepth 100000 in
set_option maxHeartbeats 4000000 in
theorem m12_length {X : gX} {h : gH} {z m c pl : Nat} {I : Nat → Int32} {A : Nat → Nat → Int32} {V : Nat → Int64} (hM : MdB X h m c pl I A V) : gM X yX12_length cX12_length 1 (some .int) (1, 0, 0) [.ref m] h z (fun r h' z' => r = some (.int (nI c)) ∧ z' = z ∧ MdB X h' m c pl (upd I 0 0) A V ∧ OffM h h' m) gNoX := by
  refine gM.of px12 (Nat.le_of_ble_eq_true rfl) ?_
  intro F hE
  refine g_aload_n dX12_length_0 rfl ?_
  refine g_aload_n dX12_length_1 rfl ?_
  refine g_getf fl12_61 hM.1 rfl dX12_length_2 ?_
  refine g_callV0 kX12_372 (m12_ok _ hM) hM.1 rfl rfl rfl (Nat.le_of_ble_eq_true rfl) (by decide) (by decide) (by decide) (by decide) dX12_length_5 ?_
  rintro v1 h2 z1 ⟨rfl, rfl, hM2, hO2⟩
  exact g_iret hE rfl (⟨rfl, rfl, hM2, hO2⟩) dX12_length_8
set_option maxRecDepth 100000 in
set_option maxHeartbeats 4000000 in
theorem m12_day {X : gX} {h : gH} {z m c pl : Nat} {I : Nat → Int32} {A : Nat → Nat → Int32} {V : Nat → Int64} (hM : MdB X h m c pl I A V) : gM X yX12_day cX12_day 1 (some .int) (1, 0, 0) [.ref m] h z (fun r h' z' => r = some (.int (I 6)) ∧ z' = z ∧ MdB X h' m c pl (upd I 0 0) A V ∧ OffM h h' m) gNoX := by
  refine gM.of px12 (Nat.le_of_ble_eq_true rfl) ?_
  intro F hE
  refine g_aload_n dX12_day_0 rfl ?_
  refine g_aload_n dX12_day_1 rfl ?_
  refine g_getf fl12_97 hM.1 rfl dX12_day_2 ?_
  refine g_callV0 kX12_372 (m12_ok _ hM) hM.1 rfl rfl rfl (Nat.le_of_ble_eq_true rfl) (by decide) (by decide) (by decide) (by decide) dX12_day_5 ?_
  rintro v1 h2 z1 ⟨rfl, rfl, hM2, hO2⟩
  exact g_iret hE rfl (⟨rfl, rfl, hM2, hO2⟩) dX12_day_8
set_option maxRecDepth 100000 in
set_option maxHeartbeats 4000000 in
theorem m12_errorAt {X : gX} {h : gH} {z m c pl : Nat} {I : Nat → Int32} {A : Nat → Nat → Int32} {V : Nat → Int64} (hM : MdB X h m c pl I A V) : gM X yX12_errorAt cX12_errorAt 1 (some .int) (1, 0, 0) [.ref m] h z (fun r h' z' => r = some (.int (I 2)) ∧ z' = z ∧ MdB X h' m c pl (upd I 0 0) A V ∧ OffM h h' m) gNoX := by
  refine gM.of px12 (Nat.le_of_ble_eq_true rfl) ?_
  intro F hE
  refine g_aload_n dX12_errorAt_0 rfl ?_
  refine g_aload_n dX12_errorAt_1 rfl ?_
  refine g_getf fl12_13 hM.1 rfl dX12_errorAt_2 ?_
  refine g_callV0 kX12_372 (m12_ok _ hM) hM.1 rfl rfl rfl (Nat.le_of_ble_eq_true rfl) (by decide) (by decide) (by decide) (by decide) dX12_errorAt_5 ?_
  rintro v1 h2 z1 ⟨rfl, rfl, hM2, hO2⟩
  exact g_iret hE rfl (⟨rfl, rfl, hM2, hO2⟩) dX12_errorAt_8
set_option maxRecDepth 100000 in
set_option maxHeartbeats 4000000 in
theorem m12_ordersCarriedOut {X : gX} {h : gH} {z m c pl : Nat} {I : Nat → Int32} {A : Nat → Nat → Int32} {V : Nat → Int64} (hM : MdB X h m c pl I A V) : gM X yX12_ordersCarriedOut cX12_ordersCarriedOut 1 (some .int) (1, 0, 0) [.ref m] h z (fun r h' z' => r = some (.int (I 7)) ∧ z' = z ∧ MdB X h' m c pl (upd I 0 0) A V ∧ OffM h h' m) gNoX := by
  refine gM.of px12 (Nat.le_of_ble_eq_true rfl) ?_
  intro F hE
  refine g_aload_n dX12_ordersCarriedOut_0 rfl ?_
  refine g_aload_n dX12_ordersCarriedOut_1 rfl ?_
  refine g_getf fl12_103 hM.1 rfl dX12_ordersCarriedOut_2 ?_
  refine g_callV0 kX12_372 (m12_ok _ hM) hM.1 rfl rfl rfl (Nat.le_of_ble_eq_true rfl) (by decide) (by decide) (by decide) (by decide) dX12_ordersCarriedOut_5 ?_
  rintro v1 h2 z1 ⟨rfl, rfl, hM2, hO2⟩
  exact g_iret hE rfl (⟨rfl, rfl, hM2, hO2⟩) dX12_ordersCarriedOut_8
set_option maxRecDepth 100000 in
set_option maxHeartbeats 4000000 in
theorem m12_insults {X : gX} {h : gH} {z m c pl : Nat} {I : Nat → Int32} {A : Nat → Nat → Int32} {V : Nat → Int64} {J : Nat → Int32} {B : Nat → Nat → Int32} {U W : Nat → Int64} (hM : MdB X h m c pl I A V) (hP : MpB X h pl J B U W) : gM X yX12_insults cX12_insults 1 (some .int) (1, 0, 0) [.ref m] h z (fun r h' z' => r = some (.int (J 0)) ∧ z' = z ∧ MdB X h' m c pl (upd I 0 0) A V ∧ OffM h h' m) gNoX := by
  refine gM.of px12 (Nat.le_of_ble_eq_true rfl) ?_
  intro F hE
  refine g_aload_n dX12_insults_0 rfl ?_
  refine g_aload_n dX12_insults_1 rfl ?_
  refine g_getf fl12_20 hM.1 rfl dX12_insults_2 ?_
  refine g_getfN fl12_68 hP.1 rfl dX12_insults_5 ?_
  refine g_callV0 kX12_372 (m12_ok _ hM) hM.1 rfl rfl rfl (Nat.le_of_ble_eq_true rfl) (by decide) (by decide) (by decide) (by decide) dX12_insults_8 ?_
  rintro v1 h2 z1 ⟨rfl, rfl, hM2, hO2⟩
  exact g_iret hE rfl (⟨rfl, rfl, hM2, hO2⟩) dX12_insults_11
set_option maxRecDepth 100000 in
set_option maxHeartbeats 4000000 in
theorem m12_isPlace {X : gX} {h : gH} {z m c pl : Nat} {I : Nat → Int32} {A : Nat → Nat → Int32} {V : Nat → Int64} (p : Int32) (hM : MdB X h m c pl I A V) : gM X yX12_isPlace cX12_isPlace 2 (some .boolean) (2, 0, 0) [.ref m, .int p] h z (pR h z (b2i (decide (0 ≤ p ∧ p ≤ nI c - nI 1)))) gNoX := by
  refine gM.of px12 (Nat.le_of_ble_eq_true rfl) ?_
  intro F hE
  refine g_iload_n dX12_isPlace_0 rfl ?_
  refine g_iconst (nI 0) dX12_isPlace_1 (by decide) ?_
  refine g_aload_n dX12_isPlace_2 rfl ?_
  refine g_getf fl12_61 hM.1 rfl dX12_isPlace_3 ?_
  refine g_iconst (nI 1) dX12_isPlace_6 (by decide) ?_
  refine g_isub dX12_isPlace_7 ?_
  refine g_callS0 kX12_64 (m12_isIn (p) (nI 0) (nI c - nI 1)) rfl rfl (Nat.le_of_ble_eq_true rfl) (by decide) (by decide) (by decide) (by decide) dX12_isPlace_8 ?_
  rintro v1 h2 z1 ⟨rfl, rfl, rfl⟩
  exact g_iret hE (nrB _) ⟨rfl, rfl, rfl⟩ dX12_isPlace_11
set_option maxRecDepth 100000 in
set_option maxHeartbeats 4000000 in
theorem m12_isInsult {X : gX} {h : gH} {z m c pl : Nat} {I : Nat → Int32} {A : Nat → Nat → Int32} {V : Nat → Int64} {J : Nat → Int32} {B : Nat → Nat → Int32} {U W : Nat → Int64} (p : Int32) (hM : MdB X h m c pl I A V) (hP : MpB X h pl J B U W) : gM X yX12_isInsult cX12_isInsult 2 (some .boolean) (2, 0, 0) [.ref m, .int p] h z (pR h z (b2i (decide (0 ≤ p ∧ p ≤ J 0 - nI 1)))) gNoX := by
  refine gM.of px12 (Nat.le_of_ble_eq_true rfl) ?_
  intro F hE
  refine g_iload_n dX12_isInsult_0 rfl ?_
  refine g_iconst (nI 0) dX12_isInsult_1 (by decide) ?_
  refine g_aload_n dX12_isInsult_2 rfl ?_
  refine g_getf fl12_20 hM.1 rfl dX12_isInsult_3 ?_
  refine g_getfN fl12_68 hP.1 rfl dX12_isInsult_6 ?_
  refine g_iconst (nI 1) dX12_isInsult_9 (by decide) ?_
  refine g_isub dX12_isInsult_10 ?_
  refine g_callS0 kX12_64 (m12_isIn (p) (nI 0) (J 0 - nI 1)) rfl rfl (Nat.le_of_ble_eq_true rfl) (by decide) (by decide) (by decide) (by decide) dX12_isInsult_11 ?_
  rintro v1 h2 z1 ⟨rfl, rfl, rfl⟩
  exact g_iret hE (nrB _) ⟨rfl, rfl, rfl⟩ dX12_isInsult_14
set_option maxRecDepth 100000 in
set_option maxHeartbeats 4000000 in
theorem m12_trim {X : gX} {h : gH} {z m c pl : Nat} {I : Nat → Int32} {A : Nat → Nat → Int32} {V : Nat → Int64} (b : Int32) (hM : MdB X h m c pl I A V) : gM X yX12_trim cX12_trim 2 (some .int) (2, 0, 0) [.ref m, .int b] h z (fun r h' z' => z' = z ∧ OffM h h' m ∧ ((0 ≤ b ∧ b ≤ I 1 ∧ r = some (.int b) ∧ MdB X h' m c pl (upd (upd I 0 0) 1 b) A V) ∨ (¬ (0 ≤ b ∧ b ≤ I 1) ∧ r = some (.int 0) ∧ MdB X h' m c pl (upd (upd I 0 0) 0 1) A V))) gNoX := by
  refine gM.of px12 (Nat.le_of_ble_eq_true rfl) ?_
  intro F hE
  refine g_aload_n dX12_trim_0 rfl ?_
  refine g_iconst (nI 0) dX12_trim_1 (by decide) ?_
  refine md_put0 fl12_58 hM OffM.rf dX12_trim_2 (fun h2 hM2 hO2 => ?_)
  refine g_iload_n dX12_trim_5 rfl ?_
  refine g_iconst (nI 0) dX12_trim_6 (by decide) ?_
  refine g_aload_n dX12_trim_7 rfl ?_
  refine g_getf fl12_221 hM2.1 rfl dX12_trim_8 ?_
  refine g_callS0 kX12_64 (m12_isIn (b) (nI 0) ((upd I 0 (nI 0)) 1)) rfl rfl (Nat.le_of_ble_eq_true rfl) (by decide) (by decide) (by decide) (by decide) dX12_trim_11 ?_
  rintro v1 h2 z1 ⟨rfl, rfl, rfl⟩
  refine g_if_neB 23 dX12_trim_14 (by decide) (fun c_14 => ?_) (fun c_14 => ?_)
  · refine g_aload_n dX12_trim_23 rfl ?_
    refine g_iload_n dX12_trim_24 rfl ?_
    refine md_put1 fl12_221 hM2 OffM.rf dX12_trim_25 (fun h3 hM3 hO3 => ?_)
    refine g_iload_n dX12_trim_28 rfl ?_
    exact g_iret hE rfl (⟨rfl, hO2.trans hO3, Or.inl ⟨(of_decide_eq_true c_14).1, by have := (of_decide_eq_true c_14).2; rw [upd_ne (by decide)] at this; exact this, rfl, hM3⟩⟩) dX12_trim_29
  · refine g_aload_n dX12_trim_17 rfl ?_
    refine g_iconst (nI 1) dX12_trim_18 (by decide) ?_
    refine g_callV0 kX12_366 (m12_no (nI 1) hM2) hM2.1 rfl rfl rfl (Nat.le_of_ble_eq_true rfl) (by decide) (by decide) (by decide) (by decide) dX12_trim_19 ?_
    rintro v1 h3 z1 ⟨rfl, rfl, hM3, hO3⟩
    exact g_iret hE rfl (⟨rfl, hO2.trans hO3, Or.inr ⟨fun w => (of_decide_eq_false c_14) ⟨w.1, by rw [upd_ne (by decide)]; exact w.2⟩, rfl, hM3⟩⟩) dX12_trim_22
