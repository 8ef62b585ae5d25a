/-! the reference: a tape is taught -/
set_option maxRecDepth 100000 in
set_option maxHeartbeats 4000000 in
theorem m12_no {X : gX} {h : gH} {z m c pl : Nat} {I : Nat → Int32} {A : Nat → Nat → Int32} {V : Nat → Int64} (x : Int32) (hM : MdB X h m c pl I A V) : gM X yX12_no cX12_no 2 (some .int) (0, 0, 0) [.ref m, .int x] h z (fun r h' z' => r = some (.int 0) ∧ z' = z ∧ MdB X h' m c pl (upd I 0 x) A V ∧ OffM h h' m) gNoX := by
  refine gM.of px12 (Nat.le_of_ble_eq_true rfl) ?_
  intro F hE
  refine g_aload_n dX12_no_0 rfl ?_
  refine g_iload_n dX12_no_1 rfl ?_
  refine md_put0 fl12_58 hM OffM.rf dX12_no_2 (fun h2 hM2 hO2 => ?_)
  refine g_iconst (nI 0) dX12_no_5 (by decide) ?_
  exact g_iret hE rfl (⟨rfl, rfl, hM2, hO2⟩) dX12_no_6
set_option maxRecDepth 100000 in
set_option maxHeartbeats 4000000 in
theorem m12_isNot {X : gX} {h : gH} {z m c pl : Nat} {I : Nat → Int32} {A : Nat → Nat → Int32} {V : Nat → Int64} (x : Int32) (hM : MdB X h m c pl I A V) : gM X yX12_isNot cX12_isNot 2 (some .boolean) (0, 0, 0) [.ref m, .int x] h z (fun r h' z' => r = some (.int 0) ∧ z' = z ∧ MdB X h' m c pl (upd I 0 x) A V ∧ OffM h h' m) gNoX := by
  refine gM.of px12 (Nat.le_of_ble_eq_true rfl) ?_
  intro F hE
  refine g_aload_n dX12_isNot_0 rfl ?_
  refine g_iload_n dX12_isNot_1 rfl ?_
  refine md_put0 fl12_58 hM OffM.rf dX12_isNot_2 (fun h2 hM2 hO2 => ?_)
  refine g_iconst (nI 0) dX12_isNot_5 (by decide) ?_
  exact g_iret hE rfl (⟨rfl, rfl, hM2, hO2⟩) dX12_isNot_6
set_option maxRecDepth 100000 in
set_option maxHeartbeats 4000000 in
theorem m12_ok {X : gX} {h : gH} {z m c pl : Nat} {I : Nat → Int32} {A : Nat → Nat → Int32} {V : Nat → Int64} (x : Int32) (hM : MdB X h m c pl I A V) : gM X yX12_ok cX12_ok 2 (some .int) (0, 0, 0) [.ref m, .int x] h z (fun r h' z' => r = some (.int x) ∧ z' = z ∧ MdB X h' m c pl (upd I 0 0) A V ∧ OffM h h' m) gNoX := by
  refine gM.of px12 (Nat.le_of_ble_eq_true rfl) ?_
  intro F hE
  refine g_aload_n dX12_ok_0 rfl ?_
  refine g_iconst (nI 0) dX12_ok_1 (by decide) ?_
  refine md_put0 fl12_58 hM OffM.rf dX12_ok_2 (fun h2 hM2 hO2 => ?_)
  refine g_iload_n dX12_ok_5 rfl ?_
  exact g_iret hE rfl (⟨rfl, rfl, hM2, hO2⟩) dX12_ok_6
set_option maxRecDepth 100000 in
set_option maxHeartbeats 4000000 in
theorem m12_thrown {X : gX} {h : gH} {z m c pl : Nat} {I : Nat → Int32} {A : Nat → Nat → Int32} {V : Nat → Int64} (hM : MdB X h m c pl I A V) : gM X yX12_thrown cX12_thrown 1 (some .int) (0, 0, 0) [.ref m] h z (pR h z (I 0)) gNoX := by
  refine gM.of px12 (Nat.le_of_ble_eq_true rfl) ?_
  intro F hE
  refine g_aload_n dX12_thrown_0 rfl ?_
  refine g_getf fl12_58 hM.1 rfl dX12_thrown_1 ?_
  exact g_iret hE rfl (⟨rfl, rfl, rfl⟩) dX12_thrown_4
set_option maxRecDepth 100000 in
set_option maxHeartbeats 4000000 in
theorem m12_teach {X : gX} {h : gH} {z m c pl n : Nat} {I : Nat → Int32} {A : Nat → Nat → Int32} {V : Nat → Int64} {K : gKo} (hK : gCo X K) (hz : m + 25 ≤ z) (hM : MdB X h m c pl I A V) (hI1 : I 1 = nI n) (hn : n ≤ 2000) (hby : ∀ j, j < n → A 0 j ≠ -1) : gM X yX12_teach cX12_teach 3 (some .int) (47, 12, 1806) [.ref m] h z (fun r h' z' => r = some (.int (nI (bkE n (A 0)))) ∧ z' = z + 12 ∧ (∃ c' pl' I' A' V', MdB X h' m c' pl' I' A' V' ∧ I' 0 = 0 ∧ I' 1 = 0 ∧ I' 2 = bkP n (A 0) ∧ (∀ j, 8 ≤ j → j ≠ 11 → I' j = I j) ∧ (∀ k, k = 0 ∨ 5 ≤ k → A' k = A k) ∧ (bkE n (A 0) ≠ 0 → c' = c ∧ pl' = pl ∧ I' 6 = I 6 ∧ I' 7 = I 7 ∧ I' 11 = I 11) ∧ (bkE n (A 0) = 0 → c' = 0 ∧ pl' = z ∧ I' 6 = 0 ∧ I' 7 = 0 ∧ I' 11 = 0 ∧ MpP X h' z (plM n (A 0) (bkR n (A 0)).2))) ∧ ∀ x, x < z → x ≠ m → x ≠ m + 1 → (x < m + 14 ∨ m + 25 ≤ x) → h' x = h x) gNoX := by
  refine gM.of px12 (Nat.le_of_ble_eq_true rfl) ?_
  intro F hE
  refine g_aload_n dX12_teach_0 rfl ?_
  refine g_iconst (nI 0) dX12_teach_1 (by decide) ?_
  refine md_put0 fl12_58 hM OffM.rf dX12_teach_2 (fun h2 hM2 hO2 => ?_)
  refine g_aload_n dX12_teach_5 rfl ?_
  refine g_iconst (-1) dX12_teach_6 (by decide) ?_
  refine md_put2 fl12_13 hM2 OffM.rf dX12_teach_7 (fun h3 hM3 hO3 => ?_)
  refine g_new [.int 0, .null, .null, .null, .int 0, .null, .null, .null, .null, .null, .null, .null, .null, .int 0] cl9 (gm5 204 (by decide +kernel)) (gm5 205 (by decide +kernel)) (gm1 13 (by decide +kernel)) (by decide) (by decide) (by decide) dX12_teach_10 ?_
  refine g_dup dX12_teach_13 rfl ?_
  refine g_callN kX12_19 (m11_init gset_same rfl) rfl rfl (Nat.le_of_ble_eq_true rfl) (by decide) (by decide) (by decide) (by decide) dX12_teach_14 ?_
  rintro v1 h4 z1 ⟨rfl, rfl, hP4, hN4⟩
  have hlow : ∀ x, x < z → h4 x = h3 x := fun x hx => (hN4 x (by omega) (by omega)).trans (gset_ne (by omega))
  have hM4 : MdB X h4 m c pl (upd (upd I 0 (nI 0)) 2 (-1)) A V := ⟨(hlow m (by omega)).trans hM3.1, fun k hk => (hlow _ (by have := mo_in k hk; omega)).trans (hM3.2.1 k hk), (hlow _ (by omega)).trans hM3.2.2⟩
  refine g_astore_n dX12_teach_17 (by decide) rfl ?_
  refine g_aload_n dX12_teach_18 rfl ?_
  refine g_aload_n dX12_teach_19 rfl ?_
  refine g_callV0 kX12_369 (m12_read (n := n) bkR_rc hK hz hM4 (by rw [upd_ne (by decide), upd_ne (by decide)]; exact hI1) hn hby hP4 ⟨rfl, rfl, rfl⟩) hM4.1 rfl rfl rfl (Nat.le_of_ble_eq_true rfl) (by decide) (by decide) (by decide) (by decide) dX12_teach_20 ?_
  rintro v1 h5 z1 ⟨rfl, rfl, ⟨I5, A5, V5, hM5, g1, g2, g3⟩, hMp, hO5⟩
  have hpe : bkE n (A 0) = 0 → bkP n (A 0) = -1 := fun w => by
    unfold bkE at w; unfold bkP
    by_cases e : (bkR n (A 0)).1 = true
    · rw [if_pos e] at w ⊢; rw [if_pos w]
    · rw [if_neg e] at w; cases w
  have h52 : I5 2 = bkP n (A 0) := by
    rw [g3]
    by_cases e : bkE n (A 0) = 0
    · rw [if_pos e, hpe e, upd_same]
    · rw [if_neg e]
  have hIj : ∀ j, j = 6 ∨ j = 7 ∨ 8 ≤ j → I5 j = I j := fun j hj => by rw [g1 j (by omega) (by omega) (by omega) (by omega), upd_ne (by omega), upd_ne (by omega)]
  have h50 : I5 0 = 0 := by rw [g1 0 (by decide) (by decide) (by decide) (by decide), upd_ne (by decide), upd_same]; rfl
  have hfr : ∀ x, x < z → x ≠ m → x ≠ m + 1 → (x < m + 14 ∨ m + 25 ≤ x) → h5 x = h x := fun x a b c d => (hO5 x b c d (by omega)).trans ((hlow x a).trans ((hO3 x b c d).trans (hO2 x b c d)))
  have hbe : bkE n (A 0) < 10 := by unfold bkE; split; exact se_err _; decide
  refine g_istore_n dX12_teach_23 (by decide) rfl ?_
  refine g_aload_n dX12_teach_24 rfl ?_
  refine g_iconst (nI 0) dX12_teach_25 (by decide) ?_
  refine md_put1 fl12_221 hM5 OffM.rf dX12_teach_26 (fun h6 hM6 hO6 => ?_)
  refine g_iload_n dX12_teach_29 rfl ?_
  refine g_if_leN 35 dX12_teach_30 (by decide) (by omega) (fun c_30 => ?_) (fun c_30 => ?_)
  · have he0 : bkE n (A 0) = 0 := by omega
    refine g_aload_n dX12_teach_35 rfl ?_
    refine g_aload_n dX12_teach_36 rfl ?_
    refine md_putp fl12_20 hM6 OffM.rf dX12_teach_37 (fun h7 hM7 hO7 => ?_)
    refine g_aload_n dX12_teach_40 rfl ?_
    refine g_iconst (nI 0) dX12_teach_41 (by decide) ?_
    refine md_put11 rfl rfl fl12_71 hM7 OffM.rf dX12_teach_42 (fun h8 hM8 hO8 => ?_)
    refine g_aload_n dX12_teach_45 rfl ?_
    refine g_iconst (nI 0) dX12_teach_46 (by decide) ?_
    refine md_putn (x := 0) fl12_61 hM8 OffM.rf dX12_teach_47 (fun h9 hM9 hO9 => ?_)
    refine g_aload_n dX12_teach_50 rfl ?_
    refine g_iconst (nI 0) dX12_teach_51 (by decide) ?_
    refine md_put6 fl12_97 hM9 OffM.rf dX12_teach_52 (fun h10 hM10 hO10 => ?_)
    refine g_aload_n dX12_teach_55 rfl ?_
    refine g_iconst (nI 0) dX12_teach_56 (by decide) ?_
    refine md_put7 fl12_103 hM10 OffM.rf dX12_teach_57 (fun h11 hM11 hO11 => ?_)
    refine g_iconst (nI 0) dX12_teach_60 (by decide) ?_
    have hOx : ∀ x, x ≠ m → x ≠ m + 1 → (x < m + 14 ∨ m + 25 ≤ x) → h11 x = h5 x := fun x a b c => (hO11 x a b c).trans ((hO10 x a b c).trans ((hO9 x a b c).trans ((hO8 x a b c).trans ((hO7 x a b c).trans (hO6 x a b c)))))
    have hMx : MpP X h11 z (plM n (A 0) (bkR n (A 0)).2) := (hMp he0).off (m := m) (fun x a b c => hOx x a b c) (Or.inr (Or.inr hz))
    exact g_iret hE rfl ⟨by rw [he0], rfl, ⟨0, z, _, A5, V5, hM11, by rw [upd_ne (by decide), upd_ne (by decide), upd_ne (by decide), upd_ne (by decide)]; exact h50, by rw [upd_ne (by decide), upd_ne (by decide), upd_ne (by decide), upd_same]; rfl, by rw [upd_ne (by decide), upd_ne (by decide), upd_ne (by decide), upd_ne (by decide)]; exact h52, fun j a b => by rw [upd_ne (by omega), upd_ne (by omega), upd_ne b, upd_ne (by omega)]; exact hIj j (by omega), g2, fun w => absurd he0 w, fun _ => ⟨rfl, rfl, by rw [upd_ne (by decide), upd_same]; rfl, by rw [upd_same]; rfl, by rw [upd_ne (by decide), upd_ne (by decide), upd_same]; rfl, hMx⟩⟩, fun x a b c d => (hOx x b c d).trans (hfr x a b c d)⟩ dX12_teach_61 (hk := by decide) (hn := by decide)
  · refine g_iload_n dX12_teach_33 rfl ?_
    have hne : bkE n (A 0) ≠ 0 := by omega
    exact g_iret hE rfl ⟨rfl, rfl, ⟨c, pl, _, A5, V5, hM6, by rw [upd_ne (by decide)]; exact h50, upd_same, by rw [upd_ne (by decide)]; exact h52, fun j a b => by rw [upd_ne (by omega)]; exact hIj j (by omega), g2, fun _ => ⟨rfl, rfl, by rw [upd_ne (by decide)]; exact hIj 6 (by decide), by rw [upd_ne (by decide)]; exact hIj 7 (by decide), by rw [upd_ne (by decide)]; exact hIj 11 (by decide)⟩, fun w => absurd w hne⟩, fun x a b c d => (hO6 x b c d).trans (hfr x a b c d)⟩ dX12_teach_34 (hk := by decide) (hn := by decide)
