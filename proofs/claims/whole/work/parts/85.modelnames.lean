/-! the reference: names of insults -/
theorem Ws_dg {Ws : List (List Nat)} (hok : WsOk Ws) {i : Nat} (hi : i < Ws.length) : dg (Ws.getD i []) ∧ (Ws.getD i []).length ≤ 10 := by
  have := hok.2 _ (getD_mem (d := []) hi).1
  exact ⟨fun d hd => ⟨(this.2 d hd).1, by have := (this.2 d hd).2; omega⟩, this.1.2⟩
theorem nm_last {D : List Nat} {j : Nat} (hd : dg D) (hj : j < D.length) : nm (D.take (j + 1)) / 37 = nm (D.take j) ∧ nm (D.take (j + 1)) % 37 = D[j] := by
  rw [List.take_succ_eq_append_getElem hj, nm_app]
  have := hd D[j] (List.getElem_mem hj)
  omega
theorem nm_pos {D : List Nat} {j : Nat} (hd : dg D) (hj : j < D.length) : 0 < nm (D.take (j + 1)) := by
  rw [List.take_succ_eq_append_getElem hj, nm_app]
  have := hd D[j] (List.getElem_mem hj)
  omega
theorem dg_take {D : List Nat} (j : Nat) (h : dg D) : dg (D.take j) := fun d hd => h d (List.mem_of_mem_take hd)
theorem nm_tk {D : List Nat} (hd : dg D) (h : D.length ≤ 10) (j : Nat) : nm (D.take j) < 2 ^ 62 := nm_small (dg_take j hd) (by rw [List.length_take]; omega)
theorem hsD_iff {D : List Nat} : hsD D = true ↔ ∃ i, ∃ h : i < D.length, 26 < D[i] := by
  unfold hsD
  rw [List.any_eq_true]
  constructor
  · rintro ⟨d, hd, h2⟩
    obtain ⟨i, hi, e⟩ := List.mem_iff_getElem.mp hd
    exact ⟨i, hi, by rw [e]; exact of_decide_eq_true h2⟩
  · rintro ⟨i, hi, h2⟩
    exact ⟨D[i], List.getElem_mem hi, decide_eq_true h2⟩
set_option maxRecDepth 100000 in
set_option maxHeartbeats 4000000 in
theorem m12_find {X : gX} {h : gH} {z q : Nat} {J : Nat → Int32} {B : Nat → Nat → Int32} {U W : Nat → Int64} (Ws : List (List Nat)) (D : List Nat) (hok : WsOk Ws) (hd : dg D) (h10 : D.length ≤ 10) (hP : MpB X h q J B U W) (hJ : J 0 = nI Ws.length) (hU : ∀ i, i < Ws.length → U i = lN (nm (Ws.getD i []))) : gM X yX12_find cX12_find 4 (some .int) (0, 0, 0) [.ref q, .long (lN (nm D))] h z (pR h z (oI (fnd Ws D))) gNoX := by
  have hl8 := hok.1
  have hsm := nm_small hd h10
  refine gM.of px12 (Nat.le_of_ble_eq_true rfl) ?_
  intro F hE
  have loop : ∀ (r i : Nat), i + r = Ws.length → (∀ j, j < i → Ws.getD j [] ≠ D) → G X F cX12_find 4 yX12_find.cls (0, 0, 0) 0 0 2 [some (.ref q), some (.long (lN (nm D))), none, some (.int (nI i))] [] h z := by
    intro r
    induction r with
    | zero =>
      intro i hi hm
      have hf : fnd Ws D = none := by
        cases e : fnd Ws D with
        | none => rfl
        | some k => exact absurd (fnd_some.mp e).2.1 (hm k (by have := (fnd_some.mp e).1; omega))
      refine g_iload_n dX12_find_2 rfl ?_
      refine g_aload_n dX12_find_3 rfl ?_
      refine g_getfN fl12_68 hP.1 rfl dX12_find_4 ?_
      rw [hJ]
      refine g_icmp_geN 29 dX12_find_7 (by decide) (by omega) (by omega) (fun c_7 => ?_) (fun c_7 => ?_)
      · refine g_iconst (-1) dX12_find_29 (by decide) ?_
        exact g_iret hE rfl (⟨by rw [hf]; rfl, rfl, rfl⟩) dX12_find_30
      · exact absurd c_7 (by omega)
    | succ r ih =>
      intro i hi hm
      obtain ⟨w1, w2⟩ := Ws_dg hok (show i < Ws.length by omega)
      have hs2 := nm_small w1 w2
      have hcm := (cmpN (a := nm (Ws.getD i [])) (b := nm D) (by omega) (by omega)).2.2
      refine g_iload_n dX12_find_2 rfl ?_
      refine g_aload_n dX12_find_3 rfl ?_
      refine g_getfN fl12_68 hP.1 rfl dX12_find_4 ?_
      rw [hJ]
      refine g_icmp_geN 29 dX12_find_7 (by decide) (by omega) (by omega) (fun c_7 => ?_) (fun c_7 => ?_)
      · exact absurd c_7 (by omega)
      · refine g_aload_n dX12_find_10 rfl ?_
        refine g_getfN fl12_329 hP.1 rfl dX12_find_11 ?_
        refine g_iload_n dX12_find_14 rfl ?_
        refine g_laldN (hP.2.2.1) (by omega) (by decide) dX12_find_15 ?_
        rw [hU i (by omega)]
        refine g_lload_n dX12_find_16 rfl ?_
        refine g_lcmp dX12_find_17 ?_
        refine g_if_ne 23 dX12_find_18 (by decide) (fun c_18 => ?_) (fun c_18 => ?_)
        · refine g_iincN dX12_find_23 rfl (by decide) rfl ?_
          refine g_goto 2 dX12_find_26 (by decide) ?_
          refine ih (i + 1) (by omega) (fun j hj => ?_)
          by_cases e : j = i
          · subst e; exact fun q => c_18 (hcm.mpr (by rw [q]))
          · exact hm j (by omega)
        · have e9 := nm_inj w1 hd (hcm.mp (by first | exact c_18 | exact Classical.not_not.mp c_18))
          have hf : fnd Ws D = some i := fnd_some.mpr ⟨by omega, e9, hm⟩
          refine g_iload_n dX12_find_21 rfl ?_
          exact g_iret hE rfl (⟨by rw [hf]; rfl, rfl, rfl⟩) dX12_find_22
  refine g_iconst (nI 0) dX12_find_0 (by decide) ?_
  refine g_istore_n dX12_find_1 (by decide) rfl ?_
  exact loop Ws.length 0 (by omega) (fun j hj => absurd hj (Nat.not_lt_zero _))
set_option maxRecDepth 100000 in
set_option maxHeartbeats 4000000 in
theorem m12_hasDigit {X : gX} {h : gH} {z : Nat} (D : List Nat) (hd : dg D) (h10 : D.length ≤ 10) : gM X yX12_hasDigit cX12_hasDigit 4 (some .boolean) (0, 0, 0) [.long (lN (nm D))] h z (pR h z (b2i (hsD D))) gNoX := by
  refine gM.of px12 (Nat.le_of_ble_eq_true rfl) ?_
  intro F hE
  have loop : ∀ (j : Nat), j ≤ D.length → (∀ i, (hi : i < D.length) → j ≤ i → ¬ 26 < D[i]) → G X F cX12_hasDigit 4 yX12_hasDigit.cls (0, 0, 0) 0 0 2 [some (.long (lN (nm D))), none, some (.long (lN (nm (D.take j)))), none] [] h z := by
    intro j
    induction j with
    | zero =>
      intro hj hm
      have hf : hsD D = false := by
        cases e : hsD D with
        | false => rfl
        | true =>
          obtain ⟨i, hi, h2⟩ := hsD_iff.mp e
          exact absurd h2 (hm i hi (Nat.zero_le _))
      refine g_lload_n dX12_hasDigit_2 rfl ?_
      refine g_lconst (lN 0) dX12_hasDigit_3 rfl ?_
      refine g_lcmp dX12_hasDigit_4 ?_
      refine g_if_le 31 dX12_hasDigit_5 (by decide) (fun c_5 => ?_) (fun c_5 => ?_)
      · refine g_iconst (nI 0) dX12_hasDigit_31 (by decide) ?_
        exact g_iret hE rfl (⟨by rw [hf]; rfl, rfl, rfl⟩) dX12_hasDigit_32
      · exact absurd ((cmpN (a := 0) (b := 0) (by decide) (by decide)).2.1.mpr (by decide)) c_5
    | succ j ih =>
      intro hj hm
      obtain ⟨n1, n2⟩ := nm_last hd (show j < D.length by omega)
      have n3 := nm_pos hd (show j < D.length by omega)
      have n4 := nm_tk hd h10 (j + 1)
      have hdj := hd D[j] (List.getElem_mem (show j < D.length by omega))
      have hc1 := (cmpN (a := nm (D.take (j + 1))) (b := 0) (by omega) (by decide)).2.1
      have hc2 := (cmpN (a := D[j]) (b := 26) (by omega) (by decide)).2.1
      refine g_lload_n dX12_hasDigit_2 rfl ?_
      refine g_lconst (lN 0) dX12_hasDigit_3 rfl ?_
      refine g_lcmp dX12_hasDigit_4 ?_
      refine g_if_le 31 dX12_hasDigit_5 (by decide) (fun c_5 => ?_) (fun c_5 => ?_)
      · exact absurd (hc1.mp c_5) (by omega)
      · refine g_lload_n dX12_hasDigit_8 rfl ?_
        refine g_37 w37 dX12_hasDigit_9 ?_
        refine g_lremN dX12_hasDigit_12 (by omega) (by decide) (by decide) ?_
        rw [n2]
        refine g_ldc2 (lN 26) dX12_hasDigit_13 w26 ?_
        refine g_lcmp dX12_hasDigit_16 ?_
        refine g_if_le 22 dX12_hasDigit_17 (by decide) (fun c_17 => ?_) (fun c_17 => ?_)
        · refine g_lload_n dX12_hasDigit_22 rfl ?_
          refine g_37 w37 dX12_hasDigit_23 ?_
          refine g_ldivN dX12_hasDigit_26 (by omega) (by decide) (by decide) ?_
          rw [n1]
          refine g_lstore_n dX12_hasDigit_27 (by decide) rfl ?_
          refine g_goto 2 dX12_hasDigit_28 (by decide) ?_
          refine ih (by omega) (fun i hi h2 => ?_)
          by_cases e : i = j
          · subst e; have := hc2.mp c_17; omega
          · exact hm i hi (by omega)
        · have hf : hsD D = true := hsD_iff.mpr ⟨j, by omega, Nat.lt_of_not_le (fun q => c_17 (hc2.mpr q))⟩
          refine g_iconst (nI 1) dX12_hasDigit_20 (by decide) ?_
          exact g_iret hE rfl (⟨by rw [hf]; rfl, rfl, rfl⟩) dX12_hasDigit_21
  refine g_lload_n dX12_hasDigit_0 rfl ?_
  refine g_lstore_n dX12_hasDigit_1 (by decide) rfl ?_
  have e9 : D.take D.length = D := List.take_of_length_le (Nat.le_refl _)
  have hl := loop D.length (Nat.le_refl _) (fun i hi h2 => absurd hi (by omega))
  rw [e9] at hl
  exact hl
