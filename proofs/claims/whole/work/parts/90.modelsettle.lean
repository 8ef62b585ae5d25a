/-! the reference: tokens of insults become numbers; a tape is read -/
theorem rc_ab (c : Nat) : (rc c = 10 ↔ c = 15) ∧ (rc c = 11 ↔ c = 16) ∧ (rc c = 13 ↔ c = 18) := by
  unfold rc
  repeat' split
  all_goals omega
theorem rc_lt {c : Nat} (h : c < 39) : rc c < 2000 := by
  unfold rc
  repeat' split
  all_goals omega
set_option maxRecDepth 100000 in
set_option maxHeartbeats 4000000 in
theorem m12_settle {X : gX} {h : gH} {z m c pl q n : Nat} {f : Nat → Int32} {I : Nat → Int32} {A : Nat → Nat → Int32} {V : Nat → Int64} {J : Nat → Int32} {B : Nat → Nat → Int32} {U W : Nat → Int64} (Ws : List (List Nat)) (E : List (Nat × Nat)) (hq : m + 25 ≤ q) (hM : MdB X h m c pl I A V) (hP : MpB X h q J B U W) (hJ : J 2 = nI E.length) (hE : E.length ≤ 400) (hx : ∀ j x, E[j]? = some x → B 7 j = nI (rc x.1) ∧ B 8 j = nI x.2) (hr : ∀ x, x ∈ E → rc x.1 < 2000) (hw : ∀ x, x ∈ E → x.1 = 15 ∨ x.1 = 16 ∨ x.1 = 18 → x.2 < 401 ∧ A 4 x.2 = oI (fnd Ws (tkn n f x.2))) : gM X yX12_settle cX12_settle 3 none (0, 0, 0) [.ref m, .ref q] h z (fun r h' z' => r = none ∧ z' = z ∧ (∃ B', MpB X h' q J B' U W ∧ (∀ k, k ≠ 8 → B' k = B k) ∧ ∀ j x, E[j]? = some x → B' 8 j = xvW n f Ws x) ∧ OffB h h' q 12) gNoX := by
  refine gM.of px12 (Nat.le_of_ble_eq_true rfl) ?_
  intro F hE
  have loop : ∀ (r j : Nat) (h1 : gH) (B1 : Nat → Nat → Int32), j + r = E.length → MpB X h1 q J B1 U W → (∀ k, k ≠ 8 → B1 k = B k) → (∀ i x, E[i]? = some x → (i < j → B1 8 i = xvW n f Ws x) ∧ (j ≤ i → B1 8 i = nI x.2)) → OffB h h1 q 12 → G X F cX12_settle 3 yX12_settle.cls (0, 0, 0) 0 0 2 [some (.ref m), some (.ref q), some (.int (nI j))] [] h1 z := by
    intro r
    induction r with
    | zero =>
      intro j h1 B1 hj hP1 hB1 hB2 hO1
      refine g_iload_n dX12_settle_2 rfl ?_
      refine g_aload_n dX12_settle_3 rfl ?_
      refine g_getfN fl12_274 hP1.1 rfl dX12_settle_4 ?_
      rw [hJ]
      refine g_icmp_geN 66 dX12_settle_7 (by decide) (by omega) (by omega) (fun c_7 => ?_) (fun c_7 => ?_)
      · exact g_vret hE (⟨rfl, rfl, ⟨B1, hP1, hB1, fun i x hx => (hB2 i x hx).1 (by have := (List.getElem?_eq_some_iff.mp hx).1; omega)⟩, hO1⟩) dX12_settle_66
      · exact absurd c_7 (by omega)
    | succ r ih =>
      intro j h1 B1 hj hP1 hB1 hB2 hO1
      have hj2 : j < E.length := by omega
      have hxj : E[j]? = some E[j] := List.getElem?_eq_getElem hj2
      have hmem : E[j] ∈ E := List.getElem_mem hj2
      generalize E[j] = x at hxj hmem
      have h7 : B1 7 j = nI (rc x.1) := by rw [hB1 7 (by decide)]; exact (hx j x hxj).1
      have h8 : B1 8 j = nI x.2 := (hB2 j x hxj).2 (Nat.le_refl _)
      have hrb := hr x hmem
      obtain ⟨r15, r16, r18⟩ := rc_ab x.1
      have go : x.1 = 15 ∨ x.1 = 16 ∨ x.1 = 18 → G X F cX12_settle 3 yX12_settle.cls (0, 0, 0) 0 0 43 [some (.ref m), some (.ref q), some (.int (nI j))] [] h1 z := by
        intro hab
        obtain ⟨w1, w2⟩ := hw x hmem hab
        have hM1 := hM.offq hO1 hq
        have hPa := hP1.ast (k := 8) (j := j) (x := oI (fnd Ws (tkn n f x.2))) (by decide)
        refine g_aload_n dX12_settle_43 rfl ?_
        refine g_getfN fl12_211 hP1.1 rfl dX12_settle_44 ?_
        refine g_iload_n dX12_settle_47 rfl ?_
        refine g_aload_n dX12_settle_48 rfl ?_
        refine g_getf fl12_37 hM1.1 rfl dX12_settle_49 ?_
        refine g_aload_n dX12_settle_52 rfl ?_
        refine g_getfN fl12_211 hP1.1 rfl dX12_settle_53 ?_
        refine g_iload_n dX12_settle_56 rfl ?_
        refine g_ialdN (hP1.2.1 8 (by decide)) (by show j < 800; omega) (by decide) dX12_settle_57 ?_
        rw [h8]
        refine g_ialdN (hM1.2.1 4 (by decide)) (by show x.2 < 401; omega) (by decide) dX12_settle_58 ?_
        rw [w2]
        refine g_iastN (hP1.2.1 8 (by decide)) (by show j < 800; omega) (by decide) dX12_settle_59 ?_
        refine g_iincN dX12_settle_60 rfl (by decide) rfl ?_
        refine g_goto 2 dX12_settle_63 (by decide) ?_
        refine ih (j + 1) _ _ (by omega) hPa (fun k hk => by rw [vu_ne hk]; exact hB1 k hk) (fun i y hy => ⟨fun hi => ?_, fun hi => ?_⟩) (hO1.put (by omega) (by show q + 11 < q + 12; omega))
        · rw [vu_same]
          by_cases e : i = j
          · subst e
            rw [hxj] at hy
            cases hy
            rw [upd_same]
            unfold xvW
            rw [if_pos hab]
          · rw [upd_ne e]; exact (hB2 i y hy).1 (by omega)
        · rw [vu_same, upd_ne (by omega)]; exact (hB2 i y hy).2 (by omega)
      refine g_iload_n dX12_settle_2 rfl ?_
      refine g_aload_n dX12_settle_3 rfl ?_
      refine g_getfN fl12_274 hP1.1 rfl dX12_settle_4 ?_
      rw [hJ]
      refine g_icmp_geN 66 dX12_settle_7 (by decide) (by omega) (by omega) (fun c_7 => ?_) (fun c_7 => ?_)
      · exact absurd c_7 (by omega)
      · refine g_aload_n dX12_settle_10 rfl ?_
        refine g_getfN fl12_205 hP1.1 rfl dX12_settle_11 ?_
        refine g_iload_n dX12_settle_14 rfl ?_
        refine g_ialdN (hP1.2.1 7 (by decide)) (by show j < 800; omega) (by decide) dX12_settle_15 ?_
        rw [h7]
        refine g_bipush (nI 10) dX12_settle_16 (by decide) ?_
        refine g_icmp_eqN 43 dX12_settle_18 (by decide) (by omega) (by omega) (fun c_18 => ?_) (fun c_18 => ?_)
        · exact go (Or.inl (r15.mp c_18))
        · refine g_aload_n dX12_settle_21 rfl ?_
          refine g_getfN fl12_205 hP1.1 rfl dX12_settle_22 ?_
          refine g_iload_n dX12_settle_25 rfl ?_
          refine g_ialdN (hP1.2.1 7 (by decide)) (by show j < 800; omega) (by decide) dX12_settle_26 ?_
          rw [h7]
          refine g_bipush (nI 11) dX12_settle_27 (by decide) ?_
          refine g_icmp_eqN 43 dX12_settle_29 (by decide) (by omega) (by omega) (fun c_29 => ?_) (fun c_29 => ?_)
          · exact go (Or.inr (Or.inl (r16.mp c_29)))
          · refine g_aload_n dX12_settle_32 rfl ?_
            refine g_getfN fl12_205 hP1.1 rfl dX12_settle_33 ?_
            refine g_iload_n dX12_settle_36 rfl ?_
            refine g_ialdN (hP1.2.1 7 (by decide)) (by show j < 800; omega) (by decide) dX12_settle_37 ?_
            rw [h7]
            refine g_bipush (nI 13) dX12_settle_38 (by decide) ?_
            refine g_icmp_neN 60 dX12_settle_40 (by decide) (by omega) (by omega) (fun c_40 => ?_) (fun c_40 => ?_)
            · refine g_iincN dX12_settle_60 rfl (by decide) rfl ?_
              refine g_goto 2 dX12_settle_63 (by decide) ?_
              refine ih (j + 1) _ _ (by omega) hP1 hB1 (fun i y hy => ⟨fun hi => ?_, fun hi => (hB2 i y hy).2 (by omega)⟩) hO1
              by_cases e : i = j
              · subst e
                rw [hxj] at hy
                cases hy
                rw [h8]
                unfold xvW
                rw [if_neg (fun w => w.elim (fun w => c_18 (r15.mpr w)) (fun w => w.elim (fun w => c_29 (r16.mpr w)) (fun w => c_40 (r18.mpr w))))]
              · exact (hB2 i y hy).1 (by omega)
            · exact go (Or.inr (Or.inr (r18.mp (by omega))))
  refine g_iconst (nI 0) dX12_settle_0 (by decide) ?_
  refine g_istore_n dX12_settle_1 (by decide) rfl ?_
  exact loop E.length 0 h B (by omega) hP (fun _ _ => rfl) (fun i x hx2 => ⟨fun w => absurd w (Nat.not_lt_zero _), fun _ => (hx i x hx2).2⟩) OffB.rf
