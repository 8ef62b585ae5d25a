/-! the reference: read -/
theorem m12_errorOf {X : gX} {h : gH} {z m c pl q n k m0 : Nat} {f : Nat → Int32} {I : Nat → Int32} {A0 : Nat → Nat → Int32} {V : Nat → Int64} {J2 : Int32} {B0 : Nat → Nat → Int32} {s : PLt} {P S : List (Nat × Nat)} (hq : m + 25 ≤ q) (hK : EvK n f A0 V s) (hV : s.1.2.2 = P ++ (m0, k) :: S) (h0 : (seF n f P).2.2.1 = 0) (hE : EvS X h m c pl q n f I A0 V J2 B0 s.2 P) : gM X yX12_errorOf cX12_errorOf 4 (some .int) (2, 0, 0) [.ref m, .ref q, .int (nI k)] h z (fun r h' z' => r = some (.int (nI (se1 n f m0 k (seF n f P).1 (seF n f P).2.1).1)) ∧ z' = z ∧ (∃ A', MdB X h' m c pl I A' V ∧ ∀ k, k ≠ 4 → A' k = A0 k) ∧ ((se1 n f m0 k (seF n f P).1 (seF n f P).2.1).1 = 0 → EvS X h' m c pl q n f I A0 V J2 B0 s.2 (P ++ [(m0, k)])) ∧ OffR h h' m q) gNoX := by
  have h15 := hK.1.1.2.2.1.2 (m0, k) (by rw [hV]; simp)
  have h1 : 1 ≤ m0 := h15.2.2.2.1
  have h5 : m0 ≤ 5 := h15.2.2.2.2
  rcases (show m0 = 1 ∨ m0 = 2 ∨ m0 = 3 ∨ m0 = 4 ∨ m0 = 5 by omega) with e | e | e | e | e <;> subst e
  · exact m12_errorOf_1 hq hK hV h0 hE
  · exact m12_errorOf_2 hq hK hV h0 hE
  · exact m12_errorOf_3 hq hK hV h0 hE
  · exact m12_errorOf_4 hq hK hV h0 hE
  · exact m12_errorOf_5 hq hK hV h0 hE
theorem se1_lt {n m k no : Nat} {f : Nat → Int32} {Ws : List (List Nat)} : (se1 n f m k Ws no).1 < 10 := by
  unfold se1
  repeat' split
  all_goals first
    | exact (show 0 < 10 by decide)
    | exact (show 2 < 10 by decide)
    | exact (show 3 < 10 by decide)
    | exact (show 4 < 10 by decide)
    | exact (show 5 < 10 by decide)
set_option maxRecDepth 100000 in
set_option maxHeartbeats 4000000 in
theorem m12_read {X : gX} {h : gH} {z m c pl q n : Nat} {I : Nat → Int32} {A : Nat → Nat → Int32} {V : Nat → Int64} {J : Nat → Int32} {B : Nat → Nat → Int32} {U W : Nat → Int64} {K : gKo} (hc : ∀ x, x ∈ (bkR n (A 0)).2.1.2.1 → rc x.1 < 2000) (hK : gCo X K) (hq : m + 25 ≤ q) (hM : MdB X h m c pl I A V) (hI1 : I 1 = nI n) (hn : n ≤ 2000) (hby : ∀ j, j < n → A 0 j ≠ -1) (hP : MpB X h q J B U W) (hJ : J 0 = nI 0 ∧ J 1 = nI 0 ∧ J 2 = nI 0) : gM X yX12_read cX12_read 4 (some .int) (46, 0, 0) [.ref m, .ref q] h z (fun r h' z' => r = some (.int (nI (bkE n (A 0)))) ∧ z' = z ∧ (∃ I' A' V', MdB X h' m c pl I' A' V' ∧ (∀ j, j ≠ 2 → j ≠ 3 → j ≠ 4 → j ≠ 5 → I' j = I j) ∧ (∀ k, k = 0 ∨ 5 ≤ k → A' k = A k) ∧ I' 2 = (if bkE n (A 0) = 0 then I 2 else bkP n (A 0))) ∧ (bkE n (A 0) = 0 → MpP X h' q (plM n (A 0) (bkR n (A 0)).2)) ∧ OffR h h' m q) gNoX := by
  obtain ⟨hl4, hl1, -⟩ := tkl_spec n (A 0)
  have hps := bkR_ps (n := n) (f := A 0)
  have hpl := hps.1
  refine gM.of px12 (Nat.le_of_ble_eq_true rfl) ?_
  intro F hE
  refine g_aload_n dX12_read_0 rfl ?_
  refine g_callV0 kX12_353 (m12_cutIntoTokens hK hM hI1 hn hby) hM.1 rfl rfl rfl (Nat.le_of_ble_eq_true rfl) (by decide) (by decide) (Nat.zero_le _) (Nat.zero_le _) dX12_read_1 ?_
  rintro v1 h1 z1 ⟨rfl, rfl, ⟨A1, V1, hM1, hMT, hA1⟩, hO1⟩
  refine g_aload_n dX12_read_4 rfl ?_
  refine g_iconst (nI 0) dX12_read_5 (by decide) ?_
  refine md_put3 fl12_265 hM1 OffM.rf dX12_read_6 (fun h2 hM2 hO2 => ?_)
  refine g_aload_n dX12_read_9 rfl ?_
  refine g_iconst (nI 0) dX12_read_10 (by decide) ?_
  refine md_put4 fl12_271 hM2 OffM.rf dX12_read_11 (fun h3 hM3 hO3 => ?_)
  refine g_aload_n dX12_read_14 rfl ?_
  refine g_iconst (nI 0) dX12_read_15 (by decide) ?_
  refine md_put5 fl12_320 hM3 OffM.rf dX12_read_16 (fun h4 hM4 hO4 => ?_)
  have hQ4 : MpB X h4 q J B U W := (((hP.off hO1 (by omega)).off hO2 (by omega)).off hO3 (by omega)).off hO4 (by omega)
  have hI4 : ∀ j, j ≠ 3 → j ≠ 4 → j ≠ 5 → (upd (upd (upd I 3 (nI 0)) 4 (nI 0)) 5 (nI 0)) j = I j := fun j a b c => by rw [upd_ne c, upd_ne b, upd_ne a]
  have hI43 : (upd (upd (upd I 3 (nI 0)) 4 (nI 0)) 5 (nI 0)) 3 = nI 0 := by rw [upd_ne (by decide), upd_ne (by decide), upd_same]
  have hI44 : (upd (upd (upd I 3 (nI 0)) 4 (nI 0)) 5 (nI 0)) 4 = nI 0 := by rw [upd_ne (by decide), upd_same]
  have hI45 : (upd (upd (upd I 3 (nI 0)) 4 (nI 0)) 5 (nI 0)) 5 = nI 0 := upd_same
  generalize (upd (upd (upd I 3 (nI 0)) 4 (nI 0)) 5 (nI 0)) = I4 at hM4 hI4 hI43 hI44 hI45
  have hO14 : OffM h h4 m := ((hO1.trans hO2).trans hO3).trans hO4
  have hT : RcT n (A 0) (I4, A1, V1, J, B, U, W) := fun i hi => ⟨(hMT i (by omega)).1, (hMT i (by omega)).2.2.2.2⟩
  have hRb : RbS X h4 m c pl q n (A 0) (I4, A1, V1, J, B, U, W) ((0, [], []), []) true := ⟨_, RsR.rf, ⟨I4, A1, J, B, hM4, hQ4, fun _ _ _ => rfl, fun _ _ => rfl, fun _ _ => rfl, fun _ _ _ => rfl, hI43, fun _ => ⟨hI44, hJ.2.2, (fun j x hx => by cases hx), fun i hi => (hMT i (by omega)).2.2.1⟩⟩, fun _ => ⟨hI45, fun _ k o ho => by cases ho⟩⟩
  refine g_aload_n dX12_read_19 rfl ?_
  refine g_aload_n dX12_read_20 rfl ?_
  refine g_callV0 kX12_356 (m12_isBook hq hT hRb) hM4.1 rfl rfl rfl (Nat.le_of_ble_eq_true rfl) (by decide) (by decide) (Nat.zero_le _) (Nat.zero_le _) dX12_read_21 ?_
  rintro v1 h5 z1 ⟨rfl, rfl, hR5, hO5⟩
  obtain ⟨R5, hRR, hI5, hRO⟩ := hR5
  obtain ⟨I5, A5, J5, B5, hM5, hQ5, e15, e25, e35, e45, e55, e65⟩ := id hI5
  have hO15 := hO14.toR.trans hO5
  have hIj : ∀ j, j ≠ 3 → j ≠ 4 → j ≠ 5 → I5 j = I j := fun j a b c => by rw [e15 j a b, hRR.1 j c]; exact hI4 j a b c
  have hAk : ∀ k, k ≠ 3 → A5 k = A1 k := fun k a => by rw [e25 k a, hRR.2.1]
  have hAj : ∀ k, k = 0 ∨ 5 ≤ k → A5 k = A k := fun k a => by rw [hAk k (by omega)]; exact hA1 k (by omega) (by omega) (by omega)
  have hfr : ∀ t, t ≤ tkl n (A 0) → A5 2 t = nI (tks n (A 0) t) := fun t ht => by rw [hAk 2 (by decide)]; exact (hMT t (by omega)).2.1
  refine g_if_neB 42 dX12_read_24 (by decide) (fun c_24 => ?_) (fun c_24 => ?_)
  · obtain ⟨hBk, hN⟩ := bkR_ok c_24
    have hO := hRO c_24
    obtain ⟨f1, f2, f3, f4⟩ := e65 c_24
    rw [hRR.2.2.1] at hM5
    have hM5 : MdB X h5 m c pl I5 A5 V1 := hM5
    have hK5 : EvK n (A 0) A5 V1 (bkR n (A 0)).2 := ⟨hBk, hN, f4, fun i hi hk => (hMT i (by omega)).2.2.2.1 hk⟩
    have hJ5 : ∀ j, j ≠ 2 → J5 j = J j := fun j a => by rw [e35 j a, hRR.2.2.2.1]
    have hE0 : EvS X h5 m c pl q n (A 0) I5 A5 V1 (nI (bkR n (A 0)).2.1.2.1.length) B5 (bkR n (A 0)).2.2 [] := ⟨A5, J5, B5, _, _, hM5, hQ5, fun _ _ => rfl, by rw [hJ5 0 (by decide)]; exact hJ.1, by rw [hJ5 1 (by decide)]; exact hJ.2.1, f2, (fun i hi => absurd hi (Nat.not_lt_zero _)), fun _ _ => rfl, (fun e he => by cases he), fun i o ho => ⟨(fun _ hm => by cases hm), (fun _ hm => by cases hm)⟩⟩
    have hvl := hBk.1.vlt
    have loop : ∀ (r k : Nat) (h6 : gH) (x3 : Option Value) (P S : List (Nat × Nat)), k + r = (bkR n (A 0)).2.1.1 → (bkR n (A 0)).2.1.2.2 = P ++ S → (∀ e, e ∈ P → e.2 < k) → (∀ e, e ∈ S → k ≤ e.2) → (seF n (A 0) P).2.2.1 = 0 → EvS X h6 m c pl q n (A 0) I5 A5 V1 (nI (bkR n (A 0)).2.1.2.1.length) B5 (bkR n (A 0)).2.2 P → OffR h h6 m q → G X F cX12_read 4 yX12_read.cls (46, 0, 0) 0 0 44 [some (.ref m), some (.ref q), some (.int (nI k)), x3] [] h6 z1 := by
      intro r
      induction r with
      | zero =>
        intro k h6 x3 P S hk hV hPk hSk hz hE6 hO6
        have hS : S = [] := by
          cases S with
          | nil => rfl
          | cons e S => exact absurd (hvl e (by rw [hV]; simp)) (by have := hSk e List.mem_cons_self; omega)
        subst hS
        rw [List.append_nil] at hV
        subst hV
        obtain ⟨A6, J6, B6, U6, W6, hM6, hQ6, a1, a2, a3, a4, a5, a6, a7, a8⟩ := hE6
        have hel : (bkR n (A 0)).2.1.2.1.length ≤ 400 := by have := hps.2.1; omega
        refine g_iload_n dX12_read_44 rfl ?_
        refine g_aload_n dX12_read_45 rfl ?_
        refine g_getf fl12_265 hM6.1 rfl dX12_read_46 ?_
        rw [e55]
        refine g_icmp_geN 84 dX12_read_49 (by decide) (by omega) (by omega) (fun c_49 => ?_) (fun c_49 => ?_)
        · refine g_aload_n dX12_read_84 rfl ?_
          refine g_aload_n dX12_read_85 rfl ?_
          refine g_callV0 kX12_362 (m12_settle (f := A 0) (n := n) (seF n (A 0) (bkR n (A 0)).2.1.2.2).1 (bkR n (A 0)).2.1.2.1 hq hM6 hQ6 a4 hel (fun j x hx => by rw [a6 7 (Or.inr (by decide)), a6 8 (Or.inr (by decide))]; exact f3 j x hx) hc (fun x hx hab => ⟨by have h9 : x.2 < (bkR n (A 0)).2.1.1 := hvl (5, x.2) (hBk.1.2.2.2 x hx hab); omega, a7 (5, x.2) (hBk.1.2.2.2 x hx hab) (Or.inr rfl)⟩)) hM6.1 rfl rfl rfl (Nat.le_of_ble_eq_true rfl) (by decide) (by decide) (Nat.zero_le _) (Nat.zero_le _) dX12_read_86 ?_
          rintro v1 h7 z2 ⟨rfl, rfl, ⟨B7, hQ7, b1, b2⟩, hO7⟩
          have er : bkE n (A 0) = 0 := by unfold bkE; rw [if_pos c_24]; exact hz
          refine g_iconst (nI 0) dX12_read_89 (by decide) ?_
          refine g_iret hE rfl ⟨by rw [er], rfl, ⟨I5, A6, V1, hM6.offq hO7 hq, fun j a b c d => hIj j b c d, fun k hk => by rw [a1 k (by omega)]; exact hAj k hk, by rw [if_pos er]; exact hIj 2 (by decide) (by decide) (by decide)⟩, fun _ => MpP.of (R := R5) (B0 := B5) hBk hN hz hQ7 a2 a3 a4 (fun i hi => by
            obtain ⟨c0, c1, c2, c3, c4⟩ := a5 i hi
            exact ⟨c1, c2, by rw [b1 0 (by decide)]; exact c3, fun k hk => by rw [b1 1 (by decide)]; exact c4 k hk⟩) (fun k hk => by rw [b1 k (by omega), a6 k (by omega)]; exact e45 k (by omega) (by omega)) hO (fun j x hx => ⟨by rw [b1 7 (by decide), a6 7 (Or.inr (by decide))]; exact (f3 j x hx).1, b2 j x hx⟩) (fun i o ho => ⟨(a8 i o ho).1, fun q7 hm => by rw [b1 3 (by decide)]; exact (a8 i o ho).2 q7 hm⟩), hO6.trans (hO7.toR (by omega))⟩ dX12_read_90
        · exact absurd c_49 (by omega)
      | succ r ih =>
        intro k h6 x3 P S hk hV hPk hSk hz hE6 hO6
        obtain ⟨A6, J6, B6, U6, W6, hM6, hQ6, a1, a2, a3, a4, a5, a6, a7, a8⟩ := id hE6
        by_cases hev : ∃ e S', S = e :: S' ∧ e.2 = k
        case neg =>
          have hne : ∀ e, e ∈ (bkR n (A 0)).2.1.2.2 → e.2 ≠ k := fun e he q9 => by
            rw [hV] at he
            rcases List.mem_append.mp he with g | g
            · have := hPk e g; omega
            · cases S with
              | nil => cases g
              | cons y S =>
                rcases List.mem_cons.mp g with g2 | g2
                · subst g2; exact hev ⟨_, _, rfl, q9⟩
                · have hp := hBk.1.2.2.1.1
                  rw [hV, List.pairwise_append, List.pairwise_cons] at hp
                  have h1 := hp.2.1.1 e g2
                  have h2 := hSk y List.mem_cons_self
                  omega
          have h30 : A6 3 k = 0 := by rw [a1 3 (by decide), f4 k (by omega), mnV_no hne]; rfl
          have hSk2 : ∀ e, e ∈ S → k + 1 ≤ e.2 := fun e he => by
            have h1 := hSk e he
            have h2 := hne e (by rw [hV]; exact List.mem_append_right _ he)
            omega
          refine g_iload_n dX12_read_44 rfl ?_
          refine g_aload_n dX12_read_45 rfl ?_
          refine g_getf fl12_265 hM6.1 rfl dX12_read_46 ?_
          rw [e55]
          refine g_icmp_geN 84 dX12_read_49 (by decide) (by omega) (by omega) (fun c_49 => ?_) (fun c_49 => ?_)
          · exact absurd c_49 (by omega)
          · refine g_aload_n dX12_read_52 rfl ?_
            refine g_aload_n dX12_read_53 rfl ?_
            refine g_iload_n dX12_read_54 rfl ?_
            refine g_callV0 kX12_359 (m12_errorOf_0 (by omega) hM6 h30) hM6.1 rfl rfl rfl (Nat.le_of_ble_eq_true rfl) (by decide) (by decide) (Nat.zero_le _) (Nat.zero_le _) dX12_read_55 ?_
            rintro v1 h7 z2 ⟨rfl, rfl, rfl⟩
            refine g_istore_n dX12_read_58 (by decide) rfl ?_
            refine g_iload_n dX12_read_59 rfl ?_
            refine g_if_ne 66 dX12_read_60 (by decide) (fun c_60 => ?_) (fun c_60 => ?_)
            · exact absurd rfl c_60
            · refine g_goto 78 dX12_read_63 (by decide) ?_
              refine g_iincN dX12_read_78 rfl (by decide) rfl ?_
              refine g_goto 44 dX12_read_81 (by decide) ?_
              exact ih (k + 1) _ _ P S (by omega) hV (fun e he => by have := hPk e he; omega) hSk2 hz hE6 hO6
        obtain ⟨⟨m0, k0⟩, S', rfl, hk0⟩ := hev
        have hk0 : k0 = k := hk0
        subst hk0
        have hsl := se1_lt (n := n) (f := A 0) (m := m0) (k := k0) (Ws := (seF n (A 0) P).1) (no := (seF n (A 0) P).2.1)
        refine g_iload_n dX12_read_44 rfl ?_
        refine g_aload_n dX12_read_45 rfl ?_
        refine g_getf fl12_265 hM6.1 rfl dX12_read_46 ?_
        rw [e55]
        refine g_icmp_geN 84 dX12_read_49 (by decide) (by omega) (by omega) (fun c_49 => ?_) (fun c_49 => ?_)
        · exact absurd c_49 (by omega)
        · refine g_aload_n dX12_read_52 rfl ?_
          refine g_aload_n dX12_read_53 rfl ?_
          refine g_iload_n dX12_read_54 rfl ?_
          refine g_callV0 kX12_359 (m12_errorOf hq hK5 hV hz hE6) hM6.1 rfl rfl rfl (Nat.le_of_ble_eq_true rfl) (by decide) (by decide) (Nat.zero_le _) (Nat.zero_le _) dX12_read_55 ?_
          rintro v1 h7 z2 ⟨rfl, rfl, ⟨A7, hM7, g1⟩, hE7, hO7⟩
          refine g_istore_n dX12_read_58 (by decide) rfl ?_
          refine g_iload_n dX12_read_59 rfl ?_
          refine g_if_ne 66 dX12_read_60 (by decide) (fun c_60 => ?_) (fun c_60 => ?_)
          · have hne : (se1 n (A 0) m0 k0 (seF n (A 0) P).1 (seF n (A 0) P).2.1).1 ≠ 0 := fun w => c_60 (by rw [w]; rfl)
            have hst := seF_st (S := S') (e := (m0, k0)) hz hne
            rw [← hV] at hst
            have er : bkE n (A 0) = (se1 n (A 0) m0 k0 (seF n (A 0) P).1 (seF n (A 0) P).2.1).1 := by unfold bkE; rw [if_pos c_24, hst]
            have ep : bkP n (A 0) = nI (tks n (A 0) k0) := by unfold bkP; rw [if_pos c_24, hst]; exact if_neg hne
            have hkl : k0 ≤ tkl n (A 0) := by omega
            have hfr7 : A7 2 k0 = nI (tks n (A 0) k0) := by rw [g1 2 (by decide)]; exact hfr k0 hkl
            refine g_aload_n dX12_read_66 rfl ?_
            refine g_aload_n dX12_read_67 rfl ?_
            refine g_getf fl12_27 hM7.1 rfl dX12_read_68 ?_
            refine g_iload_n dX12_read_71 rfl ?_
            refine g_ialdN (hM7.2.1 2 (by decide)) (by show k0 < 401; omega) (by decide) dX12_read_72 ?_
            rw [hfr7]
            refine md_put2 fl12_13 hM7 OffM.rf dX12_read_73 (fun h8 hM8 hO8 => ?_)
            refine g_iload_n dX12_read_76 rfl ?_
            exact g_iret hE rfl (⟨by rw [er], rfl, ⟨_, A7, _, hM8, fun j a b c d => by rw [upd_ne a]; exact hIj j b c d, fun k hk => by rw [g1 k (by omega)]; exact hAj k hk, by rw [upd_same, er, if_neg hne]; exact ep.symm⟩, fun w => absurd (er.symm.trans w) hne, (hO6.trans hO7).trans hO8.toR⟩) dX12_read_77
          · have hez : (se1 n (A 0) m0 k0 (seF n (A 0) P).1 (seF n (A 0) P).2.1).1 = 0 := by
              have h9 := by first | exact c_60 | exact Classical.not_not.mp c_60
              exact (nI_eq (by omega) (by decide)).mp (h9.trans (show (0 : Int32) = nI 0 from rfl))
            refine g_goto 78 dX12_read_63 (by decide) ?_
            refine g_iincN dX12_read_78 rfl (by decide) rfl ?_
            refine g_goto 44 dX12_read_81 (by decide) ?_
            exact ih (k0 + 1) _ _ (P ++ [(m0, k0)]) S' (by omega) (by rw [hV, List.append_assoc]; rfl) (fun e he => (List.mem_append.mp he).elim (fun g => by have := hPk e g; omega) (fun g => by rw [List.mem_singleton.mp g]; exact Nat.lt_succ_self _)) (fun e he => by
              have hp := hBk.1.2.2.1.1
              rw [hV, List.pairwise_append, List.pairwise_cons] at hp
              exact hp.2.1.1 e he) (by rw [seF_er hz]; exact hez) (hE7 hez) (hO6.trans hO7)
    refine g_iconst (nI 0) dX12_read_42 (by decide) ?_
    refine g_istore_n dX12_read_43 (by decide) rfl ?_
    exact loop (bkR n (A 0)).2.1.1 0 h5 none [] (bkR n (A 0)).2.1.2.2 (by omega) rfl (fun e he => by cases he) (fun e _ => Nat.zero_le _) rfl hE0 hO15
  · refine g_aload_n dX12_read_27 rfl ?_
    refine g_aload_n dX12_read_28 rfl ?_
    refine g_getf fl12_27 hM5.1 rfl dX12_read_29 ?_
    refine g_aload_n dX12_read_32 rfl ?_
    refine g_getf fl12_265 hM5.1 rfl dX12_read_33 ?_
    rw [e55]
    refine g_ialdN (hM5.2.1 2 (by decide)) (by show (bkR n (A 0)).2.1.1 < 401; omega) (by decide) dX12_read_36 ?_
    rw [hfr _ hpl]
    refine md_put2 fl12_13 hM5 OffM.rf dX12_read_37 (fun h6 hM6 hO6 => ?_)
    refine g_iconst (nI 1) dX12_read_40 (by decide) ?_
    have e1 : bkE n (A 0) = 1 := by unfold bkE; rw [if_neg (by rw [c_24]; decide)]
    have e2 : bkP n (A 0) = nI (tks n (A 0) (bkR n (A 0)).2.1.1) := by unfold bkP; rw [if_neg (by rw [c_24]; decide)]
    rw [e1, e2] at hE
    exact g_iret hE rfl ⟨rfl, rfl, ⟨_, A5, _, hM6, fun j a b c d => by rw [upd_ne a]; exact hIj j b c d, hAj, by rw [upd_same, if_neg (by decide)]⟩, (fun w => absurd w (by decide)), hO15.trans hO6.toR⟩ dX12_read_41
