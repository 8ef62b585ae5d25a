/-! the reference: the result of a row of steps -/
/-- the array f holds the stack st, its top first -/
def SkA (f : Nat → Int32) : List Int32 → Prop
  | [] => True
  | v :: r => f r.length = v ∧ SkA f r
theorem skA_up {f : Nat → Int32} {j : Nat} {x : Int32} : ∀ {st : List Int32}, st.length ≤ j → SkA f st → SkA (upd f j x) st := by
  intro st
  induction st with
  | nil => intro _ _; trivial
  | cons v r ih =>
    intro hj hs
    rw [List.length_cons] at hj
    exact ⟨by rw [upd_ne (by omega)]; exact hs.1, ih (by omega) hs.2⟩
theorem SkA.push {f : Nat → Int32} {x : Int32} {st : List Int32} (hs : SkA f st) : SkA (upd f st.length x) (x :: st) := ⟨upd_same, skA_up (Nat.le_refl _) hs⟩
theorem MdV.stk {X : gX} {h : gH} {m pl : Nat} {L : List Int32} {I : Nat → Int32} {A : Nat → Nat → Int32} {V : Nat → Int64} {f g : Nat → Int32} {h1 : gH} (hV : MdV X h m pl L I (va_up A 9 g) V) (hM : MdB X h1 m L.length pl I (va_up A 9 f) V) : MdV X h1 m pl L I (va_up A 9 f) V := by
  have e : ∀ k, k ≠ 9 → va_up A 9 f k = va_up A 9 g k := fun k hk => (vu_ne hk).trans (vu_ne hk).symm
  exact ⟨hM, hV.2.1, fun i hi => by rw [e 5 (by decide)]; exact hV.2.2.1 i hi, hV.2.2.2.elim Or.inl (fun q => Or.inr ⟨q.1, fun p hp => by rw [e 7 (by decide)]; exact q.2.1 p hp, fun p hp => by rw [e 8 (by decide)]; exact q.2.2 p hp⟩)⟩
set_option maxRecDepth 100000 in
set_option maxHeartbeats 4000000 in
theorem m12_result {X : gX} {h : gH} {z m pl : Nat} {I : Nat → Int32} {A : Nat → Nat → Int32} {V : Nat → Int64} {L : List Int32} {P : PlM} (s t : Nat) (v : Int32) (hst : s ≤ t) (ht : t ≤ P.2.2.1) (hok : OkP P) (hr : rn (atm L (I 6) P.1.2) P.2.2.2 (t - s) s [] = some [v]) (hP : MpP X h pl P) (hdj : pl + 12 ≤ m ∨ pl = m + 2 ∨ m + 25 ≤ pl) (hV : MdV X h m pl L I A V) : gM X yX12_result cX12_result 6 (some .int) (4, 0, 0) [.ref m, .int (nI s), .int (nI t)] h z (fun r h' z' => r = some (.int v) ∧ z' = z ∧ (∃ f, MdV X h' m pl L I (va_up A 9 f) V) ∧ OffM h h' m) gNoX := by
  obtain ⟨⟨h8, -⟩, -, h400, hx⟩ := hok
  refine gM.of px12 (Nat.le_of_ble_eq_true rfl) ?_
  intro F hE
  have hvv : ∀ (A : Nat → Nat → Int32) (f g : Nat → Int32), va_up (va_up A 9 f) 9 g = va_up A 9 g := fun A f g => by funext k; unfold va_up; split <;> rfl
  have loop : ∀ (r j : Nat) (st : List Int32) (o : Option Value) (f : Nat → Int32) (h1 : gH), j + r = t → s ≤ j → st.length ≤ 64 → SkA f st → rn (atm L (I 6) P.1.2) P.2.2.2 r j st = some [v] → MdV X h1 m pl L I (va_up A 9 f) V → OffM h h1 m → G X F cX12_result 6 yX12_result.cls (4, 0, 0) 0 0 5 [some (.ref m), some (.int (nI s)), some (.int (nI t)), some (.int (nI st.length)), some (.int (nI j)), o] [] h1 z := by
    intro r
    induction r with
    | zero =>
      intro j st o f h1 hj hsj hl hs hr hV hO
      have hn := hV.2.1
      refine g_iload dX12_result_5 rfl ?_
      refine g_iload_n dX12_result_7 rfl ?_
      refine g_icmp_geN 150 dX12_result_8 (by decide) (by omega) (by omega) (fun c_8 => ?_) (fun c_8 => ?_)
      · refine g_aload_n dX12_result_150 rfl ?_
        refine g_getf fl12_52 hV.1.1 rfl dX12_result_151 ?_
        refine g_iconst (nI 0) dX12_result_154 (by decide) ?_
        refine g_ialdN (hV.1.2.1 9 (by decide)) (by show _ < 800; omega) (by decide) dX12_result_155 ?_
        exact g_iret hE rfl (⟨by cases hr; rw [vu_same, show f 0 = v from hs.1], rfl, ⟨f, hV⟩, hO⟩) dX12_result_156
      · exact absurd c_8 (by omega)
    | succ r ih =>
      intro j st o f h1 hj hsj hl hs hr hV hO
      obtain ⟨J, B, U1, U2, hB, hJ, hWs, hOr, hS⟩ := hP.off hO hdj
      obtain ⟨st1, e1, e2⟩ := rn_last hr
      have hS1 := hS j (by omega)
      have hxj := hx j (by omega)
      generalize (P.2.2.2 j).1 = c at hS1 hxj e1
      generalize (P.2.2.2 j).2 = x at hS1 hxj e1
      have hc := stp_ok e1
      obtain ⟨f1, f2, f3, f4⟩ := code_facts c (code_lt hc) hc
      have hl1 := stp_len hl e1
      clear hr
      refine g_iload dX12_result_5 rfl ?_
      refine g_iload_n dX12_result_7 rfl ?_
      refine g_icmp_geN 150 dX12_result_8 (by decide) (by omega) (by omega) (fun c_8 => ?_) (fun c_8 => ?_)
      · exact absurd c_8 (by omega)
      · refine g_aload_n dX12_result_11 rfl ?_
        refine g_getf fl12_20 hV.1.1 rfl dX12_result_12 ?_
        refine g_getfN fl12_205 hB.1 rfl dX12_result_15 ?_
        refine g_iload dX12_result_18 rfl ?_
        refine g_ialdN (hB.2.1 7 (by decide)) (by show _ < 800; omega) (by decide) dX12_result_20 ?_
        rw [hS1.1]
        refine g_istore dX12_result_21 (by decide) rfl ?_
        refine g_iload dX12_result_23 rfl ?_
        refine g_callS0 kX12_208 (m12_isAsked _ f4) rfl rfl (Nat.le_of_ble_eq_true rfl) (by decide) (by decide) (by decide) (by decide) dX12_result_25 ?_
        rintro v1 h2 z1 ⟨rfl, rfl, rfl⟩
        rw [f1]
        refine g_if_eqB 59 dX12_result_28 (by decide) (fun c_28 => ?_) (fun c_28 => ?_)
        · refine g_iload dX12_result_59 rfl ?_
          refine g_bipush (nI 105) dX12_result_61 (by decide) ?_
          refine g_icmp_neN 86 dX12_result_63 (by decide) (by omega) (by omega) (fun c_63 => ?_) (fun c_63 => ?_)
          · refine g_iload dX12_result_86 rfl ?_
            refine g_bipush (nI 14) dX12_result_88 (by decide) ?_
            refine g_icmp_neN 114 dX12_result_90 (by decide) (by omega) (by omega) (fun c_90 => ?_) (fun c_90 => ?_)
            · obtain ⟨p, q, r1, hbi, rfl, rfl⟩ := stp_bi e1 c_28 (fun e => c_63 (f2.mpr e)) (fun e => c_90 (f3.mpr e))
              rw [List.length_cons, List.length_cons] at hl
              refine g_iincD (a := r1.length + 1) dX12_result_114 rfl (by decide) rfl ?_
              refine g_aload_n dX12_result_117 rfl ?_
              refine g_getf fl12_52 hV.1.1 rfl dX12_result_118 ?_
              refine g_iload_n dX12_result_121 rfl ?_
              refine g_iconst (nI 1) dX12_result_122 (by decide) ?_
              refine g_isubN (a := r1.length + 1) (b := 1) dX12_result_123 (by omega) ?_
              refine g_iload dX12_result_124 rfl ?_
              refine g_aload_n dX12_result_126 rfl ?_
              refine g_getf fl12_52 hV.1.1 rfl dX12_result_127 ?_
              refine g_iload_n dX12_result_130 rfl ?_
              refine g_iconst (nI 1) dX12_result_131 (by decide) ?_
              refine g_isubN (a := r1.length + 1) (b := 1) dX12_result_132 (by omega) ?_
              refine g_ialdN (hV.1.2.1 9 (by decide)) (by show _ < 800; omega) (by decide) dX12_result_133 ?_
              rw [show (va_up A 9 f 9) (r1.length + 1 - 1) = p from by rw [vu_same]; exact hs.2.1]
              refine g_aload_n dX12_result_134 rfl ?_
              refine g_getf fl12_52 hV.1.1 rfl dX12_result_135 ?_
              refine g_iload_n dX12_result_138 rfl ?_
              refine g_ialdN (hV.1.2.1 9 (by decide)) (by show _ < 800; omega) (by decide) dX12_result_139 ?_
              rw [show (va_up A 9 f 9) (r1.length + 1) = q from by rw [vu_same]; exact hs.1]
              refine g_callS0 kX12_217 (m12_reckon hbi p q) rfl rfl (Nat.le_of_ble_eq_true rfl) (by decide) (by decide) (by decide) (by decide) dX12_result_140 ?_
              rintro v1 h2 z1 ⟨rfl, rfl, rfl⟩
              refine md_ast (q := 9) (by decide) (by show _ < 800; omega) hV.1 hO dX12_result_143 (fun h2 hM2 hO2 => ?_)
              rw [hvv, vu_same] at hM2
              refine g_iincN dX12_result_144 rfl (by decide) rfl ?_
              refine g_goto 5 dX12_result_147 (by decide) ?_
              exact ih (j + 1) (bop c p q :: r1) _ _ h2 (by omega) (by omega) hl1 (SkA.push hs.2.2) e2 (hV.stk hM2) hO2
            · obtain ⟨v1, r1, rfl, hv1, rfl⟩ := stp_not e1 (f3.mp (by omega))
              rw [List.length_cons] at hl
              refine g_aload_n dX12_result_93 rfl ?_
              refine g_getf fl12_52 hV.1.1 rfl dX12_result_94 ?_
              refine g_iload_n dX12_result_97 rfl ?_
              refine g_iconst (nI 1) dX12_result_98 (by decide) ?_
              refine g_isubN (a := r1.length + 1) (b := 1) dX12_result_99 (by omega) ?_
              refine g_iconst (nI 1) dX12_result_100 (by decide) ?_
              refine g_aload_n dX12_result_101 rfl ?_
              refine g_getf fl12_52 hV.1.1 rfl dX12_result_102 ?_
              refine g_iload_n dX12_result_105 rfl ?_
              refine g_iconst (nI 1) dX12_result_106 (by decide) ?_
              refine g_isubN (a := r1.length + 1) (b := 1) dX12_result_107 (by omega) ?_
              refine g_ialdN (hV.1.2.1 9 (by decide)) (by show _ < 800; omega) (by decide) dX12_result_108 ?_
              rw [show (va_up A 9 f 9) (r1.length + 1 - 1) = v1 from by rw [vu_same]; exact hs.1]
              first | refine g_isubN dX12_result_109 (by omega) ?_ | refine g_isub dX12_result_109 ?_
              refine md_ast (q := 9) (by decide) (by show _ < 800; omega) hV.1 hO dX12_result_110 (fun h2 hM2 hO2 => ?_)
              rw [hvv, vu_same] at hM2
              refine g_goto 144 dX12_result_111 (by decide) ?_
              refine g_iincN dX12_result_144 rfl (by decide) rfl ?_
              refine g_goto 5 dX12_result_147 (by decide) ?_
              rw [show (nI 1 - v1 : Int32) = b2i (decide (v1 = 0)) from by rcases hv1 with rfl | rfl <;> rfl] at hM2
              exact ih (j + 1) (b2i (decide (v1 = 0)) :: r1) _ _ h2 (by omega) (by omega) hl1 (SkA.push hs.2) e2 (hV.stk hM2) hO2
          · obtain ⟨v1, r1, rfl, rfl⟩ := stp_neg e1 (f2.mp (by omega))
            rw [List.length_cons] at hl
            refine g_aload_n dX12_result_66 rfl ?_
            refine g_getf fl12_52 hV.1.1 rfl dX12_result_67 ?_
            refine g_iload_n dX12_result_70 rfl ?_
            refine g_iconst (nI 1) dX12_result_71 (by decide) ?_
            refine g_isubN (a := r1.length + 1) (b := 1) dX12_result_72 (by omega) ?_
            refine g_aload_n dX12_result_73 rfl ?_
            refine g_getf fl12_52 hV.1.1 rfl dX12_result_74 ?_
            refine g_iload_n dX12_result_77 rfl ?_
            refine g_iconst (nI 1) dX12_result_78 (by decide) ?_
            refine g_isubN (a := r1.length + 1) (b := 1) dX12_result_79 (by omega) ?_
            refine g_ialdN (hV.1.2.1 9 (by decide)) (by show _ < 800; omega) (by decide) dX12_result_80 ?_
            rw [show (va_up A 9 f 9) (r1.length + 1 - 1) = v1 from by rw [vu_same]; exact hs.1]
            refine g_ineg dX12_result_81 ?_
            refine md_ast (q := 9) (by decide) (by show _ < 800; omega) hV.1 hO dX12_result_82 (fun h2 hM2 hO2 => ?_)
            rw [hvv, vu_same] at hM2
            refine g_goto 144 dX12_result_83 (by decide) ?_
            refine g_iincN dX12_result_144 rfl (by decide) rfl ?_
            refine g_goto 5 dX12_result_147 (by decide) ?_
            exact ih (j + 1) (-v1 :: r1) _ _ h2 (by omega) (by omega) hl1 (SkA.push hs.2) e2 (hV.stk hM2) hO2
        · obtain ⟨hl2, rfl⟩ := stp_at e1 c_28
          refine g_aload_n dX12_result_31 rfl ?_
          refine g_getf fl12_52 hV.1.1 rfl dX12_result_32 ?_
          refine g_iload_n dX12_result_35 rfl ?_
          refine g_aload_n dX12_result_36 rfl ?_
          refine g_iload dX12_result_37 rfl ?_
          refine g_aload_n dX12_result_39 rfl ?_
          refine g_getf fl12_20 hV.1.1 rfl dX12_result_40 ?_
          refine g_getfN fl12_211 hB.1 rfl dX12_result_43 ?_
          refine g_iload dX12_result_46 rfl ?_
          refine g_ialdN (hB.2.1 8 (by decide)) (by show _ < 800; omega) (by decide) dX12_result_48 ?_
          rw [hS1.2]
          refine g_callV0 kX12_214 (m12_ask c x c_28 hxj h8 ⟨J, B, U1, U2, hB, hJ, hWs, hOr, hS⟩ hV) hV.1.1 rfl rfl rfl (Nat.le_of_ble_eq_true rfl) (by decide) (by decide) (by decide) (by decide) dX12_result_49 ?_
          rintro v1 h2 z1 ⟨rfl, rfl, rfl⟩
          refine md_ast (q := 9) (by decide) (by show _ < 800; omega) hV.1 hO dX12_result_52 (fun h2 hM2 hO2 => ?_)
          rw [hvv, vu_same] at hM2
          refine g_iincN dX12_result_53 rfl (by decide) rfl ?_
          refine g_goto 144 dX12_result_56 (by decide) ?_
          refine g_iincN dX12_result_144 rfl (by decide) rfl ?_
          refine g_goto 5 dX12_result_147 (by decide) ?_
          exact ih (j + 1) (atm L (I 6) P.1.2 c x :: st) _ _ h2 (by omega) (by omega) hl1 hs.push e2 (hV.stk hM2) hO2
  have hA9 : va_up A 9 (A 9) = A := by funext k; unfold va_up; split <;> simp [*]
  refine g_iconst (nI 0) dX12_result_0 (by decide) ?_
  refine g_istore_n dX12_result_1 (by decide) rfl ?_
  refine g_iload_n dX12_result_2 rfl ?_
  refine g_istore dX12_result_3 (by decide) rfl ?_
  refine loop (t - s) s [] _ (A 9) h (by omega) (by omega) (by decide) trivial hr (by rw [hA9]; exact hV) OffM.rf
