/-! the reference: values, all depths -/
/-- what is known of the depths below -/
def RLv (X : gX) (m c pl q n : Nat) (f : Nat → Int32) (R : rEn) (d dp : Nat) (lo : Option (PF × PF)) : Prop := dp ≤ 8 ∧ (lo = none → dp = 8) ∧ ∀ w, lo = some w → dp < 8 ∧ (∃ d1, d1 ≤ d ∧ RCt X m c pl q n f R yX12_isValue cX12_isValue 3 d1 (dp + 1) w.1) ∧ RCt X m c pl q n f R yX12_isSum cX12_isSum 3 d (dp + 1) w.2 ∧ (∃ k, Pg (tkk n f) (tkl n f) w.1 false k) ∧ ∃ k, Pg (tkk n f) (tkl n f) w.2 false k
def pM2 (K : Nat → Nat) (t : Nat) (lo : Option (PF × PF)) : PF := match lo with
  | none => pNo
  | some w => pSq (pTk K 24) (pSq w.2 (pSq (pTk K 29) (pSq w.2 (pSq (pTk K 25) (pPt t 0)))))
set_option maxRecDepth 100000 in
set_option maxHeartbeats 4000000 in
theorem m12_isOfTwo {X : gX} {m c pl q n d dp : Nat} {f : Nat → Int32} {R : rEn} {lo : Option (PF × PF)} (h2 : 2 ≤ d) (hq : m + 25 ≤ q) (hT : RcT n f R) (hL : RLv X m c pl q n f R d dp lo) (h : gH) (z : Nat) (s0 : PSt) (t : Nat) (ht : t = 22 ∨ t = 23) (hk : tkk n f s0.1 = t) (hs0 : PsOk n f s0) (hR0 : RcS X h m c pl q n f R s0 dp true) : gM X yX12_isOfTwo cX12_isOfTwo 3 (some .boolean) (d + 1, 0, 0) [.ref m, .ref q, .int (nI (rc t))] h z (fun r h' z' => r = some (.int (b2i (pM2 (tkk n f) t lo (s0.1 + 1, s0.2)).1)) ∧ z' = z ∧ RcS X h' m c pl q n f R (pM2 (tkk n f) t lo (s0.1 + 1, s0.2)).2 dp (pM2 (tkk n f) t lo (s0.1 + 1, s0.2)).1 ∧ OffR h h' m q) gNoX := by
  have hfin : ∀ (b : Bool) (h1 : gH) (s : PSt), RcS X h1 m c pl q n f R s dp b → OffR h h1 m q → (pM2 (tkk n f) t lo (s0.1 + 1, s0.2)) = (b, s) → some (Value.int (b2i b)) = some (.int (b2i (pM2 (tkk n f) t lo (s0.1 + 1, s0.2)).1)) ∧ z = z ∧ RcS X h1 m c pl q n f R (pM2 (tkk n f) t lo (s0.1 + 1, s0.2)).2 dp (pM2 (tkk n f) t lo (s0.1 + 1, s0.2)).1 ∧ OffR h h1 m q := by
    intro b h1 s hI hO hR
    rw [hR]
    exact ⟨rfl, rfl, hI, hO⟩
  obtain ⟨hl1, hl2, hl3⟩ := tkl_spec n f
  obtain ⟨hd8, hl0, hlo⟩ := hL
  have hs1 := hs0.1
  have hs2 := hs0.2.1
  have hR0' := hR0
  obtain ⟨I, A, J, B, hM, hQ, e1, e2, e3, e4, e5, e6⟩ := id hR0
  have hk0 := (hT s0.1 hs1).1
  rw [← e2 1 (by decide)] at hk0
  have p1 := hs0.step (Ps.tk hl2 (c := t) (by omega)) (by decide) (by decide)
  rw [pTk_y hk] at p1
  refine gM.of px12 (Nat.le_of_ble_eq_true rfl) ?_
  intro F hE
  refine g_aload_n dX12_isOfTwo_0 rfl ?_
  refine g_dup dX12_isOfTwo_1 rfl ?_
  refine g_getf fl12_265 hM.1 rfl dX12_isOfTwo_2 ?_
  rw [e5]
  refine g_iconst (nI 1) dX12_isOfTwo_5 (by decide) ?_
  first | refine g_iaddN dX12_isOfTwo_6 ?_ | refine g_iadd dX12_isOfTwo_6 ?_
  refine md_put3 fl12_265 hM OffM.rf dX12_isOfTwo_7 (fun h1 hM1 hO1 => ?_)
  have hI1 := RcS.t1 hq hM1 hO1 hQ e1 e2 e3 e4 (e6 rfl)
  refine g_aload_n dX12_isOfTwo_10 rfl ?_
  refine g_bipush (nI 40) dX12_isOfTwo_11 (by decide) ?_
  refine g_callV0 kX12_291 (m12_deeper (s := (s0.1 + 1, s0.2)) 24 (by decide) hq hT p1.1 hd8 hI1) hM1.1 rfl rfl rfl (Nat.le_of_ble_eq_true rfl) (by decide) (by show 1 + 1 ≤ d + 1; omega) (Nat.zero_le _) (Nat.zero_le _) dX12_isOfTwo_13 ?_
  rintro v1 h2 z1 ⟨rfl, hO2, hcs⟩
  have hO2 := hO1.toR.trans hO2
  rcases hcs with ⟨e8, rfl, hI2⟩ | ⟨e8, eb, rfl, hI2⟩ | ⟨e8, eb, rfl, hI2⟩
  · have hno : lo = none := by
      cases hh : lo with
      | none => rfl
      | some w => exact absurd (hlo w hh).1 (by omega)
    subst hno
    refine g_if_eqB 53 dX12_isOfTwo_16 (by decide) (fun _ => ?_) (fun q => absurd q (by decide))
    refine g_iconst (nI 0) dX12_isOfTwo_53 (by decide) ?_
    exact g_iret hE rfl (hfin false _ _ (hI2.f0 dp) hO2 rfl) dX12_isOfTwo_54
  · cases hh : lo with
    | none => exact absurd (hl0 hh) (by omega)
    | some w =>
      subst hh
      refine g_if_eqB 53 dX12_isOfTwo_16 (by decide) (fun _ => ?_) (fun q => absurd q (by decide))
      refine g_iconst (nI 0) dX12_isOfTwo_53 (by decide) ?_
      exact g_iret hE rfl (hfin false _ _ (hI2.f0 dp) hO2 (by show pSq _ _ _ = _; rw [pSq_n eb])) dX12_isOfTwo_54
  · have eb := pTk_1 eb
    rw [pTk_y eb] at hI2
    cases hh : lo with
    | none => exact absurd (hl0 hh) (by omega)
    | some w =>
      subst hh
      obtain ⟨-, ⟨d1, hd1, hv⟩, hu, ⟨kv, hPv⟩, ku, hPu⟩ := hlo w rfl
      obtain ⟨fs2, hg2⟩ := hI2.at
      have p2 := PsOk.step p1 (Ps.tk hl2 (c := 24) (by decide)) (by decide) (by decide)
      rw [pTk_y eb] at p2
      have p3 := PsOk.step p2 hPu (by decide) (by decide)
      refine g_if_eqB 53 dX12_isOfTwo_16 (by decide) (fun c_16 => ?_) (fun c_16 => ?_)
      · exact absurd c_16 (by decide)
      · refine g_aload_n dX12_isOfTwo_19 rfl ?_
        refine g_aload_n dX12_isOfTwo_20 rfl ?_
        refine g_callV0 kX12_307 (hu _ _ _ p2 hI2) hg2 rfl rfl rfl (Nat.le_of_ble_eq_true rfl) (by decide) (by show d + 1 ≤ d + 1; omega) (Nat.zero_le _) (Nat.zero_le _) dX12_isOfTwo_21 ?_
        rintro v1 h3 z1 ⟨rfl, rfl, hI3, hO3⟩
        obtain ⟨fs3, hg3⟩ := hI3.at
        refine g_if_eqB 53 dX12_isOfTwo_24 (by decide) (fun c_24 => ?_) (fun c_24 => ?_)
        · refine g_iconst (nI 0) dX12_isOfTwo_53 (by decide) ?_
          exact g_iret hE rfl (hfin false _ _ (hI3.f0 dp) (hO2.trans hO3) (by show pM2 _ _ (some _) _ = _; show pSq _ _ _ = _; rw [pSq_t (pTk_y eb), pSq_n c_24])) dX12_isOfTwo_54
        · refine g_aload_n dX12_isOfTwo_27 rfl ?_
          refine g_bipush (nI 44) dX12_isOfTwo_28 (by decide) ?_
          rw [c_24] at hI3
          refine g_callV0 kX12_268 (m12_eat 29 (by decide) hq hT p3.1 hI3) hg3 rfl rfl rfl (Nat.le_of_ble_eq_true rfl) (by decide) (by show 0 + 1 ≤ d + 1; omega) (Nat.zero_le _) (Nat.zero_le _) dX12_isOfTwo_30 ?_
          rintro v1 h4 z1 ⟨rfl, rfl, hI4, hO4⟩
          obtain ⟨fs4, hg4⟩ := hI4.at
          refine g_if_eqB 53 dX12_isOfTwo_33 (by decide) (fun c_33 => ?_) (fun c_33 => ?_)
          · refine g_iconst (nI 0) dX12_isOfTwo_53 (by decide) ?_
            exact g_iret hE rfl (hfin false _ _ (hI4.f0 dp) ((hO2.trans hO3).trans hO4) (by show pM2 _ _ (some _) _ = _; show pSq _ _ _ = _; rw [pSq_t (pTk_y eb), pSq_y c_24, pSq_n c_33])) dX12_isOfTwo_54
          · refine g_aload_n dX12_isOfTwo_36 rfl ?_
            refine g_aload_n dX12_isOfTwo_37 rfl ?_
            have k4 := pTk_1 c_33
            rw [pTk_y k4] at hI4
            have p4 := PsOk.step p3 (Ps.tk hl2 (c := 29) (by decide)) (by decide) (by decide)
            rw [pTk_y k4] at p4
            have p5 := PsOk.step p4 hPu (by decide) (by decide)
            refine g_callV0 kX12_307 (hu _ _ _ p4 hI4) hg4 rfl rfl rfl (Nat.le_of_ble_eq_true rfl) (by decide) (by show d + 1 ≤ d + 1; omega) (Nat.zero_le _) (Nat.zero_le _) dX12_isOfTwo_38 ?_
            rintro v1 h5 z1 ⟨rfl, rfl, hI5, hO5⟩
            obtain ⟨fs5, hg5⟩ := hI5.at
            refine g_if_eqB 53 dX12_isOfTwo_41 (by decide) (fun c_41 => ?_) (fun c_41 => ?_)
            · refine g_iconst (nI 0) dX12_isOfTwo_53 (by decide) ?_
              exact g_iret hE rfl (hfin false _ _ (hI5.f0 dp) (((hO2.trans hO3).trans hO4).trans hO5) (by show pM2 _ _ (some _) _ = _; show pSq _ _ _ = _; rw [pSq_t (pTk_y eb), pSq_y c_24, pSq_t (pTk_y k4), pSq_n c_41])) dX12_isOfTwo_54
            · refine g_aload_n dX12_isOfTwo_44 rfl ?_
              refine g_bipush (nI 41) dX12_isOfTwo_45 (by decide) ?_
              rw [c_41] at hI5
              refine g_callV0 kX12_297 (m12_closes 25 (by decide) hq hT p5.1 hd8 hI5) hg5 rfl rfl rfl (Nat.le_of_ble_eq_true rfl) (by decide) (by show 1 + 1 ≤ d + 1; omega) (Nat.zero_le _) (Nat.zero_le _) dX12_isOfTwo_47 ?_
              rintro v1 h7 z1 ⟨rfl, rfl, hI7, hO7⟩
              obtain ⟨fs7, hg7⟩ := hI7.at
              refine g_if_neB 55 dX12_isOfTwo_50 (by decide) (fun c_50 => ?_) (fun c_50 => ?_)
              · refine g_aload_n dX12_isOfTwo_55 rfl ?_
                refine g_aload_n dX12_isOfTwo_56 rfl ?_
                refine g_iload_n dX12_isOfTwo_57 rfl ?_
                refine g_iconst (nI 0) dX12_isOfTwo_58 (by decide) ?_
                have k7 := pTk_1 c_50
                rw [c_50] at hI7
                rw [pTk_y k7] at hI7
                have p7 := PsOk.step p5 (Ps.tk hl2 (c := 25) (by decide)) (by decide) (by decide)
                rw [pTk_y k7] at p7
                have hps := ((Ps.tk hl2 (c := t) (by omega)).seq ((Ps.tk hl2 (c := 24) (by decide)).seq (hPu.seq ((Ps.tk hl2 (c := 29) (by decide)).seq (hPu.seq (Ps.tk hl2 (c := 25) (by decide))))))) s0 hs1
                rw [pSq_t (pTk_y hk), pSq_t (pTk_y eb), pSq_y c_24, pSq_t (pTk_y k4), pSq_y c_41, pTk_y k7] at hps
                obtain ⟨X, V, a1, a2, a3, a4, a5, a6, a7⟩ := hps
                have a8 := (a6 rfl).1
                have e9 : (w.2 ((w.2 (s0.1 + 1 + 1, s0.2)).2.1 + 1, (w.2 (s0.1 + 1 + 1, s0.2)).2.2)).2.2.1.length = s0.2.1.length + X.length := by
                  have := congrArg (fun w => w.1.length) a1
                  rw [← List.length_append]; exact this
                have a9 : (X.length : Int) + s0.1 + 4 ≤ (((w.2 ((w.2 (s0.1 + 1 + 1, s0.2)).2.1 + 1, (w.2 (s0.1 + 1 + 1, s0.2)).2.2)).2.1 + 1 : Nat) : Int) := Int.le_trans (by omega) a8
                have a10 : (w.2 ((w.2 (s0.1 + 1 + 1, s0.2)).2.1 + 1, (w.2 (s0.1 + 1 + 1, s0.2)).2.2)).2.1 + 1 ≤ tkl n f := p7.1
                have hlen : (w.2 ((w.2 (s0.1 + 1 + 1, s0.2)).2.1 + 1, (w.2 (s0.1 + 1 + 1, s0.2)).2.2)).2.2.1.length < 400 := by omega
                refine g_callV0 kX12_280 (m12_put (s := ((w.2 ((w.2 (s0.1 + 1 + 1, s0.2)).2.1 + 1, (w.2 (s0.1 + 1 + 1, s0.2)).2.2)).2.1 + 1, (w.2 ((w.2 (s0.1 + 1 + 1, s0.2)).2.1 + 1, (w.2 (s0.1 + 1 + 1, s0.2)).2.2)).2.2)) t 0 hq hlen hI7) hg7 rfl rfl rfl (Nat.le_of_ble_eq_true rfl) (by decide) (by show 0 + 1 ≤ d + 1; omega) (Nat.zero_le _) (Nat.zero_le _) dX12_isOfTwo_59 ?_
                rintro v1 h8 z1 ⟨rfl, rfl, hI8, hO8⟩
                refine g_iconst (nI 1) dX12_isOfTwo_62 (by decide) ?_
                exact g_iret hE rfl (hfin true _ _ hI8 (((((hO2.trans hO3).trans hO4).trans hO5).trans hO7).trans hO8) (by show pM2 _ _ (some _) _ = _; show pSq _ _ _ = _; rw [pSq_t (pTk_y eb), pSq_y c_24, pSq_t (pTk_y k4), pSq_y c_41, pSq_t (pTk_y k7)]; rfl)) dX12_isOfTwo_63
              · refine g_iconst (nI 0) dX12_isOfTwo_53 (by decide) ?_
                exact g_iret hE rfl (hfin false _ _ (hI7.f0 dp) ((((hO2.trans hO3).trans hO4).trans hO5).trans hO7) (by show pM2 _ _ (some _) _ = _; show pSq _ _ _ = _; rw [pSq_t (pTk_y eb), pSq_y c_24, pSq_t (pTk_y k4), pSq_y c_41, pSq_n c_50])) dX12_isOfTwo_54
set_option maxRecDepth 100000 in
set_option maxHeartbeats 4000000 in
theorem m12_isValue_31 {X : gX} {m c pl q n d dp : Nat} {f : Nat → Int32} {R : rEn} {lo : Option (PF × PF)} (h2 : 2 ≤ d) (hq : m + 25 ≤ q) (hT : RcT n f R) (hL : RLv X m c pl q n f R d dp lo) (h : gH) (z : Nat) (s0 : PSt) (hs0 : PsOk n f s0) (hR0 : RcS X h m c pl q n f R s0 dp true) (hk : tkk n f s0.1 = 31) : gM X yX12_isValue cX12_isValue 3 (some .boolean) (d + 2, 0, 0) [.ref m, .ref q] h z (fun r h' z' => r = some (.int (b2i (pV (tkk n f) (tku n f) lo s0).1)) ∧ z' = z ∧ RcS X h' m c pl q n f R (pV (tkk n f) (tku n f) lo s0).2 dp (pV (tkk n f) (tku n f) lo s0).1 ∧ OffR h h' m q) gNoX := by
  have hLL := hL
  have hfin : ∀ (b : Bool) (h1 : gH) (s : PSt), RcS X h1 m c pl q n f R s dp b → OffR h h1 m q → (pV (tkk n f) (tku n f) lo s0) = (b, s) → some (Value.int (b2i b)) = some (.int (b2i (pV (tkk n f) (tku n f) lo s0).1)) ∧ z = z ∧ RcS X h1 m c pl q n f R (pV (tkk n f) (tku n f) lo s0).2 dp (pV (tkk n f) (tku n f) lo s0).1 ∧ OffR h h1 m q := by
    intro b h1 s hI hO hR
    rw [hR]
    exact ⟨rfl, rfl, hI, hO⟩
  obtain ⟨hl1, hl2, hl3⟩ := tkl_spec n f
  obtain ⟨hd8, hl0, hlo⟩ := hL
  have hs1 := hs0.1
  have hs2 := hs0.2.1
  have hR0' := hR0
  obtain ⟨I, A, J, B, hM, hQ, e1, e2, e3, e4, e5, e6⟩ := id hR0
  have hk0 := (hT s0.1 hs1).1
  rw [← e2 1 (by decide)] at hk0

  rw [hk] at hk0
  have p1 := hs0.step (Ps.tk hl2 (c := 31) (by decide)) (by decide) (by decide)
  rw [pTk_y hk] at p1
  have hlt := tk_lt (n := n) (f := f) (t := s0.1) (by omega) hs1
  have hk1 : A 1 s0.1 = nI 45 := hk0
  refine gM.of px12 (Nat.le_of_ble_eq_true rfl) ?_
  intro F hE
  refine g_aload_n dX12_isValue_0 rfl ?_
  refine g_getf fl12_24 hM.1 rfl dX12_isValue_1 ?_
  refine g_aload_n dX12_isValue_4 rfl ?_
  refine g_getf fl12_265 hM.1 rfl dX12_isValue_5 ?_
  rw [e5]
  refine g_ialdN (hM.2.1 1 (by decide)) (by show s0.1 < 401; omega) (by decide) dX12_isValue_8 ?_
  rw [hk1]
  refine g_istore_n dX12_isValue_9 (by decide) rfl ?_
  refine g_iload_n dX12_isValue_10 rfl ?_
  refine g_bipush (nI 45) dX12_isValue_11 (by decide) ?_
  refine g_icmp_neN 55 dX12_isValue_13 (by decide) (by omega) (by omega) (fun c_13 => ?_) (fun c_13 => ?_)
  · exact absurd c_13 (by decide)
  · refine g_aload_n dX12_isValue_16 rfl ?_
    refine g_bipush (nI 45) dX12_isValue_17 (by decide) ?_
    refine g_callV0 kX12_291 (m12_deeper 31 (by decide) hq hT hs1 hd8 hR0) hM.1 rfl rfl rfl (Nat.le_of_ble_eq_true rfl) (by decide) (by show 1 + 1 ≤ d + 2; omega) (Nat.zero_le _) (Nat.zero_le _) dX12_isValue_19 ?_
    rintro v1 h2 z1 ⟨rfl, hO2, hcs⟩
    rcases hcs with ⟨e8, rfl, hI2⟩ | ⟨e8, eb, rfl, hI2⟩ | ⟨e8, eb, rfl, hI2⟩
    · have hno : lo = none := by
        cases hh : lo with
        | none => rfl
        | some w => exact absurd (hlo w hh).1 (by omega)
      subst hno
      refine g_if_eqB 33 dX12_isValue_22 (by decide) (fun _ => ?_) (fun q => absurd q (by decide))
      refine g_iconst (nI 0) dX12_isValue_33 (by decide) ?_
      exact g_iret hE rfl (hfin false _ _ (hI2.f0 dp) hO2 (by unfold pV; rw [if_neg (by omega), if_neg (by omega), if_neg (by omega)]; exact if_neg (by omega))) dX12_isValue_34
    · exact Bool.noConfusion (show true = false from by rw [pTk_y hk] at eb; exact eb)
    · cases hh : lo with
      | none => exact absurd (hl0 hh) (by omega)
      | some w =>
        subst hh
        obtain ⟨-, ⟨d1, hd1, hv⟩, hu, ⟨kv, hPv⟩, ku, hPu⟩ := hlo w rfl
        rw [pTk_y hk] at hI2
        obtain ⟨fs2, hg2⟩ := hI2.at
        have q1 := fun w => ((PsOk.op hs0 hk (by decide) (by decide) hPv).2.2 w).1
        refine g_if_eqB 33 dX12_isValue_22 (by decide) (fun c_22 => ?_) (fun c_22 => ?_)
        · exact absurd c_22 (by decide)
        · refine g_aload_n dX12_isValue_25 rfl ?_
          refine g_aload_n dX12_isValue_26 rfl ?_
          refine g_callV0 kX12_313 (hv _ _ _ p1 hI2) hg2 rfl rfl rfl (Nat.le_of_ble_eq_true rfl) (by decide) (by show d1 + 1 ≤ d + 2; omega) (Nat.zero_le _) (Nat.zero_le _) dX12_isValue_27 ?_
          rintro v1 h3 z1 ⟨rfl, rfl, hI3, hO3⟩
          refine g_if_neB 35 dX12_isValue_30 (by decide) (fun c_30 => ?_) (fun c_30 => ?_)
          · rw [c_30] at hI3
            obtain ⟨I3, A3, J3, B3, hM3, hQ3, e13, e23, e33, e43, e53, e63⟩ := id hI3
            refine g_aload_n dX12_isValue_35 rfl ?_
            refine g_dup dX12_isValue_36 rfl ?_
            refine g_getf fl12_271 hM3.1 rfl dX12_isValue_37 ?_
            rw [(e63 rfl).1]
            refine g_iconst (nI 1) dX12_isValue_40 (by decide) ?_
            first | refine g_isubN dX12_isValue_41 (by omega) ?_ | refine g_isub dX12_isValue_41 ?_
            refine md_put4 fl12_271 hM3 OffM.rf dX12_isValue_42 (fun h4 hM4 hO4 => ?_)
            have hI4 : RcS X h4 m c pl q n f R (w.1 (s0.1 + 1, s0.2)).2 dp true := ⟨_, A3, J3, B3, hM4, hQ3.off hO4 (by omega), fun j a b => by rw [upd_ne b]; exact e13 j a b, e23, e33, e43, by rw [upd_ne (by decide)]; exact e53, fun _ => ⟨upd_same, (e63 rfl).2⟩⟩
            refine g_aload_n dX12_isValue_45 rfl ?_
            refine g_aload_n dX12_isValue_46 rfl ?_
            refine g_bipush (nI 105) dX12_isValue_47 (by decide) ?_
            refine g_iconst (nI 0) dX12_isValue_49 (by decide) ?_
            refine g_callV0 kX12_280 (m12_put 4 0 hq (q1 c_30) hI4) hM4.1 rfl rfl rfl (Nat.le_of_ble_eq_true rfl) (by decide) (by show 0 + 1 ≤ d + 2; omega) (Nat.zero_le _) (Nat.zero_le _) dX12_isValue_50 ?_
            rintro v1 h5 z1 ⟨rfl, rfl, hI5, hO5⟩
            refine g_iconst (nI 1) dX12_isValue_53 (by decide) ?_
            exact g_iret hE rfl (hfin true _ _ hI5 (((hO2.trans hO3).trans hO4.toR).trans hO5) (by unfold pV; rw [if_neg (by omega), if_neg (by omega), if_neg (by omega)]; refine (if_pos hk).trans ?_; rw [pSq_t (pTk_y hk), pSq_y c_30]; rfl)) dX12_isValue_54
          · refine g_iconst (nI 0) dX12_isValue_33 (by decide) ?_
            exact g_iret hE rfl (hfin false _ _ (hI3.f0 dp) (hO2.trans hO3) (by unfold pV; rw [if_neg (by omega), if_neg (by omega), if_neg (by omega)]; refine (if_pos hk).trans ?_; rw [pSq_t (pTk_y hk), pSq_n c_30])) dX12_isValue_34
set_option maxRecDepth 100000 in
set_option maxHeartbeats 4000000 in
theorem m12_isValue_24 {X : gX} {m c pl q n d dp : Nat} {f : Nat → Int32} {R : rEn} {lo : Option (PF × PF)} (h2 : 2 ≤ d) (hq : m + 25 ≤ q) (hT : RcT n f R) (hL : RLv X m c pl q n f R d dp lo) (h : gH) (z : Nat) (s0 : PSt) (hs0 : PsOk n f s0) (hR0 : RcS X h m c pl q n f R s0 dp true) (hk : tkk n f s0.1 = 24) : gM X yX12_isValue cX12_isValue 3 (some .boolean) (d + 2, 0, 0) [.ref m, .ref q] h z (fun r h' z' => r = some (.int (b2i (pV (tkk n f) (tku n f) lo s0).1)) ∧ z' = z ∧ RcS X h' m c pl q n f R (pV (tkk n f) (tku n f) lo s0).2 dp (pV (tkk n f) (tku n f) lo s0).1 ∧ OffR h h' m q) gNoX := by
  have hLL := hL
  have hfin : ∀ (b : Bool) (h1 : gH) (s : PSt), RcS X h1 m c pl q n f R s dp b → OffR h h1 m q → (pV (tkk n f) (tku n f) lo s0) = (b, s) → some (Value.int (b2i b)) = some (.int (b2i (pV (tkk n f) (tku n f) lo s0).1)) ∧ z = z ∧ RcS X h1 m c pl q n f R (pV (tkk n f) (tku n f) lo s0).2 dp (pV (tkk n f) (tku n f) lo s0).1 ∧ OffR h h1 m q := by
    intro b h1 s hI hO hR
    rw [hR]
    exact ⟨rfl, rfl, hI, hO⟩
  obtain ⟨hl1, hl2, hl3⟩ := tkl_spec n f
  obtain ⟨hd8, hl0, hlo⟩ := hL
  have hs1 := hs0.1
  have hs2 := hs0.2.1
  have hR0' := hR0
  obtain ⟨I, A, J, B, hM, hQ, e1, e2, e3, e4, e5, e6⟩ := id hR0
  have hk0 := (hT s0.1 hs1).1
  rw [← e2 1 (by decide)] at hk0

  rw [hk] at hk0
  have p1 := hs0.step (Ps.tk hl2 (c := 24) (by decide)) (by decide) (by decide)
  rw [pTk_y hk] at p1
  have hlt := tk_lt (n := n) (f := f) (t := s0.1) (by omega) hs1
  have hk1 : A 1 s0.1 = nI 40 := hk0
  refine gM.of px12 (Nat.le_of_ble_eq_true rfl) ?_
  intro F hE
  refine g_aload_n dX12_isValue_0 rfl ?_
  refine g_getf fl12_24 hM.1 rfl dX12_isValue_1 ?_
  refine g_aload_n dX12_isValue_4 rfl ?_
  refine g_getf fl12_265 hM.1 rfl dX12_isValue_5 ?_
  rw [e5]
  refine g_ialdN (hM.2.1 1 (by decide)) (by show s0.1 < 401; omega) (by decide) dX12_isValue_8 ?_
  rw [hk1]
  refine g_istore_n dX12_isValue_9 (by decide) rfl ?_
  refine g_iload_n dX12_isValue_10 rfl ?_
  refine g_bipush (nI 45) dX12_isValue_11 (by decide) ?_
  refine g_icmp_neN 55 dX12_isValue_13 (by decide) (by omega) (by omega) (fun c_13 => ?_) (fun c_13 => ?_)
  · refine g_iload_n dX12_isValue_55 rfl ?_
    refine g_bipush (nI 40) dX12_isValue_56 (by decide) ?_
    refine g_icmp_neN 93 dX12_isValue_58 (by decide) (by omega) (by omega) (fun c_58 => ?_) (fun c_58 => ?_)
    · exact absurd c_58 (by decide)
    · refine g_aload_n dX12_isValue_61 rfl ?_
      refine g_bipush (nI 40) dX12_isValue_62 (by decide) ?_
      refine g_callV0 kX12_291 (m12_deeper 24 (by decide) hq hT hs1 hd8 hR0) hM.1 rfl rfl rfl (Nat.le_of_ble_eq_true rfl) (by decide) (by show 1 + 1 ≤ d + 2; omega) (Nat.zero_le _) (Nat.zero_le _) dX12_isValue_64 ?_
      rintro v1 h2 z1 ⟨rfl, hO2, hcs⟩
      rcases hcs with ⟨e8, rfl, hI2⟩ | ⟨e8, eb, rfl, hI2⟩ | ⟨e8, eb, rfl, hI2⟩
      · have hno : lo = none := by
          cases hh : lo with
          | none => rfl
          | some w => exact absurd (hlo w hh).1 (by omega)
        subst hno
        refine g_if_eqB 91 dX12_isValue_67 (by decide) (fun _ => ?_) (fun q => absurd q (by decide))
        refine g_iconst (nI 0) dX12_isValue_91 (by decide) ?_
        exact g_iret hE rfl (hfin false _ _ (hI2.f0 dp) hO2 (by unfold pV; rw [if_neg (by omega), if_neg (by omega), if_neg (by omega)]; exact if_neg (by omega))) dX12_isValue_92
      · exact Bool.noConfusion (show true = false from by rw [pTk_y hk] at eb; exact eb)
      · cases hh : lo with
        | none => exact absurd (hl0 hh) (by omega)
        | some w =>
          subst hh
          obtain ⟨-, ⟨d1, hd1, hv⟩, hu, ⟨kv, hPv⟩, ku, hPu⟩ := hlo w rfl
          rw [pTk_y hk] at hI2
          obtain ⟨fs2, hg2⟩ := hI2.at
          have p2 := PsOk.step p1 hPu (by decide) (by decide)
          refine g_if_eqB 91 dX12_isValue_67 (by decide) (fun c_67 => ?_) (fun c_67 => ?_)
          · exact absurd c_67 (by decide)
          · refine g_aload_n dX12_isValue_70 rfl ?_
            refine g_aload_n dX12_isValue_71 rfl ?_
            refine g_callV0 kX12_307 (hu _ _ _ p1 hI2) hg2 rfl rfl rfl (Nat.le_of_ble_eq_true rfl) (by decide) (by show d + 1 ≤ d + 2; omega) (Nat.zero_le _) (Nat.zero_le _) dX12_isValue_72 ?_
            rintro v1 h3 z1 ⟨rfl, rfl, hI3, hO3⟩
            obtain ⟨fs3, hg3⟩ := hI3.at
            refine g_if_eqB 91 dX12_isValue_75 (by decide) (fun c_75 => ?_) (fun c_75 => ?_)
            · refine g_iconst (nI 0) dX12_isValue_91 (by decide) ?_
              exact g_iret hE rfl (hfin false _ _ (hI3.f0 dp) (hO2.trans hO3) (by unfold pV; rw [if_neg (by omega), if_neg (by omega), if_neg (by omega)]; refine (if_neg (by omega)).trans ((if_pos hk).trans ?_); rw [pSq_t (pTk_y hk), pSq_n c_75])) dX12_isValue_92
            · refine g_aload_n dX12_isValue_78 rfl ?_
              refine g_bipush (nI 41) dX12_isValue_79 (by decide) ?_
              rw [c_75] at hI3
              refine g_callV0 kX12_297 (m12_closes 25 (by decide) hq hT p2.1 hd8 hI3) hg3 rfl rfl rfl (Nat.le_of_ble_eq_true rfl) (by decide) (by show 1 + 1 ≤ d + 2; omega) (Nat.zero_le _) (Nat.zero_le _) dX12_isValue_81 ?_
              rintro v1 h5 z1 ⟨rfl, rfl, hI5, hO5⟩
              refine g_if_eqB 91 dX12_isValue_84 (by decide) (fun c_84 => ?_) (fun c_84 => ?_)
              · refine g_iconst (nI 0) dX12_isValue_91 (by decide) ?_
                exact g_iret hE rfl (hfin false _ _ (by rw [c_84] at hI5; exact hI5) ((hO2.trans hO3).trans hO5) (by unfold pV; rw [if_neg (by omega), if_neg (by omega), if_neg (by omega)]; refine (if_neg (by omega)).trans ((if_pos hk).trans ?_); rw [pSq_t (pTk_y hk), pSq_y c_75]; exact Prod.ext c_84 rfl)) dX12_isValue_92
              · refine g_iconst (nI 1) dX12_isValue_87 (by decide) ?_
                refine g_goto 92 dX12_isValue_88 (by decide) ?_
                exact g_iret hE rfl (hfin true _ _ (by rw [c_84] at hI5; exact hI5) ((hO2.trans hO3).trans hO5) (by unfold pV; rw [if_neg (by omega), if_neg (by omega), if_neg (by omega)]; refine (if_neg (by omega)).trans ((if_pos hk).trans ?_); rw [pSq_t (pTk_y hk), pSq_y c_75]; exact Prod.ext c_84 rfl)) dX12_isValue_92
  · exact absurd c_13 (by decide)
set_option maxRecDepth 100000 in
set_option maxHeartbeats 4000000 in
theorem m12_isValue_22 {X : gX} {m c pl q n d dp : Nat} {f : Nat → Int32} {R : rEn} {lo : Option (PF × PF)} (h2 : 2 ≤ d) (hq : m + 25 ≤ q) (hT : RcT n f R) (hL : RLv X m c pl q n f R d dp lo) (h : gH) (z : Nat) (s0 : PSt) (hs0 : PsOk n f s0) (hR0 : RcS X h m c pl q n f R s0 dp true) (hk : tkk n f s0.1 = 22) : gM X yX12_isValue cX12_isValue 3 (some .boolean) (d + 2, 0, 0) [.ref m, .ref q] h z (fun r h' z' => r = some (.int (b2i (pV (tkk n f) (tku n f) lo s0).1)) ∧ z' = z ∧ RcS X h' m c pl q n f R (pV (tkk n f) (tku n f) lo s0).2 dp (pV (tkk n f) (tku n f) lo s0).1 ∧ OffR h h' m q) gNoX := by
  have hLL := hL
  have hfin : ∀ (b : Bool) (h1 : gH) (s : PSt), RcS X h1 m c pl q n f R s dp b → OffR h h1 m q → (pV (tkk n f) (tku n f) lo s0) = (b, s) → some (Value.int (b2i b)) = some (.int (b2i (pV (tkk n f) (tku n f) lo s0).1)) ∧ z = z ∧ RcS X h1 m c pl q n f R (pV (tkk n f) (tku n f) lo s0).2 dp (pV (tkk n f) (tku n f) lo s0).1 ∧ OffR h h1 m q := by
    intro b h1 s hI hO hR
    rw [hR]
    exact ⟨rfl, rfl, hI, hO⟩
  obtain ⟨hl1, hl2, hl3⟩ := tkl_spec n f
  obtain ⟨hd8, hl0, hlo⟩ := hL
  have hs1 := hs0.1
  have hs2 := hs0.2.1
  have hR0' := hR0
  obtain ⟨I, A, J, B, hM, hQ, e1, e2, e3, e4, e5, e6⟩ := id hR0
  have hk0 := (hT s0.1 hs1).1
  rw [← e2 1 (by decide)] at hk0

  rw [hk] at hk0
  have p1 := hs0.step (Ps.tk hl2 (c := 22) (by decide)) (by decide) (by decide)
  rw [pTk_y hk] at p1
  have hlt := tk_lt (n := n) (f := f) (t := s0.1) (by omega) hs1
  have hk1 : A 1 s0.1 = nI 17 := hk0
  refine gM.of px12 (Nat.le_of_ble_eq_true rfl) ?_
  intro F hE
  refine g_aload_n dX12_isValue_0 rfl ?_
  refine g_getf fl12_24 hM.1 rfl dX12_isValue_1 ?_
  refine g_aload_n dX12_isValue_4 rfl ?_
  refine g_getf fl12_265 hM.1 rfl dX12_isValue_5 ?_
  rw [e5]
  refine g_ialdN (hM.2.1 1 (by decide)) (by show s0.1 < 401; omega) (by decide) dX12_isValue_8 ?_
  rw [hk1]
  refine g_istore_n dX12_isValue_9 (by decide) rfl ?_
  refine g_iload_n dX12_isValue_10 rfl ?_
  refine g_bipush (nI 45) dX12_isValue_11 (by decide) ?_
  refine g_icmp_neN 55 dX12_isValue_13 (by decide) (by omega) (by omega) (fun c_13 => ?_) (fun c_13 => ?_)
  · refine g_iload_n dX12_isValue_55 rfl ?_
    refine g_bipush (nI 40) dX12_isValue_56 (by decide) ?_
    refine g_icmp_neN 93 dX12_isValue_58 (by decide) (by omega) (by omega) (fun c_58 => ?_) (fun c_58 => ?_)
    · refine g_iload_n dX12_isValue_93 rfl ?_
      refine g_bipush (nI 17) dX12_isValue_94 (by decide) ?_
      refine g_icmp_eqN 105 dX12_isValue_96 (by decide) (by omega) (by omega) (fun c_96 => ?_) (fun c_96 => ?_)
      · refine g_aload_n dX12_isValue_105 rfl ?_
        refine g_aload_n dX12_isValue_106 rfl ?_
        refine g_iload_n dX12_isValue_107 rfl ?_
        refine g_callV0 kX12_316 (m12_isOfTwo h2 hq hT hLL _ _ s0 22 (by decide) hk hs0 hR0) hM.1 rfl rfl rfl (Nat.le_of_ble_eq_true rfl) (by decide) (by show d + 1 + 1 ≤ d + 2; omega) (Nat.zero_le _) (Nat.zero_le _) dX12_isValue_108 ?_
        rintro v1 h3 z1 ⟨rfl, rfl, hI3, hO3⟩
        have hF : pV (tkk n f) (tku n f) lo s0 = pM2 (tkk n f) 22 lo (s0.1 + 1, s0.2) := by
          unfold pV; rw [if_neg (by omega), if_neg (by omega), if_neg (by omega)]
          cases lo with
          | none => exact (if_pos (by omega)).trans (by rw [hk, pSq_t (pTk_y hk)]; rfl)
          | some w => exact (if_neg (by omega)).trans ((if_neg (by omega)).trans ((if_pos (by omega)).trans (by rw [hk, pSq_t (pTk_y hk)]; rfl)))
        rw [hF] at hE
        exact g_iret hE (nrB _) ⟨rfl, rfl, hI3, hO3⟩ dX12_isValue_111
      · exact absurd c_96 (by decide)
    · exact absurd c_58 (by decide)
  · exact absurd c_13 (by decide)
set_option maxRecDepth 100000 in
set_option maxHeartbeats 4000000 in
theorem m12_isValue_23 {X : gX} {m c pl q n d dp : Nat} {f : Nat → Int32} {R : rEn} {lo : Option (PF × PF)} (h2 : 2 ≤ d) (hq : m + 25 ≤ q) (hT : RcT n f R) (hL : RLv X m c pl q n f R d dp lo) (h : gH) (z : Nat) (s0 : PSt) (hs0 : PsOk n f s0) (hR0 : RcS X h m c pl q n f R s0 dp true) (hk : tkk n f s0.1 = 23) : gM X yX12_isValue cX12_isValue 3 (some .boolean) (d + 2, 0, 0) [.ref m, .ref q] h z (fun r h' z' => r = some (.int (b2i (pV (tkk n f) (tku n f) lo s0).1)) ∧ z' = z ∧ RcS X h' m c pl q n f R (pV (tkk n f) (tku n f) lo s0).2 dp (pV (tkk n f) (tku n f) lo s0).1 ∧ OffR h h' m q) gNoX := by
  have hLL := hL
  have hfin : ∀ (b : Bool) (h1 : gH) (s : PSt), RcS X h1 m c pl q n f R s dp b → OffR h h1 m q → (pV (tkk n f) (tku n f) lo s0) = (b, s) → some (Value.int (b2i b)) = some (.int (b2i (pV (tkk n f) (tku n f) lo s0).1)) ∧ z = z ∧ RcS X h1 m c pl q n f R (pV (tkk n f) (tku n f) lo s0).2 dp (pV (tkk n f) (tku n f) lo s0).1 ∧ OffR h h1 m q := by
    intro b h1 s hI hO hR
    rw [hR]
    exact ⟨rfl, rfl, hI, hO⟩
  obtain ⟨hl1, hl2, hl3⟩ := tkl_spec n f
  obtain ⟨hd8, hl0, hlo⟩ := hL
  have hs1 := hs0.1
  have hs2 := hs0.2.1
  have hR0' := hR0
  obtain ⟨I, A, J, B, hM, hQ, e1, e2, e3, e4, e5, e6⟩ := id hR0
  have hk0 := (hT s0.1 hs1).1
  rw [← e2 1 (by decide)] at hk0

  rw [hk] at hk0
  have p1 := hs0.step (Ps.tk hl2 (c := 23) (by decide)) (by decide) (by decide)
  rw [pTk_y hk] at p1
  have hlt := tk_lt (n := n) (f := f) (t := s0.1) (by omega) hs1
  have hk1 : A 1 s0.1 = nI 18 := hk0
  refine gM.of px12 (Nat.le_of_ble_eq_true rfl) ?_
  intro F hE
  refine g_aload_n dX12_isValue_0 rfl ?_
  refine g_getf fl12_24 hM.1 rfl dX12_isValue_1 ?_
  refine g_aload_n dX12_isValue_4 rfl ?_
  refine g_getf fl12_265 hM.1 rfl dX12_isValue_5 ?_
  rw [e5]
  refine g_ialdN (hM.2.1 1 (by decide)) (by show s0.1 < 401; omega) (by decide) dX12_isValue_8 ?_
  rw [hk1]
  refine g_istore_n dX12_isValue_9 (by decide) rfl ?_
  refine g_iload_n dX12_isValue_10 rfl ?_
  refine g_bipush (nI 45) dX12_isValue_11 (by decide) ?_
  refine g_icmp_neN 55 dX12_isValue_13 (by decide) (by omega) (by omega) (fun c_13 => ?_) (fun c_13 => ?_)
  · refine g_iload_n dX12_isValue_55 rfl ?_
    refine g_bipush (nI 40) dX12_isValue_56 (by decide) ?_
    refine g_icmp_neN 93 dX12_isValue_58 (by decide) (by omega) (by omega) (fun c_58 => ?_) (fun c_58 => ?_)
    · refine g_iload_n dX12_isValue_93 rfl ?_
      refine g_bipush (nI 17) dX12_isValue_94 (by decide) ?_
      refine g_icmp_eqN 105 dX12_isValue_96 (by decide) (by omega) (by omega) (fun c_96 => ?_) (fun c_96 => ?_)
      · exact absurd c_96 (by decide)
      · refine g_iload_n dX12_isValue_99 rfl ?_
        refine g_bipush (nI 18) dX12_isValue_100 (by decide) ?_
        refine g_icmp_neN 112 dX12_isValue_102 (by decide) (by omega) (by omega) (fun c_102 => ?_) (fun c_102 => ?_)
        · exact absurd c_102 (by decide)
        · refine g_aload_n dX12_isValue_105 rfl ?_
          refine g_aload_n dX12_isValue_106 rfl ?_
          refine g_iload_n dX12_isValue_107 rfl ?_
          refine g_callV0 kX12_316 (m12_isOfTwo h2 hq hT hLL _ _ s0 23 (by decide) hk hs0 hR0) hM.1 rfl rfl rfl (Nat.le_of_ble_eq_true rfl) (by decide) (by show d + 1 + 1 ≤ d + 2; omega) (Nat.zero_le _) (Nat.zero_le _) dX12_isValue_108 ?_
          rintro v1 h3 z1 ⟨rfl, rfl, hI3, hO3⟩
          have hF : pV (tkk n f) (tku n f) lo s0 = pM2 (tkk n f) 23 lo (s0.1 + 1, s0.2) := by
            unfold pV; rw [if_neg (by omega), if_neg (by omega), if_neg (by omega)]
            cases lo with
            | none => exact (if_pos (by omega)).trans (by rw [hk, pSq_t (pTk_y hk)]; rfl)
            | some w => exact (if_neg (by omega)).trans ((if_neg (by omega)).trans ((if_pos (by omega)).trans (by rw [hk, pSq_t (pTk_y hk)]; rfl)))
          rw [hF] at hE
          exact g_iret hE (nrB _) ⟨rfl, rfl, hI3, hO3⟩ dX12_isValue_111
    · exact absurd c_58 (by decide)
  · exact absurd c_13 (by decide)
set_option maxRecDepth 100000 in
set_option maxHeartbeats 4000000 in
theorem m12_isValue_15 {X : gX} {m c pl q n d dp : Nat} {f : Nat → Int32} {R : rEn} {lo : Option (PF × PF)} (h2 : 2 ≤ d) (hq : m + 25 ≤ q) (hT : RcT n f R) (hL : RLv X m c pl q n f R d dp lo) (h : gH) (z : Nat) (s0 : PSt) (hs0 : PsOk n f s0) (hR0 : RcS X h m c pl q n f R s0 dp true) (hk : tkk n f s0.1 = 15) : gM X yX12_isValue cX12_isValue 3 (some .boolean) (d + 2, 0, 0) [.ref m, .ref q] h z (fun r h' z' => r = some (.int (b2i (pV (tkk n f) (tku n f) lo s0).1)) ∧ z' = z ∧ RcS X h' m c pl q n f R (pV (tkk n f) (tku n f) lo s0).2 dp (pV (tkk n f) (tku n f) lo s0).1 ∧ OffR h h' m q) gNoX := by
  have hLL := hL
  have hfin : ∀ (b : Bool) (h1 : gH) (s : PSt), RcS X h1 m c pl q n f R s dp b → OffR h h1 m q → (pV (tkk n f) (tku n f) lo s0) = (b, s) → some (Value.int (b2i b)) = some (.int (b2i (pV (tkk n f) (tku n f) lo s0).1)) ∧ z = z ∧ RcS X h1 m c pl q n f R (pV (tkk n f) (tku n f) lo s0).2 dp (pV (tkk n f) (tku n f) lo s0).1 ∧ OffR h h1 m q := by
    intro b h1 s hI hO hR
    rw [hR]
    exact ⟨rfl, rfl, hI, hO⟩
  obtain ⟨hl1, hl2, hl3⟩ := tkl_spec n f
  obtain ⟨hd8, hl0, hlo⟩ := hL
  have hs1 := hs0.1
  have hs2 := hs0.2.1
  have hR0' := hR0
  obtain ⟨I, A, J, B, hM, hQ, e1, e2, e3, e4, e5, e6⟩ := id hR0
  have hk0 := (hT s0.1 hs1).1
  rw [← e2 1 (by decide)] at hk0

  rw [hk] at hk0
  have p1 := hs0.step (Ps.tk hl2 (c := 15) (by decide)) (by decide) (by decide)
  rw [pTk_y hk] at p1
  have hlt := tk_lt (n := n) (f := f) (t := s0.1) (by omega) hs1
  have hk1 : A 1 s0.1 = nI 10 := hk0
  refine gM.of px12 (Nat.le_of_ble_eq_true rfl) ?_
  intro F hE
  refine g_aload_n dX12_isValue_0 rfl ?_
  refine g_getf fl12_24 hM.1 rfl dX12_isValue_1 ?_
  refine g_aload_n dX12_isValue_4 rfl ?_
  refine g_getf fl12_265 hM.1 rfl dX12_isValue_5 ?_
  rw [e5]
  refine g_ialdN (hM.2.1 1 (by decide)) (by show s0.1 < 401; omega) (by decide) dX12_isValue_8 ?_
  rw [hk1]
  refine g_istore_n dX12_isValue_9 (by decide) rfl ?_
  refine g_iload_n dX12_isValue_10 rfl ?_
  refine g_bipush (nI 45) dX12_isValue_11 (by decide) ?_
  refine g_icmp_neN 55 dX12_isValue_13 (by decide) (by omega) (by omega) (fun c_13 => ?_) (fun c_13 => ?_)
  · refine g_iload_n dX12_isValue_55 rfl ?_
    refine g_bipush (nI 40) dX12_isValue_56 (by decide) ?_
    refine g_icmp_neN 93 dX12_isValue_58 (by decide) (by omega) (by omega) (fun c_58 => ?_) (fun c_58 => ?_)
    · refine g_iload_n dX12_isValue_93 rfl ?_
      refine g_bipush (nI 17) dX12_isValue_94 (by decide) ?_
      refine g_icmp_eqN 105 dX12_isValue_96 (by decide) (by omega) (by omega) (fun c_96 => ?_) (fun c_96 => ?_)
      · exact absurd c_96 (by decide)
      · refine g_iload_n dX12_isValue_99 rfl ?_
        refine g_bipush (nI 18) dX12_isValue_100 (by decide) ?_
        refine g_icmp_neN 112 dX12_isValue_102 (by decide) (by omega) (by omega) (fun c_102 => ?_) (fun c_102 => ?_)
        · refine g_iload_n dX12_isValue_112 rfl ?_
          refine g_bipush (nI 10) dX12_isValue_113 (by decide) ?_
          refine g_icmp_eqN 124 dX12_isValue_115 (by decide) (by omega) (by omega) (fun c_115 => ?_) (fun c_115 => ?_)
          · refine g_aload_n dX12_isValue_124 rfl ?_
            refine g_aload_n dX12_isValue_125 rfl ?_
            refine g_iload_n dX12_isValue_126 rfl ?_
            refine g_iconst (nI 1) dX12_isValue_127 (by decide) ?_
            refine g_callV0 kX12_300 (m12_isAbout 15 true hq hT p1 hR0) hM.1 rfl rfl rfl (Nat.le_of_ble_eq_true rfl) (by decide) (by show 2 + 1 ≤ d + 2; omega) (Nat.zero_le _) (Nat.zero_le _) dX12_isValue_128 ?_
            rintro v1 h3 z1 ⟨rfl, rfl, hI3, hO3⟩
            have hF : pV (tkk n f) (tku n f) lo s0 = (if true = true then pSq (pTk (tkk n f) 17) (pAb (tkk n f) 15) else pAb (tkk n f) 15) (s0.1 + 1, s0.2) := by
              unfold pV; rw [if_neg (by omega), if_neg (by omega), if_pos (by omega), hk, pSq_t (pTk_y hk), if_pos rfl]
            rw [hF] at hE
            exact g_iret hE (nrB _) ⟨rfl, rfl, hI3, hO3⟩ dX12_isValue_131
          · exact absurd c_115 (by decide)
        · exact absurd c_102 (by decide)
    · exact absurd c_58 (by decide)
  · exact absurd c_13 (by decide)
set_option maxRecDepth 100000 in
set_option maxHeartbeats 4000000 in
theorem m12_isValue_16 {X : gX} {m c pl q n d dp : Nat} {f : Nat → Int32} {R : rEn} {lo : Option (PF × PF)} (h2 : 2 ≤ d) (hq : m + 25 ≤ q) (hT : RcT n f R) (hL : RLv X m c pl q n f R d dp lo) (h : gH) (z : Nat) (s0 : PSt) (hs0 : PsOk n f s0) (hR0 : RcS X h m c pl q n f R s0 dp true) (hk : tkk n f s0.1 = 16) : gM X yX12_isValue cX12_isValue 3 (some .boolean) (d + 2, 0, 0) [.ref m, .ref q] h z (fun r h' z' => r = some (.int (b2i (pV (tkk n f) (tku n f) lo s0).1)) ∧ z' = z ∧ RcS X h' m c pl q n f R (pV (tkk n f) (tku n f) lo s0).2 dp (pV (tkk n f) (tku n f) lo s0).1 ∧ OffR h h' m q) gNoX := by
  have hLL := hL
  have hfin : ∀ (b : Bool) (h1 : gH) (s : PSt), RcS X h1 m c pl q n f R s dp b → OffR h h1 m q → (pV (tkk n f) (tku n f) lo s0) = (b, s) → some (Value.int (b2i b)) = some (.int (b2i (pV (tkk n f) (tku n f) lo s0).1)) ∧ z = z ∧ RcS X h1 m c pl q n f R (pV (tkk n f) (tku n f) lo s0).2 dp (pV (tkk n f) (tku n f) lo s0).1 ∧ OffR h h1 m q := by
    intro b h1 s hI hO hR
    rw [hR]
    exact ⟨rfl, rfl, hI, hO⟩
  obtain ⟨hl1, hl2, hl3⟩ := tkl_spec n f
  obtain ⟨hd8, hl0, hlo⟩ := hL
  have hs1 := hs0.1
  have hs2 := hs0.2.1
  have hR0' := hR0
  obtain ⟨I, A, J, B, hM, hQ, e1, e2, e3, e4, e5, e6⟩ := id hR0
  have hk0 := (hT s0.1 hs1).1
  rw [← e2 1 (by decide)] at hk0

  rw [hk] at hk0
  have p1 := hs0.step (Ps.tk hl2 (c := 16) (by decide)) (by decide) (by decide)
  rw [pTk_y hk] at p1
  have hlt := tk_lt (n := n) (f := f) (t := s0.1) (by omega) hs1
  have hk1 : A 1 s0.1 = nI 11 := hk0
  refine gM.of px12 (Nat.le_of_ble_eq_true rfl) ?_
  intro F hE
  refine g_aload_n dX12_isValue_0 rfl ?_
  refine g_getf fl12_24 hM.1 rfl dX12_isValue_1 ?_
  refine g_aload_n dX12_isValue_4 rfl ?_
  refine g_getf fl12_265 hM.1 rfl dX12_isValue_5 ?_
  rw [e5]
  refine g_ialdN (hM.2.1 1 (by decide)) (by show s0.1 < 401; omega) (by decide) dX12_isValue_8 ?_
  rw [hk1]
  refine g_istore_n dX12_isValue_9 (by decide) rfl ?_
  refine g_iload_n dX12_isValue_10 rfl ?_
  refine g_bipush (nI 45) dX12_isValue_11 (by decide) ?_
  refine g_icmp_neN 55 dX12_isValue_13 (by decide) (by omega) (by omega) (fun c_13 => ?_) (fun c_13 => ?_)
  · refine g_iload_n dX12_isValue_55 rfl ?_
    refine g_bipush (nI 40) dX12_isValue_56 (by decide) ?_
    refine g_icmp_neN 93 dX12_isValue_58 (by decide) (by omega) (by omega) (fun c_58 => ?_) (fun c_58 => ?_)
    · refine g_iload_n dX12_isValue_93 rfl ?_
      refine g_bipush (nI 17) dX12_isValue_94 (by decide) ?_
      refine g_icmp_eqN 105 dX12_isValue_96 (by decide) (by omega) (by omega) (fun c_96 => ?_) (fun c_96 => ?_)
      · exact absurd c_96 (by decide)
      · refine g_iload_n dX12_isValue_99 rfl ?_
        refine g_bipush (nI 18) dX12_isValue_100 (by decide) ?_
        refine g_icmp_neN 112 dX12_isValue_102 (by decide) (by omega) (by omega) (fun c_102 => ?_) (fun c_102 => ?_)
        · refine g_iload_n dX12_isValue_112 rfl ?_
          refine g_bipush (nI 10) dX12_isValue_113 (by decide) ?_
          refine g_icmp_eqN 124 dX12_isValue_115 (by decide) (by omega) (by omega) (fun c_115 => ?_) (fun c_115 => ?_)
          · exact absurd c_115 (by decide)
          · refine g_iload_n dX12_isValue_118 rfl ?_
            refine g_bipush (nI 11) dX12_isValue_119 (by decide) ?_
            refine g_icmp_neN 132 dX12_isValue_121 (by decide) (by omega) (by omega) (fun c_121 => ?_) (fun c_121 => ?_)
            · exact absurd c_121 (by decide)
            · refine g_aload_n dX12_isValue_124 rfl ?_
              refine g_aload_n dX12_isValue_125 rfl ?_
              refine g_iload_n dX12_isValue_126 rfl ?_
              refine g_iconst (nI 1) dX12_isValue_127 (by decide) ?_
              refine g_callV0 kX12_300 (m12_isAbout 16 true hq hT p1 hR0) hM.1 rfl rfl rfl (Nat.le_of_ble_eq_true rfl) (by decide) (by show 2 + 1 ≤ d + 2; omega) (Nat.zero_le _) (Nat.zero_le _) dX12_isValue_128 ?_
              rintro v1 h3 z1 ⟨rfl, rfl, hI3, hO3⟩
              have hF : pV (tkk n f) (tku n f) lo s0 = (if true = true then pSq (pTk (tkk n f) 17) (pAb (tkk n f) 16) else pAb (tkk n f) 16) (s0.1 + 1, s0.2) := by
                unfold pV; rw [if_neg (by omega), if_neg (by omega), if_pos (by omega), hk, pSq_t (pTk_y hk), if_pos rfl]
              rw [hF] at hE
              exact g_iret hE (nrB _) ⟨rfl, rfl, hI3, hO3⟩ dX12_isValue_131
        · exact absurd c_102 (by decide)
    · exact absurd c_58 (by decide)
  · exact absurd c_13 (by decide)
set_option maxRecDepth 100000 in
set_option maxHeartbeats 4000000 in
theorem m12_isValue_3 {X : gX} {m c pl q n d dp : Nat} {f : Nat → Int32} {R : rEn} {lo : Option (PF × PF)} (h2 : 2 ≤ d) (hq : m + 25 ≤ q) (hT : RcT n f R) (hL : RLv X m c pl q n f R d dp lo) (h : gH) (z : Nat) (s0 : PSt) (hs0 : PsOk n f s0) (hR0 : RcS X h m c pl q n f R s0 dp true) (hk : tkk n f s0.1 = 3) : gM X yX12_isValue cX12_isValue 3 (some .boolean) (d + 2, 0, 0) [.ref m, .ref q] h z (fun r h' z' => r = some (.int (b2i (pV (tkk n f) (tku n f) lo s0).1)) ∧ z' = z ∧ RcS X h' m c pl q n f R (pV (tkk n f) (tku n f) lo s0).2 dp (pV (tkk n f) (tku n f) lo s0).1 ∧ OffR h h' m q) gNoX := by
  have hLL := hL
  have hfin : ∀ (b : Bool) (h1 : gH) (s : PSt), RcS X h1 m c pl q n f R s dp b → OffR h h1 m q → (pV (tkk n f) (tku n f) lo s0) = (b, s) → some (Value.int (b2i b)) = some (.int (b2i (pV (tkk n f) (tku n f) lo s0).1)) ∧ z = z ∧ RcS X h1 m c pl q n f R (pV (tkk n f) (tku n f) lo s0).2 dp (pV (tkk n f) (tku n f) lo s0).1 ∧ OffR h h1 m q := by
    intro b h1 s hI hO hR
    rw [hR]
    exact ⟨rfl, rfl, hI, hO⟩
  obtain ⟨hl1, hl2, hl3⟩ := tkl_spec n f
  obtain ⟨hd8, hl0, hlo⟩ := hL
  have hs1 := hs0.1
  have hs2 := hs0.2.1
  have hR0' := hR0
  obtain ⟨I, A, J, B, hM, hQ, e1, e2, e3, e4, e5, e6⟩ := id hR0
  have hk0 := (hT s0.1 hs1).1
  rw [← e2 1 (by decide)] at hk0

  rw [hk] at hk0
  have p1 := hs0.step (Ps.tk hl2 (c := 3) (by decide)) (by decide) (by decide)
  rw [pTk_y hk] at p1
  have hlt := tk_lt (n := n) (f := f) (t := s0.1) (by omega) hs1
  have hk1 : A 1 s0.1 = nI 31 := hk0
  refine gM.of px12 (Nat.le_of_ble_eq_true rfl) ?_
  intro F hE
  refine g_aload_n dX12_isValue_0 rfl ?_
  refine g_getf fl12_24 hM.1 rfl dX12_isValue_1 ?_
  refine g_aload_n dX12_isValue_4 rfl ?_
  refine g_getf fl12_265 hM.1 rfl dX12_isValue_5 ?_
  rw [e5]
  refine g_ialdN (hM.2.1 1 (by decide)) (by show s0.1 < 401; omega) (by decide) dX12_isValue_8 ?_
  rw [hk1]
  refine g_istore_n dX12_isValue_9 (by decide) rfl ?_
  refine g_iload_n dX12_isValue_10 rfl ?_
  refine g_bipush (nI 45) dX12_isValue_11 (by decide) ?_
  refine g_icmp_neN 55 dX12_isValue_13 (by decide) (by omega) (by omega) (fun c_13 => ?_) (fun c_13 => ?_)
  · refine g_iload_n dX12_isValue_55 rfl ?_
    refine g_bipush (nI 40) dX12_isValue_56 (by decide) ?_
    refine g_icmp_neN 93 dX12_isValue_58 (by decide) (by omega) (by omega) (fun c_58 => ?_) (fun c_58 => ?_)
    · refine g_iload_n dX12_isValue_93 rfl ?_
      refine g_bipush (nI 17) dX12_isValue_94 (by decide) ?_
      refine g_icmp_eqN 105 dX12_isValue_96 (by decide) (by omega) (by omega) (fun c_96 => ?_) (fun c_96 => ?_)
      · exact absurd c_96 (by decide)
      · refine g_iload_n dX12_isValue_99 rfl ?_
        refine g_bipush (nI 18) dX12_isValue_100 (by decide) ?_
        refine g_icmp_neN 112 dX12_isValue_102 (by decide) (by omega) (by omega) (fun c_102 => ?_) (fun c_102 => ?_)
        · refine g_iload_n dX12_isValue_112 rfl ?_
          refine g_bipush (nI 10) dX12_isValue_113 (by decide) ?_
          refine g_icmp_eqN 124 dX12_isValue_115 (by decide) (by omega) (by omega) (fun c_115 => ?_) (fun c_115 => ?_)
          · exact absurd c_115 (by decide)
          · refine g_iload_n dX12_isValue_118 rfl ?_
            refine g_bipush (nI 11) dX12_isValue_119 (by decide) ?_
            refine g_icmp_neN 132 dX12_isValue_121 (by decide) (by omega) (by omega) (fun c_121 => ?_) (fun c_121 => ?_)
            · refine g_iload_n dX12_isValue_132 rfl ?_
              refine g_bipush (nI 31) dX12_isValue_133 (by decide) ?_
              refine g_icmp_neN 158 dX12_isValue_135 (by decide) (by omega) (by omega) (fun c_135 => ?_) (fun c_135 => ?_)
              · exact absurd c_135 (by decide)
              · refine g_aload_n dX12_isValue_138 rfl ?_
                refine g_aload_n dX12_isValue_139 rfl ?_
                refine g_bipush (nI 100) dX12_isValue_140 (by decide) ?_
                refine g_aload_n dX12_isValue_142 rfl ?_
                refine g_getf fl12_33 hM.1 rfl dX12_isValue_143 ?_
                refine g_aload_n dX12_isValue_146 rfl ?_
                refine g_getf fl12_265 hM.1 rfl dX12_isValue_147 ?_
                rw [e5]
                refine g_laldN (hM.2.2) (by show s0.1 < 401; omega) (by decide) dX12_isValue_150 ?_
                rw [(hT s0.1 hs1).2 hk]
                refine g_l2iN dX12_isValue_151 ?_
                refine g_callV0 kX12_280 (m12_put 3 (tku n f s0.1) hq (by omega) hR0) hM.1 rfl rfl rfl (Nat.le_of_ble_eq_true rfl) (by decide) (by show 0 + 1 ≤ d + 2; omega) (Nat.zero_le _) (Nat.zero_le _) dX12_isValue_152 ?_
                rintro v1 h5 z1 ⟨rfl, rfl, hI5, hO5⟩
                obtain ⟨I5, A5, J5, B5, hM5, hQ5, e15, e25, e35, e45, e55, e65⟩ := id hI5
                refine g_goto 181 dX12_isValue_155 (by decide) ?_
                refine g_aload_n dX12_isValue_181 rfl ?_
                refine g_dup dX12_isValue_182 rfl ?_
                refine g_getf fl12_265 hM5.1 rfl dX12_isValue_183 ?_
                rw [e55]
                refine g_iconst (nI 1) dX12_isValue_186 (by decide) ?_
                first | refine g_iaddN dX12_isValue_187 ?_ | refine g_iadd dX12_isValue_187 ?_
                refine md_put3 fl12_265 hM5 OffM.rf dX12_isValue_188 (fun h6 hM6 hO6 => ?_)
                have hI6 := RcS.t1 (s := (pPt 3 (tku n f s0.1) s0).2) hq hM6 hO6 hQ5 e15 e25 e35 e45 (e65 rfl)
                refine g_iconst (nI 1) dX12_isValue_191 (by decide) ?_
                exact g_iret hE rfl (hfin true _ _ hI6 (hO5.trans hO6.toR) (by unfold pV; rw [if_pos hk, pSq_t (pTk_y hk)]; rfl)) dX12_isValue_192
            · exact absurd c_121 (by decide)
        · exact absurd c_102 (by decide)
    · exact absurd c_58 (by decide)
  · exact absurd c_13 (by decide)
set_option maxRecDepth 100000 in
set_option maxHeartbeats 4000000 in
theorem m12_isValue_11 {X : gX} {m c pl q n d dp : Nat} {f : Nat → Int32} {R : rEn} {lo : Option (PF × PF)} (h2 : 2 ≤ d) (hq : m + 25 ≤ q) (hT : RcT n f R) (hL : RLv X m c pl q n f R d dp lo) (h : gH) (z : Nat) (s0 : PSt) (hs0 : PsOk n f s0) (hR0 : RcS X h m c pl q n f R s0 dp true) (hk : tkk n f s0.1 = 11) : gM X yX12_isValue cX12_isValue 3 (some .boolean) (d + 2, 0, 0) [.ref m, .ref q] h z (fun r h' z' => r = some (.int (b2i (pV (tkk n f) (tku n f) lo s0).1)) ∧ z' = z ∧ RcS X h' m c pl q n f R (pV (tkk n f) (tku n f) lo s0).2 dp (pV (tkk n f) (tku n f) lo s0).1 ∧ OffR h h' m q) gNoX := by
  have hLL := hL
  have hfin : ∀ (b : Bool) (h1 : gH) (s : PSt), RcS X h1 m c pl q n f R s dp b → OffR h h1 m q → (pV (tkk n f) (tku n f) lo s0) = (b, s) → some (Value.int (b2i b)) = some (.int (b2i (pV (tkk n f) (tku n f) lo s0).1)) ∧ z = z ∧ RcS X h1 m c pl q n f R (pV (tkk n f) (tku n f) lo s0).2 dp (pV (tkk n f) (tku n f) lo s0).1 ∧ OffR h h1 m q := by
    intro b h1 s hI hO hR
    rw [hR]
    exact ⟨rfl, rfl, hI, hO⟩
  obtain ⟨hl1, hl2, hl3⟩ := tkl_spec n f
  obtain ⟨hd8, hl0, hlo⟩ := hL
  have hs1 := hs0.1
  have hs2 := hs0.2.1
  have hR0' := hR0
  obtain ⟨I, A, J, B, hM, hQ, e1, e2, e3, e4, e5, e6⟩ := id hR0
  have hk0 := (hT s0.1 hs1).1
  rw [← e2 1 (by decide)] at hk0

  rw [hk] at hk0
  have p1 := hs0.step (Ps.tk hl2 (c := 11) (by decide)) (by decide) (by decide)
  rw [pTk_y hk] at p1
  have hlt := tk_lt (n := n) (f := f) (t := s0.1) (by omega) hs1
  have hk1 : A 1 s0.1 = nI 6 := hk0
  refine gM.of px12 (Nat.le_of_ble_eq_true rfl) ?_
  intro F hE
  refine g_aload_n dX12_isValue_0 rfl ?_
  refine g_getf fl12_24 hM.1 rfl dX12_isValue_1 ?_
  refine g_aload_n dX12_isValue_4 rfl ?_
  refine g_getf fl12_265 hM.1 rfl dX12_isValue_5 ?_
  rw [e5]
  refine g_ialdN (hM.2.1 1 (by decide)) (by show s0.1 < 401; omega) (by decide) dX12_isValue_8 ?_
  rw [hk1]
  refine g_istore_n dX12_isValue_9 (by decide) rfl ?_
  refine g_iload_n dX12_isValue_10 rfl ?_
  refine g_bipush (nI 45) dX12_isValue_11 (by decide) ?_
  refine g_icmp_neN 55 dX12_isValue_13 (by decide) (by omega) (by omega) (fun c_13 => ?_) (fun c_13 => ?_)
  · refine g_iload_n dX12_isValue_55 rfl ?_
    refine g_bipush (nI 40) dX12_isValue_56 (by decide) ?_
    refine g_icmp_neN 93 dX12_isValue_58 (by decide) (by omega) (by omega) (fun c_58 => ?_) (fun c_58 => ?_)
    · refine g_iload_n dX12_isValue_93 rfl ?_
      refine g_bipush (nI 17) dX12_isValue_94 (by decide) ?_
      refine g_icmp_eqN 105 dX12_isValue_96 (by decide) (by omega) (by omega) (fun c_96 => ?_) (fun c_96 => ?_)
      · exact absurd c_96 (by decide)
      · refine g_iload_n dX12_isValue_99 rfl ?_
        refine g_bipush (nI 18) dX12_isValue_100 (by decide) ?_
        refine g_icmp_neN 112 dX12_isValue_102 (by decide) (by omega) (by omega) (fun c_102 => ?_) (fun c_102 => ?_)
        · refine g_iload_n dX12_isValue_112 rfl ?_
          refine g_bipush (nI 10) dX12_isValue_113 (by decide) ?_
          refine g_icmp_eqN 124 dX12_isValue_115 (by decide) (by omega) (by omega) (fun c_115 => ?_) (fun c_115 => ?_)
          · exact absurd c_115 (by decide)
          · refine g_iload_n dX12_isValue_118 rfl ?_
            refine g_bipush (nI 11) dX12_isValue_119 (by decide) ?_
            refine g_icmp_neN 132 dX12_isValue_121 (by decide) (by omega) (by omega) (fun c_121 => ?_) (fun c_121 => ?_)
            · refine g_iload_n dX12_isValue_132 rfl ?_
              refine g_bipush (nI 31) dX12_isValue_133 (by decide) ?_
              refine g_icmp_neN 158 dX12_isValue_135 (by decide) (by omega) (by omega) (fun c_135 => ?_) (fun c_135 => ?_)
              · refine g_iload_n dX12_isValue_158 rfl ?_
                refine g_bipush (nI 6) dX12_isValue_159 (by decide) ?_
                refine g_bipush (nI 9) dX12_isValue_161 (by decide) ?_
                refine g_callS0 kX12_64 (m12_isIn (nI 6) (nI 6) (nI 9)) rfl rfl (Nat.le_of_ble_eq_true rfl) (by decide) (by show 1 + 1 ≤ d + 2; omega) (Nat.zero_le _) (Nat.zero_le _) dX12_isValue_163 ?_
                rintro v1 h2 z1 ⟨rfl, rfl, rfl⟩
                refine g_if_eqB 179 dX12_isValue_166 (by decide) (fun c_166 => ?_) (fun c_166 => ?_)
                · exact absurd c_166 (by decide)
                · refine g_aload_n dX12_isValue_169 rfl ?_
                  refine g_aload_n dX12_isValue_170 rfl ?_
                  refine g_iload_n dX12_isValue_171 rfl ?_
                  refine g_iconst (nI 0) dX12_isValue_172 (by decide) ?_
                  refine g_callV0 kX12_280 (m12_put 11 0 hq (by omega) hR0) hM.1 rfl rfl rfl (Nat.le_of_ble_eq_true rfl) (by decide) (by show 0 + 1 ≤ d + 2; omega) (Nat.zero_le _) (Nat.zero_le _) dX12_isValue_173 ?_
                  rintro v1 h5 z1 ⟨rfl, rfl, hI5, hO5⟩
                  obtain ⟨I5, A5, J5, B5, hM5, hQ5, e15, e25, e35, e45, e55, e65⟩ := id hI5
                  refine g_goto 181 dX12_isValue_176 (by decide) ?_
                  refine g_aload_n dX12_isValue_181 rfl ?_
                  refine g_dup dX12_isValue_182 rfl ?_
                  refine g_getf fl12_265 hM5.1 rfl dX12_isValue_183 ?_
                  rw [e55]
                  refine g_iconst (nI 1) dX12_isValue_186 (by decide) ?_
                  first | refine g_iaddN dX12_isValue_187 ?_ | refine g_iadd dX12_isValue_187 ?_
                  refine md_put3 fl12_265 hM5 OffM.rf dX12_isValue_188 (fun h6 hM6 hO6 => ?_)
                  have hI6 := RcS.t1 (s := (pPt 11 0 s0).2) hq hM6 hO6 hQ5 e15 e25 e35 e45 (e65 rfl)
                  refine g_iconst (nI 1) dX12_isValue_191 (by decide) ?_
                  exact g_iret hE rfl (hfin true _ _ hI6 (hO5.trans hO6.toR) (by unfold pV; rw [if_neg (by omega), if_pos (by omega), hk, pSq_t (pTk_y hk)]; rfl)) dX12_isValue_192
              · exact absurd c_135 (by decide)
            · exact absurd c_121 (by decide)
        · exact absurd c_102 (by decide)
    · exact absurd c_58 (by decide)
  · exact absurd c_13 (by decide)
set_option maxRecDepth 100000 in
set_option maxHeartbeats 4000000 in
theorem m12_isValue_12 {X : gX} {m c pl q n d dp : Nat} {f : Nat → Int32} {R : rEn} {lo : Option (PF × PF)} (h2 : 2 ≤ d) (hq : m + 25 ≤ q) (hT : RcT n f R) (hL : RLv X m c pl q n f R d dp lo) (h : gH) (z : Nat) (s0 : PSt) (hs0 : PsOk n f s0) (hR0 : RcS X h m c pl q n f R s0 dp true) (hk : tkk n f s0.1 = 12) : gM X yX12_isValue cX12_isValue 3 (some .boolean) (d + 2, 0, 0) [.ref m, .ref q] h z (fun r h' z' => r = some (.int (b2i (pV (tkk n f) (tku n f) lo s0).1)) ∧ z' = z ∧ RcS X h' m c pl q n f R (pV (tkk n f) (tku n f) lo s0).2 dp (pV (tkk n f) (tku n f) lo s0).1 ∧ OffR h h' m q) gNoX := by
  have hLL := hL
  have hfin : ∀ (b : Bool) (h1 : gH) (s : PSt), RcS X h1 m c pl q n f R s dp b → OffR h h1 m q → (pV (tkk n f) (tku n f) lo s0) = (b, s) → some (Value.int (b2i b)) = some (.int (b2i (pV (tkk n f) (tku n f) lo s0).1)) ∧ z = z ∧ RcS X h1 m c pl q n f R (pV (tkk n f) (tku n f) lo s0).2 dp (pV (tkk n f) (tku n f) lo s0).1 ∧ OffR h h1 m q := by
    intro b h1 s hI hO hR
    rw [hR]
    exact ⟨rfl, rfl, hI, hO⟩
  obtain ⟨hl1, hl2, hl3⟩ := tkl_spec n f
  obtain ⟨hd8, hl0, hlo⟩ := hL
  have hs1 := hs0.1
  have hs2 := hs0.2.1
  have hR0' := hR0
  obtain ⟨I, A, J, B, hM, hQ, e1, e2, e3, e4, e5, e6⟩ := id hR0
  have hk0 := (hT s0.1 hs1).1
  rw [← e2 1 (by decide)] at hk0

  rw [hk] at hk0
  have p1 := hs0.step (Ps.tk hl2 (c := 12) (by decide)) (by decide) (by decide)
  rw [pTk_y hk] at p1
  have hlt := tk_lt (n := n) (f := f) (t := s0.1) (by omega) hs1
  have hk1 : A 1 s0.1 = nI 7 := hk0
  refine gM.of px12 (Nat.le_of_ble_eq_true rfl) ?_
  intro F hE
  refine g_aload_n dX12_isValue_0 rfl ?_
  refine g_getf fl12_24 hM.1 rfl dX12_isValue_1 ?_
  refine g_aload_n dX12_isValue_4 rfl ?_
  refine g_getf fl12_265 hM.1 rfl dX12_isValue_5 ?_
  rw [e5]
  refine g_ialdN (hM.2.1 1 (by decide)) (by show s0.1 < 401; omega) (by decide) dX12_isValue_8 ?_
  rw [hk1]
  refine g_istore_n dX12_isValue_9 (by decide) rfl ?_
  refine g_iload_n dX12_isValue_10 rfl ?_
  refine g_bipush (nI 45) dX12_isValue_11 (by decide) ?_
  refine g_icmp_neN 55 dX12_isValue_13 (by decide) (by omega) (by omega) (fun c_13 => ?_) (fun c_13 => ?_)
  · refine g_iload_n dX12_isValue_55 rfl ?_
    refine g_bipush (nI 40) dX12_isValue_56 (by decide) ?_
    refine g_icmp_neN 93 dX12_isValue_58 (by decide) (by omega) (by omega) (fun c_58 => ?_) (fun c_58 => ?_)
    · refine g_iload_n dX12_isValue_93 rfl ?_
      refine g_bipush (nI 17) dX12_isValue_94 (by decide) ?_
      refine g_icmp_eqN 105 dX12_isValue_96 (by decide) (by omega) (by omega) (fun c_96 => ?_) (fun c_96 => ?_)
      · exact absurd c_96 (by decide)
      · refine g_iload_n dX12_isValue_99 rfl ?_
        refine g_bipush (nI 18) dX12_isValue_100 (by decide) ?_
        refine g_icmp_neN 112 dX12_isValue_102 (by decide) (by omega) (by omega) (fun c_102 => ?_) (fun c_102 => ?_)
        · refine g_iload_n dX12_isValue_112 rfl ?_
          refine g_bipush (nI 10) dX12_isValue_113 (by decide) ?_
          refine g_icmp_eqN 124 dX12_isValue_115 (by decide) (by omega) (by omega) (fun c_115 => ?_) (fun c_115 => ?_)
          · exact absurd c_115 (by decide)
          · refine g_iload_n dX12_isValue_118 rfl ?_
            refine g_bipush (nI 11) dX12_isValue_119 (by decide) ?_
            refine g_icmp_neN 132 dX12_isValue_121 (by decide) (by omega) (by omega) (fun c_121 => ?_) (fun c_121 => ?_)
            · refine g_iload_n dX12_isValue_132 rfl ?_
              refine g_bipush (nI 31) dX12_isValue_133 (by decide) ?_
              refine g_icmp_neN 158 dX12_isValue_135 (by decide) (by omega) (by omega) (fun c_135 => ?_) (fun c_135 => ?_)
              · refine g_iload_n dX12_isValue_158 rfl ?_
                refine g_bipush (nI 6) dX12_isValue_159 (by decide) ?_
                refine g_bipush (nI 9) dX12_isValue_161 (by decide) ?_
                refine g_callS0 kX12_64 (m12_isIn (nI 7) (nI 6) (nI 9)) rfl rfl (Nat.le_of_ble_eq_true rfl) (by decide) (by show 1 + 1 ≤ d + 2; omega) (Nat.zero_le _) (Nat.zero_le _) dX12_isValue_163 ?_
                rintro v1 h2 z1 ⟨rfl, rfl, rfl⟩
                refine g_if_eqB 179 dX12_isValue_166 (by decide) (fun c_166 => ?_) (fun c_166 => ?_)
                · exact absurd c_166 (by decide)
                · refine g_aload_n dX12_isValue_169 rfl ?_
                  refine g_aload_n dX12_isValue_170 rfl ?_
                  refine g_iload_n dX12_isValue_171 rfl ?_
                  refine g_iconst (nI 0) dX12_isValue_172 (by decide) ?_
                  refine g_callV0 kX12_280 (m12_put 12 0 hq (by omega) hR0) hM.1 rfl rfl rfl (Nat.le_of_ble_eq_true rfl) (by decide) (by show 0 + 1 ≤ d + 2; omega) (Nat.zero_le _) (Nat.zero_le _) dX12_isValue_173 ?_
                  rintro v1 h5 z1 ⟨rfl, rfl, hI5, hO5⟩
                  obtain ⟨I5, A5, J5, B5, hM5, hQ5, e15, e25, e35, e45, e55, e65⟩ := id hI5
                  refine g_goto 181 dX12_isValue_176 (by decide) ?_
                  refine g_aload_n dX12_isValue_181 rfl ?_
                  refine g_dup dX12_isValue_182 rfl ?_
                  refine g_getf fl12_265 hM5.1 rfl dX12_isValue_183 ?_
                  rw [e55]
                  refine g_iconst (nI 1) dX12_isValue_186 (by decide) ?_
                  first | refine g_iaddN dX12_isValue_187 ?_ | refine g_iadd dX12_isValue_187 ?_
                  refine md_put3 fl12_265 hM5 OffM.rf dX12_isValue_188 (fun h6 hM6 hO6 => ?_)
                  have hI6 := RcS.t1 (s := (pPt 12 0 s0).2) hq hM6 hO6 hQ5 e15 e25 e35 e45 (e65 rfl)
                  refine g_iconst (nI 1) dX12_isValue_191 (by decide) ?_
                  exact g_iret hE rfl (hfin true _ _ hI6 (hO5.trans hO6.toR) (by unfold pV; rw [if_neg (by omega), if_pos (by omega), hk, pSq_t (pTk_y hk)]; rfl)) dX12_isValue_192
              · exact absurd c_135 (by decide)
            · exact absurd c_121 (by decide)
        · exact absurd c_102 (by decide)
    · exact absurd c_58 (by decide)
  · exact absurd c_13 (by decide)
set_option maxRecDepth 100000 in
set_option maxHeartbeats 4000000 in
theorem m12_isValue_13 {X : gX} {m c pl q n d dp : Nat} {f : Nat → Int32} {R : rEn} {lo : Option (PF × PF)} (h2 : 2 ≤ d) (hq : m + 25 ≤ q) (hT : RcT n f R) (hL : RLv X m c pl q n f R d dp lo) (h : gH) (z : Nat) (s0 : PSt) (hs0 : PsOk n f s0) (hR0 : RcS X h m c pl q n f R s0 dp true) (hk : tkk n f s0.1 = 13) : gM X yX12_isValue cX12_isValue 3 (some .boolean) (d + 2, 0, 0) [.ref m, .ref q] h z (fun r h' z' => r = some (.int (b2i (pV (tkk n f) (tku n f) lo s0).1)) ∧ z' = z ∧ RcS X h' m c pl q n f R (pV (tkk n f) (tku n f) lo s0).2 dp (pV (tkk n f) (tku n f) lo s0).1 ∧ OffR h h' m q) gNoX := by
  have hLL := hL
  have hfin : ∀ (b : Bool) (h1 : gH) (s : PSt), RcS X h1 m c pl q n f R s dp b → OffR h h1 m q → (pV (tkk n f) (tku n f) lo s0) = (b, s) → some (Value.int (b2i b)) = some (.int (b2i (pV (tkk n f) (tku n f) lo s0).1)) ∧ z = z ∧ RcS X h1 m c pl q n f R (pV (tkk n f) (tku n f) lo s0).2 dp (pV (tkk n f) (tku n f) lo s0).1 ∧ OffR h h1 m q := by
    intro b h1 s hI hO hR
    rw [hR]
    exact ⟨rfl, rfl, hI, hO⟩
  obtain ⟨hl1, hl2, hl3⟩ := tkl_spec n f
  obtain ⟨hd8, hl0, hlo⟩ := hL
  have hs1 := hs0.1
  have hs2 := hs0.2.1
  have hR0' := hR0
  obtain ⟨I, A, J, B, hM, hQ, e1, e2, e3, e4, e5, e6⟩ := id hR0
  have hk0 := (hT s0.1 hs1).1
  rw [← e2 1 (by decide)] at hk0

  rw [hk] at hk0
  have p1 := hs0.step (Ps.tk hl2 (c := 13) (by decide)) (by decide) (by decide)
  rw [pTk_y hk] at p1
  have hlt := tk_lt (n := n) (f := f) (t := s0.1) (by omega) hs1
  have hk1 : A 1 s0.1 = nI 8 := hk0
  refine gM.of px12 (Nat.le_of_ble_eq_true rfl) ?_
  intro F hE
  refine g_aload_n dX12_isValue_0 rfl ?_
  refine g_getf fl12_24 hM.1 rfl dX12_isValue_1 ?_
  refine g_aload_n dX12_isValue_4 rfl ?_
  refine g_getf fl12_265 hM.1 rfl dX12_isValue_5 ?_
  rw [e5]
  refine g_ialdN (hM.2.1 1 (by decide)) (by show s0.1 < 401; omega) (by decide) dX12_isValue_8 ?_
  rw [hk1]
  refine g_istore_n dX12_isValue_9 (by decide) rfl ?_
  refine g_iload_n dX12_isValue_10 rfl ?_
  refine g_bipush (nI 45) dX12_isValue_11 (by decide) ?_
  refine g_icmp_neN 55 dX12_isValue_13 (by decide) (by omega) (by omega) (fun c_13 => ?_) (fun c_13 => ?_)
  · refine g_iload_n dX12_isValue_55 rfl ?_
    refine g_bipush (nI 40) dX12_isValue_56 (by decide) ?_
    refine g_icmp_neN 93 dX12_isValue_58 (by decide) (by omega) (by omega) (fun c_58 => ?_) (fun c_58 => ?_)
    · refine g_iload_n dX12_isValue_93 rfl ?_
      refine g_bipush (nI 17) dX12_isValue_94 (by decide) ?_
      refine g_icmp_eqN 105 dX12_isValue_96 (by decide) (by omega) (by omega) (fun c_96 => ?_) (fun c_96 => ?_)
      · exact absurd c_96 (by decide)
      · refine g_iload_n dX12_isValue_99 rfl ?_
        refine g_bipush (nI 18) dX12_isValue_100 (by decide) ?_
        refine g_icmp_neN 112 dX12_isValue_102 (by decide) (by omega) (by omega) (fun c_102 => ?_) (fun c_102 => ?_)
        · refine g_iload_n dX12_isValue_112 rfl ?_
          refine g_bipush (nI 10) dX12_isValue_113 (by decide) ?_
          refine g_icmp_eqN 124 dX12_isValue_115 (by decide) (by omega) (by omega) (fun c_115 => ?_) (fun c_115 => ?_)
          · exact absurd c_115 (by decide)
          · refine g_iload_n dX12_isValue_118 rfl ?_
            refine g_bipush (nI 11) dX12_isValue_119 (by decide) ?_
            refine g_icmp_neN 132 dX12_isValue_121 (by decide) (by omega) (by omega) (fun c_121 => ?_) (fun c_121 => ?_)
            · refine g_iload_n dX12_isValue_132 rfl ?_
              refine g_bipush (nI 31) dX12_isValue_133 (by decide) ?_
              refine g_icmp_neN 158 dX12_isValue_135 (by decide) (by omega) (by omega) (fun c_135 => ?_) (fun c_135 => ?_)
              · refine g_iload_n dX12_isValue_158 rfl ?_
                refine g_bipush (nI 6) dX12_isValue_159 (by decide) ?_
                refine g_bipush (nI 9) dX12_isValue_161 (by decide) ?_
                refine g_callS0 kX12_64 (m12_isIn (nI 8) (nI 6) (nI 9)) rfl rfl (Nat.le_of_ble_eq_true rfl) (by decide) (by show 1 + 1 ≤ d + 2; omega) (Nat.zero_le _) (Nat.zero_le _) dX12_isValue_163 ?_
                rintro v1 h2 z1 ⟨rfl, rfl, rfl⟩
                refine g_if_eqB 179 dX12_isValue_166 (by decide) (fun c_166 => ?_) (fun c_166 => ?_)
                · exact absurd c_166 (by decide)
                · refine g_aload_n dX12_isValue_169 rfl ?_
                  refine g_aload_n dX12_isValue_170 rfl ?_
                  refine g_iload_n dX12_isValue_171 rfl ?_
                  refine g_iconst (nI 0) dX12_isValue_172 (by decide) ?_
                  refine g_callV0 kX12_280 (m12_put 13 0 hq (by omega) hR0) hM.1 rfl rfl rfl (Nat.le_of_ble_eq_true rfl) (by decide) (by show 0 + 1 ≤ d + 2; omega) (Nat.zero_le _) (Nat.zero_le _) dX12_isValue_173 ?_
                  rintro v1 h5 z1 ⟨rfl, rfl, hI5, hO5⟩
                  obtain ⟨I5, A5, J5, B5, hM5, hQ5, e15, e25, e35, e45, e55, e65⟩ := id hI5
                  refine g_goto 181 dX12_isValue_176 (by decide) ?_
                  refine g_aload_n dX12_isValue_181 rfl ?_
                  refine g_dup dX12_isValue_182 rfl ?_
                  refine g_getf fl12_265 hM5.1 rfl dX12_isValue_183 ?_
                  rw [e55]
                  refine g_iconst (nI 1) dX12_isValue_186 (by decide) ?_
                  first | refine g_iaddN dX12_isValue_187 ?_ | refine g_iadd dX12_isValue_187 ?_
                  refine md_put3 fl12_265 hM5 OffM.rf dX12_isValue_188 (fun h6 hM6 hO6 => ?_)
                  have hI6 := RcS.t1 (s := (pPt 13 0 s0).2) hq hM6 hO6 hQ5 e15 e25 e35 e45 (e65 rfl)
                  refine g_iconst (nI 1) dX12_isValue_191 (by decide) ?_
                  exact g_iret hE rfl (hfin true _ _ hI6 (hO5.trans hO6.toR) (by unfold pV; rw [if_neg (by omega), if_pos (by omega), hk, pSq_t (pTk_y hk)]; rfl)) dX12_isValue_192
              · exact absurd c_135 (by decide)
            · exact absurd c_121 (by decide)
        · exact absurd c_102 (by decide)
    · exact absurd c_58 (by decide)
  · exact absurd c_13 (by decide)
set_option maxRecDepth 100000 in
set_option maxHeartbeats 4000000 in
theorem m12_isValue_14 {X : gX} {m c pl q n d dp : Nat} {f : Nat → Int32} {R : rEn} {lo : Option (PF × PF)} (h2 : 2 ≤ d) (hq : m + 25 ≤ q) (hT : RcT n f R) (hL : RLv X m c pl q n f R d dp lo) (h : gH) (z : Nat) (s0 : PSt) (hs0 : PsOk n f s0) (hR0 : RcS X h m c pl q n f R s0 dp true) (hk : tkk n f s0.1 = 14) : gM X yX12_isValue cX12_isValue 3 (some .boolean) (d + 2, 0, 0) [.ref m, .ref q] h z (fun r h' z' => r = some (.int (b2i (pV (tkk n f) (tku n f) lo s0).1)) ∧ z' = z ∧ RcS X h' m c pl q n f R (pV (tkk n f) (tku n f) lo s0).2 dp (pV (tkk n f) (tku n f) lo s0).1 ∧ OffR h h' m q) gNoX := by
  have hLL := hL
  have hfin : ∀ (b : Bool) (h1 : gH) (s : PSt), RcS X h1 m c pl q n f R s dp b → OffR h h1 m q → (pV (tkk n f) (tku n f) lo s0) = (b, s) → some (Value.int (b2i b)) = some (.int (b2i (pV (tkk n f) (tku n f) lo s0).1)) ∧ z = z ∧ RcS X h1 m c pl q n f R (pV (tkk n f) (tku n f) lo s0).2 dp (pV (tkk n f) (tku n f) lo s0).1 ∧ OffR h h1 m q := by
    intro b h1 s hI hO hR
    rw [hR]
    exact ⟨rfl, rfl, hI, hO⟩
  obtain ⟨hl1, hl2, hl3⟩ := tkl_spec n f
  obtain ⟨hd8, hl0, hlo⟩ := hL
  have hs1 := hs0.1
  have hs2 := hs0.2.1
  have hR0' := hR0
  obtain ⟨I, A, J, B, hM, hQ, e1, e2, e3, e4, e5, e6⟩ := id hR0
  have hk0 := (hT s0.1 hs1).1
  rw [← e2 1 (by decide)] at hk0

  rw [hk] at hk0
  have p1 := hs0.step (Ps.tk hl2 (c := 14) (by decide)) (by decide) (by decide)
  rw [pTk_y hk] at p1
  have hlt := tk_lt (n := n) (f := f) (t := s0.1) (by omega) hs1
  have hk1 : A 1 s0.1 = nI 9 := hk0
  refine gM.of px12 (Nat.le_of_ble_eq_true rfl) ?_
  intro F hE
  refine g_aload_n dX12_isValue_0 rfl ?_
  refine g_getf fl12_24 hM.1 rfl dX12_isValue_1 ?_
  refine g_aload_n dX12_isValue_4 rfl ?_
  refine g_getf fl12_265 hM.1 rfl dX12_isValue_5 ?_
  rw [e5]
  refine g_ialdN (hM.2.1 1 (by decide)) (by show s0.1 < 401; omega) (by decide) dX12_isValue_8 ?_
  rw [hk1]
  refine g_istore_n dX12_isValue_9 (by decide) rfl ?_
  refine g_iload_n dX12_isValue_10 rfl ?_
  refine g_bipush (nI 45) dX12_isValue_11 (by decide) ?_
  refine g_icmp_neN 55 dX12_isValue_13 (by decide) (by omega) (by omega) (fun c_13 => ?_) (fun c_13 => ?_)
  · refine g_iload_n dX12_isValue_55 rfl ?_
    refine g_bipush (nI 40) dX12_isValue_56 (by decide) ?_
    refine g_icmp_neN 93 dX12_isValue_58 (by decide) (by omega) (by omega) (fun c_58 => ?_) (fun c_58 => ?_)
    · refine g_iload_n dX12_isValue_93 rfl ?_
      refine g_bipush (nI 17) dX12_isValue_94 (by decide) ?_
      refine g_icmp_eqN 105 dX12_isValue_96 (by decide) (by omega) (by omega) (fun c_96 => ?_) (fun c_96 => ?_)
      · exact absurd c_96 (by decide)
      · refine g_iload_n dX12_isValue_99 rfl ?_
        refine g_bipush (nI 18) dX12_isValue_100 (by decide) ?_
        refine g_icmp_neN 112 dX12_isValue_102 (by decide) (by omega) (by omega) (fun c_102 => ?_) (fun c_102 => ?_)
        · refine g_iload_n dX12_isValue_112 rfl ?_
          refine g_bipush (nI 10) dX12_isValue_113 (by decide) ?_
          refine g_icmp_eqN 124 dX12_isValue_115 (by decide) (by omega) (by omega) (fun c_115 => ?_) (fun c_115 => ?_)
          · exact absurd c_115 (by decide)
          · refine g_iload_n dX12_isValue_118 rfl ?_
            refine g_bipush (nI 11) dX12_isValue_119 (by decide) ?_
            refine g_icmp_neN 132 dX12_isValue_121 (by decide) (by omega) (by omega) (fun c_121 => ?_) (fun c_121 => ?_)
            · refine g_iload_n dX12_isValue_132 rfl ?_
              refine g_bipush (nI 31) dX12_isValue_133 (by decide) ?_
              refine g_icmp_neN 158 dX12_isValue_135 (by decide) (by omega) (by omega) (fun c_135 => ?_) (fun c_135 => ?_)
              · refine g_iload_n dX12_isValue_158 rfl ?_
                refine g_bipush (nI 6) dX12_isValue_159 (by decide) ?_
                refine g_bipush (nI 9) dX12_isValue_161 (by decide) ?_
                refine g_callS0 kX12_64 (m12_isIn (nI 9) (nI 6) (nI 9)) rfl rfl (Nat.le_of_ble_eq_true rfl) (by decide) (by show 1 + 1 ≤ d + 2; omega) (Nat.zero_le _) (Nat.zero_le _) dX12_isValue_163 ?_
                rintro v1 h2 z1 ⟨rfl, rfl, rfl⟩
                refine g_if_eqB 179 dX12_isValue_166 (by decide) (fun c_166 => ?_) (fun c_166 => ?_)
                · exact absurd c_166 (by decide)
                · refine g_aload_n dX12_isValue_169 rfl ?_
                  refine g_aload_n dX12_isValue_170 rfl ?_
                  refine g_iload_n dX12_isValue_171 rfl ?_
                  refine g_iconst (nI 0) dX12_isValue_172 (by decide) ?_
                  refine g_callV0 kX12_280 (m12_put 14 0 hq (by omega) hR0) hM.1 rfl rfl rfl (Nat.le_of_ble_eq_true rfl) (by decide) (by show 0 + 1 ≤ d + 2; omega) (Nat.zero_le _) (Nat.zero_le _) dX12_isValue_173 ?_
                  rintro v1 h5 z1 ⟨rfl, rfl, hI5, hO5⟩
                  obtain ⟨I5, A5, J5, B5, hM5, hQ5, e15, e25, e35, e45, e55, e65⟩ := id hI5
                  refine g_goto 181 dX12_isValue_176 (by decide) ?_
                  refine g_aload_n dX12_isValue_181 rfl ?_
                  refine g_dup dX12_isValue_182 rfl ?_
                  refine g_getf fl12_265 hM5.1 rfl dX12_isValue_183 ?_
                  rw [e55]
                  refine g_iconst (nI 1) dX12_isValue_186 (by decide) ?_
                  first | refine g_iaddN dX12_isValue_187 ?_ | refine g_iadd dX12_isValue_187 ?_
                  refine md_put3 fl12_265 hM5 OffM.rf dX12_isValue_188 (fun h6 hM6 hO6 => ?_)
                  have hI6 := RcS.t1 (s := (pPt 14 0 s0).2) hq hM6 hO6 hQ5 e15 e25 e35 e45 (e65 rfl)
                  refine g_iconst (nI 1) dX12_isValue_191 (by decide) ?_
                  exact g_iret hE rfl (hfin true _ _ hI6 (hO5.trans hO6.toR) (by unfold pV; rw [if_neg (by omega), if_pos (by omega), hk, pSq_t (pTk_y hk)]; rfl)) dX12_isValue_192
              · exact absurd c_135 (by decide)
            · exact absurd c_121 (by decide)
        · exact absurd c_102 (by decide)
    · exact absurd c_58 (by decide)
  · exact absurd c_13 (by decide)
set_option maxRecDepth 100000 in
set_option maxHeartbeats 4000000 in
theorem m12_isValue_el {X : gX} {m c pl q n d dp : Nat} {f : Nat → Int32} {R : rEn} {lo : Option (PF × PF)} (h2 : 2 ≤ d) (hq : m + 25 ≤ q) (hT : RcT n f R) (hL : RLv X m c pl q n f R d dp lo) (h : gH) (z : Nat) (s0 : PSt) (hs0 : PsOk n f s0) (hR0 : RcS X h m c pl q n f R s0 dp true) (hk : tkk n f s0.1 ≠ 3 ∧ ¬ (11 ≤ tkk n f s0.1 ∧ tkk n f s0.1 ≤ 16) ∧ tkk n f s0.1 ≠ 31 ∧ tkk n f s0.1 ≠ 24 ∧ tkk n f s0.1 ≠ 22 ∧ tkk n f s0.1 ≠ 23) : gM X yX12_isValue cX12_isValue 3 (some .boolean) (d + 2, 0, 0) [.ref m, .ref q] h z (fun r h' z' => r = some (.int (b2i (pV (tkk n f) (tku n f) lo s0).1)) ∧ z' = z ∧ RcS X h' m c pl q n f R (pV (tkk n f) (tku n f) lo s0).2 dp (pV (tkk n f) (tku n f) lo s0).1 ∧ OffR h h' m q) gNoX := by
  have hLL := hL
  have hfin : ∀ (b : Bool) (h1 : gH) (s : PSt), RcS X h1 m c pl q n f R s dp b → OffR h h1 m q → (pV (tkk n f) (tku n f) lo s0) = (b, s) → some (Value.int (b2i b)) = some (.int (b2i (pV (tkk n f) (tku n f) lo s0).1)) ∧ z = z ∧ RcS X h1 m c pl q n f R (pV (tkk n f) (tku n f) lo s0).2 dp (pV (tkk n f) (tku n f) lo s0).1 ∧ OffR h h1 m q := by
    intro b h1 s hI hO hR
    rw [hR]
    exact ⟨rfl, rfl, hI, hO⟩
  obtain ⟨hl1, hl2, hl3⟩ := tkl_spec n f
  obtain ⟨hd8, hl0, hlo⟩ := hL
  have hs1 := hs0.1
  have hs2 := hs0.2.1
  have hR0' := hR0
  obtain ⟨I, A, J, B, hM, hQ, e1, e2, e3, e4, e5, e6⟩ := id hR0
  have hk0 := (hT s0.1 hs1).1
  rw [← e2 1 (by decide)] at hk0

  refine gM.of px12 (Nat.le_of_ble_eq_true rfl) ?_
  intro F hE
  have hk39 := tkk_lt n f s0.1
  have hkb := kd_lt _ hk39
  have hk1 := hk0
  have kn : ∀ t, t < 39 → tkk n f s0.1 ≠ t → kd (tkk n f s0.1) ≠ kd t := fun t ht q q2 => q (kd_inj _ hk39 t ht q2)
  have n31 : kd (tkk n f s0.1) ≠ 45 := kn 31 (by decide) (by omega)
  have n24 : kd (tkk n f s0.1) ≠ 40 := kn 24 (by decide) (by omega)
  have n22 : kd (tkk n f s0.1) ≠ 17 := kn 22 (by decide) (by omega)
  have n23 : kd (tkk n f s0.1) ≠ 18 := kn 23 (by decide) (by omega)
  have n15 : kd (tkk n f s0.1) ≠ 10 := kn 15 (by decide) (by omega)
  have n16 : kd (tkk n f s0.1) ≠ 11 := kn 16 (by decide) (by omega)
  have n3 : kd (tkk n f s0.1) ≠ 31 := kn 3 (by decide) (by omega)
  have n11 : kd (tkk n f s0.1) ≠ 6 := kn 11 (by decide) (by omega)
  have n12 : kd (tkk n f s0.1) ≠ 7 := kn 12 (by decide) (by omega)
  have n13 : kd (tkk n f s0.1) ≠ 8 := kn 13 (by decide) (by omega)
  have n14 : kd (tkk n f s0.1) ≠ 9 := kn 14 (by decide) (by omega)
  have nin : decide (nI 6 ≤ nI (kd (tkk n f s0.1)) ∧ nI (kd (tkk n f s0.1)) ≤ nI 9) = false := decide_eq_false (fun q => by
    have h6 := (nI_leI (by omega) (by omega)).mp q.1
    have h9 := (nI_leI (by omega) (by omega)).mp q.2
    omega)
  refine g_aload_n dX12_isValue_0 rfl ?_
  refine g_getf fl12_24 hM.1 rfl dX12_isValue_1 ?_
  refine g_aload_n dX12_isValue_4 rfl ?_
  refine g_getf fl12_265 hM.1 rfl dX12_isValue_5 ?_
  rw [e5]
  refine g_ialdN (hM.2.1 1 (by decide)) (by show s0.1 < 401; omega) (by decide) dX12_isValue_8 ?_
  rw [hk1]
  refine g_istore_n dX12_isValue_9 (by decide) rfl ?_
  refine g_iload_n dX12_isValue_10 rfl ?_
  refine g_bipush (nI 45) dX12_isValue_11 (by decide) ?_
  refine g_icmp_neN 55 dX12_isValue_13 (by decide) (by omega) (by omega) (fun c_13 => ?_) (fun c_13 => ?_)
  · refine g_iload_n dX12_isValue_55 rfl ?_
    refine g_bipush (nI 40) dX12_isValue_56 (by decide) ?_
    refine g_icmp_neN 93 dX12_isValue_58 (by decide) (by omega) (by omega) (fun c_58 => ?_) (fun c_58 => ?_)
    · refine g_iload_n dX12_isValue_93 rfl ?_
      refine g_bipush (nI 17) dX12_isValue_94 (by decide) ?_
      refine g_icmp_eqN 105 dX12_isValue_96 (by decide) (by omega) (by omega) (fun c_96 => ?_) (fun c_96 => ?_)
      · exact absurd c_96 n22
      · refine g_iload_n dX12_isValue_99 rfl ?_
        refine g_bipush (nI 18) dX12_isValue_100 (by decide) ?_
        refine g_icmp_neN 112 dX12_isValue_102 (by decide) (by omega) (by omega) (fun c_102 => ?_) (fun c_102 => ?_)
        · refine g_iload_n dX12_isValue_112 rfl ?_
          refine g_bipush (nI 10) dX12_isValue_113 (by decide) ?_
          refine g_icmp_eqN 124 dX12_isValue_115 (by decide) (by omega) (by omega) (fun c_115 => ?_) (fun c_115 => ?_)
          · exact absurd c_115 n15
          · refine g_iload_n dX12_isValue_118 rfl ?_
            refine g_bipush (nI 11) dX12_isValue_119 (by decide) ?_
            refine g_icmp_neN 132 dX12_isValue_121 (by decide) (by omega) (by omega) (fun c_121 => ?_) (fun c_121 => ?_)
            · refine g_iload_n dX12_isValue_132 rfl ?_
              refine g_bipush (nI 31) dX12_isValue_133 (by decide) ?_
              refine g_icmp_neN 158 dX12_isValue_135 (by decide) (by omega) (by omega) (fun c_135 => ?_) (fun c_135 => ?_)
              · refine g_iload_n dX12_isValue_158 rfl ?_
                refine g_bipush (nI 6) dX12_isValue_159 (by decide) ?_
                refine g_bipush (nI 9) dX12_isValue_161 (by decide) ?_
                refine g_callS0 kX12_64 (m12_isIn (nI (kd (tkk n f s0.1))) (nI 6) (nI 9)) rfl rfl (Nat.le_of_ble_eq_true rfl) (by decide) (by show 1 + 1 ≤ d + 2; omega) (Nat.zero_le _) (Nat.zero_le _) dX12_isValue_163 ?_
                rintro v1 h2 z1 ⟨rfl, rfl, rfl⟩
                refine g_if_eqB 179 dX12_isValue_166 (by decide) (fun c_166 => ?_) (fun c_166 => ?_)
                · refine g_iconst (nI 0) dX12_isValue_179 (by decide) ?_
                  exact g_iret hE rfl (hfin false _ _ (hR0.f0 dp) OffR.rf (by unfold pV; rw [if_neg hk.1, if_neg (by omega), if_neg (by omega)]; cases lo with | none => exact if_neg (by omega) | some w => exact (if_neg hk.2.2.1).trans ((if_neg (by omega)).trans (if_neg (by omega))))) dX12_isValue_180
                · rw [nin] at c_166; cases c_166
              · exact absurd c_135 n3
            · exact absurd c_121 n16
        · exact absurd c_102 n23
    · exact absurd c_58 n24
  · exact absurd c_13 n31
