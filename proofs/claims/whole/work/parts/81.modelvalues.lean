/-! the reference: values, all depths -/
/-- what is known of the depths below -/
def RLv (X : gX) (m c pl q n : Nat) (f : Nat → Int32) (R : rEn) (d dp : Nat) (lo : Option (PF × PF)) : Prop := dp ≤ 8 ∧ (lo = none → dp = 8) ∧ ∀ w, lo = some w → dp < 8 ∧ (∃ d1, d1 ≤ d ∧ RCt X m c pl q n f R yX12_isValue cX12_isValue 3 d1 (dp + 1) w.1) ∧ RCt X m c pl q n f R yX12_isSum cX12_isSum 3 d (dp + 1) w.2 ∧ (∃ k, Pg (tkk n f) (tkl n f) w.1 false k) ∧ ∃ k, Pg (tkk n f) (tkl n f) w.2 false k
def pM2 (K : Nat → Nat) (t : Nat) (lo : Option (PF × PF)) : PF := match lo with
  | none => pNo
  | some w => pSq (pTk K 24) (pSq w.2 (pSq (pTk K 29) (pSq w.2 (pSq (pTk K 25) (pPt t 0)))))
set_option maxRecDepth 100000 in
set_option maxHeartbeats 4000000 in
theorem m12_isOfTwo {X : gX} {m c pl q n d dp : Nat} {f : Nat → Int32} {R : rEn} {lo : Option (PF × PF)} (h2 : 2 ≤ d) (hq : m + 25 ≤ q) (hT : RcT n f R) (hL : RLv X m c pl q n f R d dp lo) (h : gH) (z : Nat) (s0 : PSt) (t : Nat) (ht : t = 22 ∨ t = 23) (hk : tkk n f s0.1 = t) (hs0 : PsOk n f s0) (hR0 : RcS X h m c pl q n f R s0 dp true) : gM X yX12_isOfTwo cX12_isOfTwo 3 (some .boolean) (d + 1, 0, 0) [.ref m, .ref q, .int (nI (rc t))] h z (fun r h' z' => r = some (.int (b2i (pM2 (tkk n f) t lo (s0.1 + 1, s0.2)).1)) ∧ z' = z ∧ RcS X h' m c pl q n f R (pM2 (tkk n f) t lo (s0.1 + 1, s0.2)).2 dp (pM2 (tkk n f) t lo (s0.1 + 1, s0.2)).1 ∧ OffR h h' m q) gNoX := by
  have hfin : ∀ (b : Bool) (h1 : gH) (s : PSt), RcS X h1 m c pl q n f R s dp b → OffR h h1 m q → (pM2 (tkk n f) t lo (s0.1 + 1, s0.2)) = (b, s) → some (Value.int (b2i b)) = some (.int (b2i (pM2 (tkk n f) t lo (s0.1 + 1, s0.2)).1)) ∧ z = z ∧ RcS X h1 m c pl q n f R (pM2 (tkk n f) t lo (s0.1 + 1, s0.2)).2 dp (pM2 (tkk n f) t lo (s0.1 + 1, s0.2)).1 ∧ OffR h h1 m q := by
    intro b h1 s hI hO hR
    rw [hR]
    exact ⟨rfl, rfl, hI, hO⟩
  obtain ⟨hl1, hl2, hl3⟩ := tkl_spec n f
  obtain ⟨hd8, hl0, hlo⟩ := hL
  have hs1 := hs0.1
  have hs2 := hs0.2.1
  have hR0' := hR0
  obtain ⟨I, A, J, B, hM, hQ, e1, e2, e3, e4, e5, e6⟩ := id hR0
  have hk0 := (hT s0.1 hs1).1
  rw [← e2 1 (by decide)] at hk0
  have p1 := hs0.step (Ps.tk hl2 (c := t) (by omega)) (by decide) (by decide)
  rw [pTk_y hk] at p1
  refine gM.of px12 (Nat.le_of_ble_eq_true rfl) ?_
  intro F hE
  refine g_aload_n dX12_isOfTwo_0 rfl ?_
  refine g_dup dX12_isOfTwo_1 rfl ?_
  refine g_getf fl12_265 hM.1 rfl dX12_isOfTwo_2 ?_
  rw [e5]
  refine g_iconst (nI 1) dX12_isOfTwo_5 (by decide) ?_
  first | refine g_iaddN dX12_isOfTwo_6 ?_ | refine g_iadd dX12_isOfTwo_6 ?_
  refine md_put3 fl12_265 hM OffM.rf dX12_isOfTwo_7 (fun h1 hM1 hO1 => ?_)
  have hI1 := RcS.t1 hq hM1 hO1 hQ e1 e2 e3 e4 (e6 rfl)
  refine g_aload_n dX12_isOfTwo_10 rfl ?_
  refine g_bipush (nI 40) dX12_isOfTwo_11 (by decide) ?_
  refine g_callV0 kX12_291 (m12_deeper (s := (s0.1 + 1, s0.2)) 24 (by decide) hq hT p1.1 hd8 hI1) hM1.1 rfl rfl rfl (Nat.le_of_ble_eq_true rfl) (by decide) (by show 1 + 1 ≤ d + 1; omega) (Nat.zero_le _) (Nat.zero_le _) dX12_isOfTwo_13 ?_
  rintro v1 h2 z1 ⟨rfl, hO2, hcs⟩
  have hO2 := hO1.toR.trans hO2
  rcases hcs with ⟨e8, rfl, hI2⟩ | ⟨e8, eb, rfl, hI2⟩ | ⟨e8, eb, rfl, hI2⟩
  · have hno : lo = none := by
      cases hh : lo with
      | none => rfl
      | some w => exact absurd (hlo w hh).1 (by omega)
    subst hno
    refine g_if_eqB 53 dX12_isOfTwo_16 (by decide) (fun _ => ?_) (fun q => absurd q (by decide))
    refine g_iconst (nI 0) dX12_isOfTwo_53 (by decide) ?_
    exact g_iret hE rfl (hfin false _ _ (hI2.f0 dp) hO2 rfl) dX12_isOfTwo_54
  · cases hh : lo with
    | none => exact absurd (hl0 hh) (by omega)
    | some w =>
      subst hh
      refine g_if_eqB 53 dX12_isOfTwo_16 (by decide) (fun _ => ?_) (fun q => absurd q (by decide))
      refine g_iconst (nI 0) dX12_isOfTwo_53 (by decide) ?_
      exact g_iret hE rfl (hfin false _ _ (hI2.f0 dp) hO2 (by show pSq _ _ _ = _; rw [pSq_n eb])) dX12_isOfTwo_54
  · have eb := pTk_1 eb
    rw [pTk_y eb] at hI2
    cases hh : lo with
    | none => exact absurd (hl0 hh) (by omega)
    | some w =>
      subst hh
      obtain ⟨-, ⟨d1, hd1, hv⟩, hu, ⟨kv, hPv⟩, ku, hPu⟩ := hlo w rfl
      obtain ⟨fs2, hg2⟩ := hI2.at
      have p2 := PsOk.step p1 (Ps.tk hl2 (c := 24) (by decide)) (by decide) (by decide)
      rw [pTk_y eb] at p2
      have p3 := PsOk.step p2 hPu (by decide) (by decide)
      refine g_if_eqB 53 dX12_isOfTwo_16 (by decide) (fun c_16 => ?_) (fun c_16 => ?_)
      · exact absurd c_16 (by decide)
      · refine g_aload_n dX12_isOfTwo_19 rfl ?_
        refine g_aload_n dX12_isOfTwo_20 rfl ?_
        refine g_callV0 kX12_307 (hu _ _ _ p2 hI2) hg2 rfl rfl rfl (Nat.le_of_ble_eq_true rfl) (by decide) (by show d + 1 ≤ d + 1; omega) (Nat.zero_le _) (Nat.zero_le _) dX12_isOfTwo_21 ?_
        rintro v1 h3 z1 ⟨rfl, rfl, hI3, hO3⟩
        obtain ⟨fs3, hg3⟩ := hI3.at
        refine g_if_eqB 53 dX12_isOfTwo_24 (by decide) (fun c_24 => ?_) (fun c_24 => ?_)
        · refine g_iconst (nI 0) dX12_isOfTwo_53 (by decide) ?_
          exact g_iret hE rfl (hfin false _ _ (hI3.f0 dp) (hO2.trans hO3) (by show pM2 _ _ (some _) _ = _; show pSq _ _ _ = _; rw [pSq_t (pTk_y eb), pSq_n c_24])) dX12_isOfTwo_54
        · refine g_aload_n dX12_isOfTwo_27 rfl ?_
          refine g_bipush (nI 44) dX12_isOfTwo_28 (by decide) ?_
          rw [c_24] at hI3
          refine g_callV0 kX12_268 (m12_eat 29 (by decide) hq hT p3.1 hI3) hg3 rfl rfl rfl (Nat.le_of_ble_eq_true rfl) (by decide) (by show 0 + 1 ≤ d + 1; omega) (Nat.zero_le _) (Nat.zero_le _) dX12_isOfTwo_30 ?_
          rintro v1 h4 z1 ⟨rfl, rfl, hI4, hO4⟩
          obtain ⟨fs4, hg4⟩ := hI4.at
          refine g_if_eqB 53 dX12_isOfTwo_33 (by decide) (fun c_33 => ?_) (fun c_33 => ?_)
          · refine g_iconst (nI 0) dX12_isOfTwo_53 (by decide) ?_
            exact g_iret hE rfl (hfin false _ _ (hI4.f0 dp) ((hO2.trans hO3).trans hO4) (by show pM2 _ _ (some _) _ = _; show pSq _ _ _ = _; rw [pSq_t (pTk_y eb), pSq_y c_24, pSq_n c_33])) dX12_isOfTwo_54
          · refine g_aload_n dX12_isOfTwo_36 rfl ?_
            refine g_aload_n dX12_isOfTwo_37 rfl ?_
            have k4 := pTk_1 c_33
            rw [pTk_y k4] at hI4
            have p4 := PsOk.step p3 (Ps.tk hl2 (c := 29) (by decide)) (by decide) (by decide)
            rw [pTk_y k4] at p4
            have p5 := PsOk.step p4 hPu (by decide) (by decide)
            refine g_callV0 kX12_307 (hu _ _ _ p4 hI4) hg4 rfl rfl rfl (Nat.le_of_ble_eq_true rfl) (by decide) (by show d + 1 ≤ d + 1; omega) (Nat.zero_le _) (Nat.zero_le _) dX12_isOfTwo_38 ?_
            rintro v1 h5 z1 ⟨rfl, rfl, hI5, hO5⟩
            obtain ⟨fs5, hg5⟩ := hI5.at
            refine g_if_eqB 53 dX12_isOfTwo_41 (by decide) (fun c_41 => ?_) (fun c_41 => ?_)
            · refine g_iconst (nI 0) dX12_isOfTwo_53 (by decide) ?_
              exact g_iret hE rfl (hfin false _ _ (hI5.f0 dp) (((hO2.trans hO3).trans hO4).trans hO5) (by show pM2 _ _ (some _) _ = _; show pSq _ _ _ = _; rw [pSq_t (pTk_y eb), pSq_y c_24, pSq_t (pTk_y k4), pSq_n c_41])) dX12_isOfTwo_54
            · refine g_aload_n dX12_isOfTwo_44 rfl ?_
              refine g_bipush (nI 41) dX12_isOfTwo_45 (by decide) ?_
              rw [c_41] at hI5
              refine g_callV0 kX12_297 (m12_closes 25 (by decide) hq hT p5.1 hd8 hI5) hg5 rfl rfl rfl (Nat.le_of_ble_eq_true rfl) (by decide) (by show 1 + 1 ≤ d + 1; omega) (Nat.zero_le _) (Nat.zero_le _) dX12_isOfTwo_47 ?_
              rintro v1 h7 z1 ⟨rfl, rfl, hI7, hO7⟩
              obtain ⟨fs7, hg7⟩ := hI7.at
              refine g_if_neB 55 dX12_isOfTwo_50 (by decide) (fun c_50 => ?_) (fun c_50 => ?_)
              · refine g_aload_n dX12_isOfTwo_55 rfl ?_
                refine g_aload_n dX12_isOfTwo_56 rfl ?_
                refine g_iload_n dX12_isOfTwo_57 rfl ?_
                refine g_iconst (nI 0) dX12_isOfTwo_58 (by decide) ?_
                have k7 := pTk_1 c_50
                rw [c_50] at hI7
                rw [pTk_y k7] at hI7
                have p7 := PsOk.step p5 (Ps.tk hl2 (c := 25) (by decide)) (by decide) (by decide)
                rw [pTk_y k7] at p7
                have hps := ((Ps.tk hl2 (c := t) (by omega)).seq ((Ps.tk hl2 (c := 24) (by decide)).seq (hPu.seq ((Ps.tk hl2 (c := 29) (by decide)).seq (hPu.seq (Ps.tk hl2 (c := 25) (by decide))))))) s0 hs1
                rw [pSq_t (pTk_y hk), pSq_t (pTk_y eb), pSq_y c_24, pSq_t (pTk_y k4), pSq_y c_41, pTk_y k7] at hps
                obtain ⟨X, V, a1, a2, a3, a4, a5, a6, a7⟩ := hps
                have a8 := (a6 rfl).1
                have e9 : (w.2 ((w.2 (s0.1 + 1 + 1, s0.2)).2.1 + 1, (w.2 (s0.1 + 1 + 1, s0.2)).2.2)).2.2.1.length = s0.2.1.length + X.length := by
                  have := congrArg (fun w => w.1.length) a1
                  rw [← List.length_append]; exact this
                have a9 : (X.length : Int) + s0.1 + 4 ≤ (((w.2 ((w.2 (s0.1 + 1 + 1, s0.2)).2.1 + 1, (w.2 (s0.1 + 1 + 1, s0.2)).2.2)).2.1 + 1 : Nat) : Int) := Int.le_trans (by omega) a8
                have a10 : (w.2 ((w.2 (s0.1 + 1 + 1, s0.2)).2.1 + 1, (w.2 (s0.1 + 1 + 1, s0.2)).2.2)).2.1 + 1 ≤ tkl n f := p7.1
                have hlen : (w.2 ((w.2 (s0.1 + 1 + 1, s0.2)).2.1 + 1, (w.2 (s0.1 + 1 + 1, s0.2)).2.2)).2.2.1.length < 400 := by omega
                refine g_callV0 kX12_280 (m12_put (s := ((w.2 ((w.2 (s0.1 + 1 + 1, s0.2)).2.1 + 1, (w.2 (s0.1 + 1 + 1, s0.2)).2.2)).2.1 + 1, (w.2 ((w.2 (s0.1 + 1 + 1, s0.2)).2.1 + 1, (w.2 (s0.1 + 1 + 1, s0.2)).2.2)).2.2)) t 0 hq hlen hI7) hg7 rfl rfl rfl (Nat.le_of_ble_eq_true rfl) (by decide) (by show 0 + 1 ≤ d + 1; omega) (Nat.zero_le _) (Nat.zero_le _) dX12_isOfTwo_59 ?_
                rintro v1 h8 z1 ⟨rfl, rfl, hI8, hO8⟩
                refine g_iconst (nI 1) dX12_isOfTwo_62 (by decide) ?_
                exact g_iret hE rfl (hfin true _ _ hI8 (((((hO2.trans hO3).trans hO4).trans hO5).trans hO7).trans hO8) (by show pM2 _ _ (some _) _ = _; show pSq _ _ _ = _; rw [pSq_t (pTk_y eb), pSq_y c_24, pSq_t (pTk_y k4), pSq_y c_41, pSq_t (pTk_y k7)]; rfl)) dX12_isOfTwo_63
              · refine g_iconst (nI 0) dX12_isOfTwo_53 (by decide) ?_
                exact g_iret hE rfl (hfin false _ _ (hI7.f0 dp) ((((hO2.trans hO3).trans hO4).trans hO5).trans hO7) (by show pM2 _ _ (some _) _ = _; show pSq _ _ _ = _; rw [pSq_t (pTk_y eb), pSq_y c_24, pSq_t (pTk_y k4), pSq_y c_41, pSq_n c_50])) dX12_isOfTwo_54
