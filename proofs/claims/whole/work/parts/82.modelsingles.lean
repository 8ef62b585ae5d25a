/-! the reference: all depths of values; single tests -/
theorem m12_isValue {X : gX} {m c pl q n d dp : Nat} {f : Nat → Int32} {R : rEn} {lo : Option (PF × PF)} (h2 : 2 ≤ d) (hq : m + 25 ≤ q) (hT : RcT n f R) (hL : RLv X m c pl q n f R d dp lo) : RCt X m c pl q n f R yX12_isValue cX12_isValue 3 (d + 2) dp (pV (tkk n f) (tku n f) lo) := by
  intro h z s0 hs0 hR0
  by_cases h3 : tkk n f s0.1 = 3
  · exact m12_isValue_3 h2 hq hT hL h z s0 hs0 hR0 h3
  · by_cases h11 : 11 ≤ tkk n f s0.1 ∧ tkk n f s0.1 ≤ 16
    · rcases (show tkk n f s0.1 = 11 ∨ tkk n f s0.1 = 12 ∨ tkk n f s0.1 = 13 ∨ tkk n f s0.1 = 14 ∨ tkk n f s0.1 = 15 ∨ tkk n f s0.1 = 16 by omega) with w | w | w | w | w | w
      · exact m12_isValue_11 h2 hq hT hL h z s0 hs0 hR0 w
      · exact m12_isValue_12 h2 hq hT hL h z s0 hs0 hR0 w
      · exact m12_isValue_13 h2 hq hT hL h z s0 hs0 hR0 w
      · exact m12_isValue_14 h2 hq hT hL h z s0 hs0 hR0 w
      · exact m12_isValue_15 h2 hq hT hL h z s0 hs0 hR0 w
      · exact m12_isValue_16 h2 hq hT hL h z s0 hs0 hR0 w
    · by_cases h31 : tkk n f s0.1 = 31
      · exact m12_isValue_31 h2 hq hT hL h z s0 hs0 hR0 h31
      · by_cases h24 : tkk n f s0.1 = 24
        · exact m12_isValue_24 h2 hq hT hL h z s0 hs0 hR0 h24
        · by_cases h22 : tkk n f s0.1 = 22
          · exact m12_isValue_22 h2 hq hT hL h z s0 hs0 hR0 h22
          · by_cases h23 : tkk n f s0.1 = 23
            · exact m12_isValue_23 h2 hq hT hL h z s0 hs0 hR0 h23
            · exact m12_isValue_el h2 hq hT hL h z s0 hs0 hR0 ⟨h3, h11, h31, h24, h22, h23⟩
set_option maxRecDepth 100000 in
theorem rvV_ct {X : gX} {m c pl q n : Nat} {f : Nat → Int32} {R : rEn} (hq : m + 25 ≤ q) (hT : RcT n f R) : ∀ D, D ≤ 8 → RCt X m c pl q n f R yX12_isValue cX12_isValue 3 (4 + 4 * D) (8 - D) (lvV (tkk n f) (tku n f) D).1 ∧ RCt X m c pl q n f R yX12_isSum cX12_isSum 3 (6 + 4 * D) (8 - D) (lvV (tkk n f) (tku n f) D).2 := by
  have hl := (tkl_spec n f).2.1
  intro D
  induction D with
  | zero =>
    intro _
    have h := m12_isValue (X := X) (c := c) (pl := pl) (f := f) (d := 2) (dp := 8) (lo := none) (Nat.le_refl _) hq hT ⟨Nat.le_refl _, fun _ => rfl, fun w e => by cases e⟩
    have hp := Pg.v (nu := tku n f) hl none 1 (Nat.le_refl _) (fun w e => by cases e)
    exact ⟨h, m12_isSum (d := 5) (by decide) hq hT (Pg.ch hl opT_ok hp) (m12_isProduct (d := 4) (by decide) hq hT hp h)⟩
  | succ D ih =>
    intro hD
    obtain ⟨i1, i2⟩ := ih (by omega)
    obtain ⟨k1, k2⟩ := lvV_ok (nu := tku n f) hl D
    have e8 : 8 - (D + 1) + 1 = 8 - D := by omega
    have h := m12_isValue (X := X) (c := c) (pl := pl) (f := f) (d := 6 + 4 * D) (dp := 8 - (D + 1)) (lo := some (lvV (tkk n f) (tku n f) D)) (by omega) hq hT ⟨by omega, (fun e => by cases e), fun w e => by
      cases e
      rw [e8]
      exact ⟨by omega, ⟨_, by omega, i1⟩, i2, ⟨_, k1⟩, _, k2⟩⟩
    have hp := (lvV_ok (nu := tku n f) hl (D + 1)).1
    have h8 : 6 + 4 * D + 2 = 4 + 4 * (D + 1) := by omega
    rw [h8] at h
    have h2 := m12_isProduct (d := 4 + 4 * (D + 1)) (by omega) hq hT hp h
    rw [show 4 + 4 * (D + 1) + 1 = 5 + 4 * (D + 1) by omega] at h2
    have h3 := m12_isSum (d := 5 + 4 * (D + 1)) (by omega) hq hT (Pg.ch hl opT_ok hp) h2
    rw [show 5 + 4 * (D + 1) + 1 = 6 + 4 * (D + 1) by omega] at h3
    exact ⟨h, h3⟩
/-- the same for tests -/
def RLt (X : gX) (m c pl q n : Nat) (f : Nat → Int32) (R : rEn) (d dp : Nat) (lo : Option (PF × PF)) : Prop := dp ≤ 8 ∧ (lo = none → dp = 8) ∧ ∀ w, lo = some w → dp < 8 ∧ (∃ d1, d1 ≤ d ∧ RCt X m c pl q n f R yX12_isSingle cX12_isSingle 3 d1 (dp + 1) w.1) ∧ RCt X m c pl q n f R yX12_isTest cX12_isTest 2 d (dp + 1) w.2 ∧ (∃ k, Pg (tkk n f) (tkl n f) w.1 true k) ∧ ∃ k, Pg (tkk n f) (tkl n f) w.2 true k
set_option maxRecDepth 100000 in
set_option maxHeartbeats 4000000 in
theorem m12_isSingle_19 {X : gX} {m c pl q n d dp : Nat} {f : Nat → Int32} {R : rEn} {lo : Option (PF × PF)} {u : PF} (h2 : 2 ≤ d) (hq : m + 25 ≤ q) (hT : RcT n f R) (hL : RLt X m c pl q n f R d dp lo) (h : gH) (z : Nat) (s0 : PSt) (hs0 : PsOk n f s0) (hR0 : RcS X h m c pl q n f R s0 dp true) (hk : tkk n f s0.1 = 19) : gM X yX12_isSingle cX12_isSingle 3 (some .boolean) (d + 2, 0, 0) [.ref m, .ref q] h z (fun r h' z' => r = some (.int (b2i (pS (tkk n f) lo u s0).1)) ∧ z' = z ∧ RcS X h' m c pl q n f R (pS (tkk n f) lo u s0).2 dp (pS (tkk n f) lo u s0).1 ∧ OffR h h' m q) gNoX := by
  have hLL := hL
  have hfin : ∀ (b : Bool) (h1 : gH) (s : PSt), RcS X h1 m c pl q n f R s dp b → OffR h h1 m q → (pS (tkk n f) lo u s0) = (b, s) → some (Value.int (b2i b)) = some (.int (b2i (pS (tkk n f) lo u s0).1)) ∧ z = z ∧ RcS X h1 m c pl q n f R (pS (tkk n f) lo u s0).2 dp (pS (tkk n f) lo u s0).1 ∧ OffR h h1 m q := by
    intro b h1 s hI hO hR
    rw [hR]
    exact ⟨rfl, rfl, hI, hO⟩
  obtain ⟨hl1, hl2, hl3⟩ := tkl_spec n f
  obtain ⟨hd8, hl0, hlo⟩ := hL
  have hs1 := hs0.1
  have hs2 := hs0.2.1
  have hR0' := hR0
  obtain ⟨I, A, J, B, hM, hQ, e1, e2, e3, e4, e5, e6⟩ := id hR0
  have hk0 := (hT s0.1 hs1).1
  rw [← e2 1 (by decide)] at hk0

  rw [hk] at hk0
  have p1 := hs0.step (Ps.tk hl2 (c := 19) (by decide)) (by decide) (by decide)
  rw [pTk_y hk] at p1
  have hlt := tk_lt (n := n) (f := f) (t := s0.1) (by omega) hs1
  have hk1 : A 1 s0.1 = nI 14 := hk0
  refine gM.of px12 (Nat.le_of_ble_eq_true rfl) ?_
  intro F hE
  refine g_aload_n dX12_isSingle_0 rfl ?_
  refine g_getf fl12_24 hM.1 rfl dX12_isSingle_1 ?_
  refine g_aload_n dX12_isSingle_4 rfl ?_
  refine g_getf fl12_265 hM.1 rfl dX12_isSingle_5 ?_
  rw [e5]
  refine g_ialdN (hM.2.1 1 (by decide)) (by show s0.1 < 401; omega) (by decide) dX12_isSingle_8 ?_
  rw [hk1]
  refine g_istore_n dX12_isSingle_9 (by decide) rfl ?_
  refine g_iload_n dX12_isSingle_10 rfl ?_
  refine g_bipush (nI 14) dX12_isSingle_11 (by decide) ?_
  refine g_icmp_neN 55 dX12_isSingle_13 (by decide) (by omega) (by omega) (fun c_13 => ?_) (fun c_13 => ?_)
  · exact absurd c_13 (by decide)
  · refine g_aload_n dX12_isSingle_16 rfl ?_
    refine g_bipush (nI 14) dX12_isSingle_17 (by decide) ?_
    refine g_callV0 kX12_291 (m12_deeper 19 (by decide) hq hT hs1 hd8 hR0) hM.1 rfl rfl rfl (Nat.le_of_ble_eq_true rfl) (by decide) (by show 1 + 1 ≤ d + 2; omega) (Nat.zero_le _) (Nat.zero_le _) dX12_isSingle_19 ?_
    rintro v1 h2 z1 ⟨rfl, hO2, hcs⟩
    rcases hcs with ⟨e8, rfl, hI2⟩ | ⟨e8, eb, rfl, hI2⟩ | ⟨e8, eb, rfl, hI2⟩
    · have hno : lo = none := by
        cases hh : lo with
        | none => rfl
        | some w => exact absurd (hlo w hh).1 (by omega)
      subst hno
      refine g_if_eqB 33 dX12_isSingle_22 (by decide) (fun _ => ?_) (fun q => absurd q (by decide))
      refine g_iconst (nI 0) dX12_isSingle_33 (by decide) ?_
      exact g_iret hE rfl (hfin false _ _ (hI2.f0 dp) hO2 (by unfold pS; refine (if_pos hk).trans ?_; rfl)) dX12_isSingle_34
    · exact Bool.noConfusion (show true = false from by rw [pTk_y hk] at eb; exact eb)
    · cases hh : lo with
      | none => exact absurd (hl0 hh) (by omega)
      | some w =>
        subst hh
        obtain ⟨-, ⟨d1, hd1, hv⟩, ht, ⟨kv, hPv⟩, kt, hPt⟩ := hlo w rfl
        rw [pTk_y hk] at hI2
        obtain ⟨fs2, hg2⟩ := hI2.at
        have q1 := fun w => ((PsOk.op hs0 hk (by decide) (by decide) hPv).2.2 w).1
        refine g_if_eqB 33 dX12_isSingle_22 (by decide) (fun c_22 => ?_) (fun c_22 => ?_)
        · exact absurd c_22 (by decide)
        · refine g_aload_n dX12_isSingle_25 rfl ?_
          refine g_aload_n dX12_isSingle_26 rfl ?_
          refine g_callV0 kX12_288 (hv _ _ _ p1 hI2) hg2 rfl rfl rfl (Nat.le_of_ble_eq_true rfl) (by decide) (by show d1 + 1 ≤ d + 2; omega) (Nat.zero_le _) (Nat.zero_le _) dX12_isSingle_27 ?_
          rintro v1 h3 z1 ⟨rfl, rfl, hI3, hO3⟩
          refine g_if_neB 35 dX12_isSingle_30 (by decide) (fun c_30 => ?_) (fun c_30 => ?_)
          · rw [c_30] at hI3
            obtain ⟨I3, A3, J3, B3, hM3, hQ3, e13, e23, e33, e43, e53, e63⟩ := id hI3
            refine g_aload_n dX12_isSingle_35 rfl ?_
            refine g_dup dX12_isSingle_36 rfl ?_
            refine g_getf fl12_271 hM3.1 rfl dX12_isSingle_37 ?_
            rw [(e63 rfl).1]
            refine g_iconst (nI 1) dX12_isSingle_40 (by decide) ?_
            first | refine g_isubN dX12_isSingle_41 (by omega) ?_ | refine g_isub dX12_isSingle_41 ?_
            refine md_put4 fl12_271 hM3 OffM.rf dX12_isSingle_42 (fun h4 hM4 hO4 => ?_)
            have hI4 : RcS X h4 m c pl q n f R (w.1 (s0.1 + 1, s0.2)).2 dp true := ⟨_, A3, J3, B3, hM4, hQ3.off hO4 (by omega), fun j a b => by rw [upd_ne b]; exact e13 j a b, e23, e33, e43, by rw [upd_ne (by decide)]; exact e53, fun _ => ⟨upd_same, (e63 rfl).2⟩⟩
            refine g_aload_n dX12_isSingle_45 rfl ?_
            refine g_aload_n dX12_isSingle_46 rfl ?_
            refine g_bipush (nI 14) dX12_isSingle_47 (by decide) ?_
            refine g_iconst (nI 0) dX12_isSingle_49 (by decide) ?_
            refine g_callV0 kX12_280 (m12_put 19 0 hq (q1 c_30) hI4) hM4.1 rfl rfl rfl (Nat.le_of_ble_eq_true rfl) (by decide) (by show 0 + 1 ≤ d + 2; omega) (Nat.zero_le _) (Nat.zero_le _) dX12_isSingle_50 ?_
            rintro v1 h5 z1 ⟨rfl, rfl, hI5, hO5⟩
            refine g_iconst (nI 1) dX12_isSingle_53 (by decide) ?_
            exact g_iret hE rfl (hfin true _ _ hI5 (((hO2.trans hO3).trans hO4.toR).trans hO5) (by unfold pS; refine (if_pos hk).trans ?_; show pSq _ _ s0 = _; rw [pSq_t (pTk_y hk), pSq_y c_30]; rfl)) dX12_isSingle_54
          · refine g_iconst (nI 0) dX12_isSingle_33 (by decide) ?_
            exact g_iret hE rfl (hfin false _ _ (hI3.f0 dp) (hO2.trans hO3) (by unfold pS; refine (if_pos hk).trans ?_; show pSq _ _ s0 = _; rw [pSq_t (pTk_y hk), pSq_n c_30])) dX12_isSingle_34
set_option maxRecDepth 100000 in
set_option maxHeartbeats 4000000 in
theorem m12_isSingle_26 {X : gX} {m c pl q n d dp : Nat} {f : Nat → Int32} {R : rEn} {lo : Option (PF × PF)} {u : PF} (h2 : 2 ≤ d) (hq : m + 25 ≤ q) (hT : RcT n f R) (hL : RLt X m c pl q n f R d dp lo) (h : gH) (z : Nat) (s0 : PSt) (hs0 : PsOk n f s0) (hR0 : RcS X h m c pl q n f R s0 dp true) (hk : tkk n f s0.1 = 26) : gM X yX12_isSingle cX12_isSingle 3 (some .boolean) (d + 2, 0, 0) [.ref m, .ref q] h z (fun r h' z' => r = some (.int (b2i (pS (tkk n f) lo u s0).1)) ∧ z' = z ∧ RcS X h' m c pl q n f R (pS (tkk n f) lo u s0).2 dp (pS (tkk n f) lo u s0).1 ∧ OffR h h' m q) gNoX := by
  have hLL := hL
  have hfin : ∀ (b : Bool) (h1 : gH) (s : PSt), RcS X h1 m c pl q n f R s dp b → OffR h h1 m q → (pS (tkk n f) lo u s0) = (b, s) → some (Value.int (b2i b)) = some (.int (b2i (pS (tkk n f) lo u s0).1)) ∧ z = z ∧ RcS X h1 m c pl q n f R (pS (tkk n f) lo u s0).2 dp (pS (tkk n f) lo u s0).1 ∧ OffR h h1 m q := by
    intro b h1 s hI hO hR
    rw [hR]
    exact ⟨rfl, rfl, hI, hO⟩
  obtain ⟨hl1, hl2, hl3⟩ := tkl_spec n f
  obtain ⟨hd8, hl0, hlo⟩ := hL
  have hs1 := hs0.1
  have hs2 := hs0.2.1
  have hR0' := hR0
  obtain ⟨I, A, J, B, hM, hQ, e1, e2, e3, e4, e5, e6⟩ := id hR0
  have hk0 := (hT s0.1 hs1).1
  rw [← e2 1 (by decide)] at hk0

  rw [hk] at hk0
  have p1 := hs0.step (Ps.tk hl2 (c := 26) (by decide)) (by decide) (by decide)
  rw [pTk_y hk] at p1
  have hlt := tk_lt (n := n) (f := f) (t := s0.1) (by omega) hs1
  have hk1 : A 1 s0.1 = nI 91 := hk0
  refine gM.of px12 (Nat.le_of_ble_eq_true rfl) ?_
  intro F hE
  refine g_aload_n dX12_isSingle_0 rfl ?_
  refine g_getf fl12_24 hM.1 rfl dX12_isSingle_1 ?_
  refine g_aload_n dX12_isSingle_4 rfl ?_
  refine g_getf fl12_265 hM.1 rfl dX12_isSingle_5 ?_
  rw [e5]
  refine g_ialdN (hM.2.1 1 (by decide)) (by show s0.1 < 401; omega) (by decide) dX12_isSingle_8 ?_
  rw [hk1]
  refine g_istore_n dX12_isSingle_9 (by decide) rfl ?_
  refine g_iload_n dX12_isSingle_10 rfl ?_
  refine g_bipush (nI 14) dX12_isSingle_11 (by decide) ?_
  refine g_icmp_neN 55 dX12_isSingle_13 (by decide) (by omega) (by omega) (fun c_13 => ?_) (fun c_13 => ?_)
  · refine g_iload_n dX12_isSingle_55 rfl ?_
    refine g_bipush (nI 91) dX12_isSingle_56 (by decide) ?_
    refine g_icmp_neN 93 dX12_isSingle_58 (by decide) (by omega) (by omega) (fun c_58 => ?_) (fun c_58 => ?_)
    · exact absurd c_58 (by decide)
    · refine g_aload_n dX12_isSingle_61 rfl ?_
      refine g_bipush (nI 91) dX12_isSingle_62 (by decide) ?_
      refine g_callV0 kX12_291 (m12_deeper 26 (by decide) hq hT hs1 hd8 hR0) hM.1 rfl rfl rfl (Nat.le_of_ble_eq_true rfl) (by decide) (by show 1 + 1 ≤ d + 2; omega) (Nat.zero_le _) (Nat.zero_le _) dX12_isSingle_64 ?_
      rintro v1 h2 z1 ⟨rfl, hO2, hcs⟩
      rcases hcs with ⟨e8, rfl, hI2⟩ | ⟨e8, eb, rfl, hI2⟩ | ⟨e8, eb, rfl, hI2⟩
      · have hno : lo = none := by
          cases hh : lo with
          | none => rfl
          | some w => exact absurd (hlo w hh).1 (by omega)
        subst hno
        refine g_if_eqB 91 dX12_isSingle_67 (by decide) (fun _ => ?_) (fun q => absurd q (by decide))
        refine g_iconst (nI 0) dX12_isSingle_91 (by decide) ?_
        exact g_iret hE rfl (hfin false _ _ (hI2.f0 dp) hO2 (by unfold pS; refine (if_neg (by omega)).trans ((if_pos hk).trans ?_); rfl)) dX12_isSingle_92
      · exact Bool.noConfusion (show true = false from by rw [pTk_y hk] at eb; exact eb)
      · cases hh : lo with
        | none => exact absurd (hl0 hh) (by omega)
        | some w =>
          subst hh
          obtain ⟨-, ⟨d1, hd1, hv⟩, ht, ⟨kv, hPv⟩, kt, hPt⟩ := hlo w rfl
          rw [pTk_y hk] at hI2
          obtain ⟨fs2, hg2⟩ := hI2.at
          have p2 := PsOk.step p1 hPt (by decide) (by decide)
          refine g_if_eqB 91 dX12_isSingle_67 (by decide) (fun c_67 => ?_) (fun c_67 => ?_)
          · exact absurd c_67 (by decide)
          · refine g_aload_n dX12_isSingle_70 rfl ?_
            refine g_aload_n dX12_isSingle_71 rfl ?_
            refine g_callV0 kX12_294 (ht _ _ _ p1 hI2) hg2 rfl rfl rfl (Nat.le_of_ble_eq_true rfl) (by decide) (by show d + 1 ≤ d + 2; omega) (Nat.zero_le _) (Nat.zero_le _) dX12_isSingle_72 ?_
            rintro v1 h3 z1 ⟨rfl, rfl, hI3, hO3⟩
            obtain ⟨fs3, hg3⟩ := hI3.at
            refine g_if_eqB 91 dX12_isSingle_75 (by decide) (fun c_75 => ?_) (fun c_75 => ?_)
            · refine g_iconst (nI 0) dX12_isSingle_91 (by decide) ?_
              exact g_iret hE rfl (hfin false _ _ (hI3.f0 dp) (hO2.trans hO3) (by unfold pS; refine (if_neg (by omega)).trans ((if_pos hk).trans ?_); show pSq _ _ s0 = _; rw [pSq_t (pTk_y hk), pSq_n c_75])) dX12_isSingle_92
            · refine g_aload_n dX12_isSingle_78 rfl ?_
              refine g_bipush (nI 93) dX12_isSingle_79 (by decide) ?_
              rw [c_75] at hI3
              refine g_callV0 kX12_297 (m12_closes 27 (by decide) hq hT p2.1 hd8 hI3) hg3 rfl rfl rfl (Nat.le_of_ble_eq_true rfl) (by decide) (by show 1 + 1 ≤ d + 2; omega) (Nat.zero_le _) (Nat.zero_le _) dX12_isSingle_81 ?_
              rintro v1 h5 z1 ⟨rfl, rfl, hI5, hO5⟩
              refine g_if_eqB 91 dX12_isSingle_84 (by decide) (fun c_84 => ?_) (fun c_84 => ?_)
              · refine g_iconst (nI 0) dX12_isSingle_91 (by decide) ?_
                exact g_iret hE rfl (hfin false _ _ (by rw [c_84] at hI5; exact hI5) ((hO2.trans hO3).trans hO5) (by unfold pS; refine (if_neg (by omega)).trans ((if_pos hk).trans ?_); show pSq _ _ s0 = _; rw [pSq_t (pTk_y hk), pSq_y c_75]; exact Prod.ext c_84 rfl)) dX12_isSingle_92
              · refine g_iconst (nI 1) dX12_isSingle_87 (by decide) ?_
                refine g_goto 92 dX12_isSingle_88 (by decide) ?_
                exact g_iret hE rfl (hfin true _ _ (by rw [c_84] at hI5; exact hI5) ((hO2.trans hO3).trans hO5) (by unfold pS; refine (if_neg (by omega)).trans ((if_pos hk).trans ?_); show pSq _ _ s0 = _; rw [pSq_t (pTk_y hk), pSq_y c_75]; exact Prod.ext c_84 rfl)) dX12_isSingle_92
  · exact absurd c_13 (by decide)
set_option maxRecDepth 100000 in
set_option maxHeartbeats 4000000 in
theorem m12_isSingle_18 {X : gX} {m c pl q n d dp : Nat} {f : Nat → Int32} {R : rEn} {lo : Option (PF × PF)} {u : PF} (h2 : 2 ≤ d) (hq : m + 25 ≤ q) (hT : RcT n f R) (hL : RLt X m c pl q n f R d dp lo) (h : gH) (z : Nat) (s0 : PSt) (hs0 : PsOk n f s0) (hR0 : RcS X h m c pl q n f R s0 dp true) (hk : tkk n f s0.1 = 18) : gM X yX12_isSingle cX12_isSingle 3 (some .boolean) (d + 2, 0, 0) [.ref m, .ref q] h z (fun r h' z' => r = some (.int (b2i (pS (tkk n f) lo u s0).1)) ∧ z' = z ∧ RcS X h' m c pl q n f R (pS (tkk n f) lo u s0).2 dp (pS (tkk n f) lo u s0).1 ∧ OffR h h' m q) gNoX := by
  have hLL := hL
  have hfin : ∀ (b : Bool) (h1 : gH) (s : PSt), RcS X h1 m c pl q n f R s dp b → OffR h h1 m q → (pS (tkk n f) lo u s0) = (b, s) → some (Value.int (b2i b)) = some (.int (b2i (pS (tkk n f) lo u s0).1)) ∧ z = z ∧ RcS X h1 m c pl q n f R (pS (tkk n f) lo u s0).2 dp (pS (tkk n f) lo u s0).1 ∧ OffR h h1 m q := by
    intro b h1 s hI hO hR
    rw [hR]
    exact ⟨rfl, rfl, hI, hO⟩
  obtain ⟨hl1, hl2, hl3⟩ := tkl_spec n f
  obtain ⟨hd8, hl0, hlo⟩ := hL
  have hs1 := hs0.1
  have hs2 := hs0.2.1
  have hR0' := hR0
  obtain ⟨I, A, J, B, hM, hQ, e1, e2, e3, e4, e5, e6⟩ := id hR0
  have hk0 := (hT s0.1 hs1).1
  rw [← e2 1 (by decide)] at hk0

  rw [hk] at hk0
  have p1 := hs0.step (Ps.tk hl2 (c := 18) (by decide)) (by decide) (by decide)
  rw [pTk_y hk] at p1
  have hlt := tk_lt (n := n) (f := f) (t := s0.1) (by omega) hs1
  have hk1 : A 1 s0.1 = nI 13 := hk0
  refine gM.of px12 (Nat.le_of_ble_eq_true rfl) ?_
  intro F hE
  refine g_aload_n dX12_isSingle_0 rfl ?_
  refine g_getf fl12_24 hM.1 rfl dX12_isSingle_1 ?_
  refine g_aload_n dX12_isSingle_4 rfl ?_
  refine g_getf fl12_265 hM.1 rfl dX12_isSingle_5 ?_
  rw [e5]
  refine g_ialdN (hM.2.1 1 (by decide)) (by show s0.1 < 401; omega) (by decide) dX12_isSingle_8 ?_
  rw [hk1]
  refine g_istore_n dX12_isSingle_9 (by decide) rfl ?_
  refine g_iload_n dX12_isSingle_10 rfl ?_
  refine g_bipush (nI 14) dX12_isSingle_11 (by decide) ?_
  refine g_icmp_neN 55 dX12_isSingle_13 (by decide) (by omega) (by omega) (fun c_13 => ?_) (fun c_13 => ?_)
  · refine g_iload_n dX12_isSingle_55 rfl ?_
    refine g_bipush (nI 91) dX12_isSingle_56 (by decide) ?_
    refine g_icmp_neN 93 dX12_isSingle_58 (by decide) (by omega) (by omega) (fun c_58 => ?_) (fun c_58 => ?_)
    · refine g_iload_n dX12_isSingle_93 rfl ?_
      refine g_bipush (nI 13) dX12_isSingle_94 (by decide) ?_
      refine g_icmp_neN 109 dX12_isSingle_96 (by decide) (by omega) (by omega) (fun c_96 => ?_) (fun c_96 => ?_)
      · exact absurd c_96 (by decide)
      · refine g_aload_n dX12_isSingle_99 rfl ?_
        refine g_aload_n dX12_isSingle_100 rfl ?_
        refine g_iload_n dX12_isSingle_101 rfl ?_
        refine g_iconst (nI 0) dX12_isSingle_102 (by decide) ?_
        refine g_callV0 kX12_300 (m12_isAbout 18 false hq hT p1 hR0) hM.1 rfl rfl rfl (Nat.le_of_ble_eq_true rfl) (by decide) (by show 2 + 1 ≤ d + 2; omega) (Nat.zero_le _) (Nat.zero_le _) dX12_isSingle_103 ?_
        rintro v1 h3 z1 ⟨rfl, rfl, hI3, hO3⟩
        refine g_goto 114 dX12_isSingle_106 (by decide) ?_
        have hF : pS (tkk n f) lo u s0 = (if false = true then pSq (pTk (tkk n f) 17) (pAb (tkk n f) 18) else pAb (tkk n f) 18) (s0.1 + 1, s0.2) := by
          unfold pS; refine (if_neg (by omega)).trans ((if_neg (by omega)).trans ((if_pos hk).trans ?_)); rw [pSq_t (pTk_y hk), if_neg (by decide)]
        rw [hF] at hE
        exact g_iret hE (nrB _) ⟨rfl, rfl, hI3, hO3⟩ dX12_isSingle_114
    · exact absurd c_58 (by decide)
  · exact absurd c_13 (by decide)
set_option maxRecDepth 100000 in
set_option maxHeartbeats 4000000 in
theorem m12_isSingle_el {X : gX} {m c pl q n d dp : Nat} {f : Nat → Int32} {R : rEn} {lo : Option (PF × PF)} {u : PF} (hC : RCt X m c pl q n f R yX12_isCompare cX12_isCompare 4 (d + 1) dp (pCm (tkk n f) u)) (h2 : 2 ≤ d) (hq : m + 25 ≤ q) (hT : RcT n f R) (hL : RLt X m c pl q n f R d dp lo) (h : gH) (z : Nat) (s0 : PSt) (hs0 : PsOk n f s0) (hR0 : RcS X h m c pl q n f R s0 dp true) (hk : tkk n f s0.1 ≠ 19 ∧ tkk n f s0.1 ≠ 26 ∧ tkk n f s0.1 ≠ 18) : gM X yX12_isSingle cX12_isSingle 3 (some .boolean) (d + 2, 0, 0) [.ref m, .ref q] h z (fun r h' z' => r = some (.int (b2i (pS (tkk n f) lo u s0).1)) ∧ z' = z ∧ RcS X h' m c pl q n f R (pS (tkk n f) lo u s0).2 dp (pS (tkk n f) lo u s0).1 ∧ OffR h h' m q) gNoX := by
  have hLL := hL
  have hfin : ∀ (b : Bool) (h1 : gH) (s : PSt), RcS X h1 m c pl q n f R s dp b → OffR h h1 m q → (pS (tkk n f) lo u s0) = (b, s) → some (Value.int (b2i b)) = some (.int (b2i (pS (tkk n f) lo u s0).1)) ∧ z = z ∧ RcS X h1 m c pl q n f R (pS (tkk n f) lo u s0).2 dp (pS (tkk n f) lo u s0).1 ∧ OffR h h1 m q := by
    intro b h1 s hI hO hR
    rw [hR]
    exact ⟨rfl, rfl, hI, hO⟩
  obtain ⟨hl1, hl2, hl3⟩ := tkl_spec n f
  obtain ⟨hd8, hl0, hlo⟩ := hL
  have hs1 := hs0.1
  have hs2 := hs0.2.1
  have hR0' := hR0
  obtain ⟨I, A, J, B, hM, hQ, e1, e2, e3, e4, e5, e6⟩ := id hR0
  have hk0 := (hT s0.1 hs1).1
  rw [← e2 1 (by decide)] at hk0

  refine gM.of px12 (Nat.le_of_ble_eq_true rfl) ?_
  intro F hE
  have hk39 := tkk_lt n f s0.1
  have hkb := kd_lt _ hk39
  have hk1 := hk0
  have kn : ∀ t, t < 39 → tkk n f s0.1 ≠ t → kd (tkk n f s0.1) ≠ kd t := fun t ht q q2 => q (kd_inj _ hk39 t ht q2)
  have n19 : kd (tkk n f s0.1) ≠ 14 := kn 19 (by decide) hk.1
  have n26 : kd (tkk n f s0.1) ≠ 91 := kn 26 (by decide) hk.2.1
  have n18 : kd (tkk n f s0.1) ≠ 13 := kn 18 (by decide) hk.2.2
  refine g_aload_n dX12_isSingle_0 rfl ?_
  refine g_getf fl12_24 hM.1 rfl dX12_isSingle_1 ?_
  refine g_aload_n dX12_isSingle_4 rfl ?_
  refine g_getf fl12_265 hM.1 rfl dX12_isSingle_5 ?_
  rw [e5]
  refine g_ialdN (hM.2.1 1 (by decide)) (by show s0.1 < 401; omega) (by decide) dX12_isSingle_8 ?_
  rw [hk1]
  refine g_istore_n dX12_isSingle_9 (by decide) rfl ?_
  refine g_iload_n dX12_isSingle_10 rfl ?_
  refine g_bipush (nI 14) dX12_isSingle_11 (by decide) ?_
  refine g_icmp_neN 55 dX12_isSingle_13 (by decide) (by omega) (by omega) (fun c_13 => ?_) (fun c_13 => ?_)
  · refine g_iload_n dX12_isSingle_55 rfl ?_
    refine g_bipush (nI 91) dX12_isSingle_56 (by decide) ?_
    refine g_icmp_neN 93 dX12_isSingle_58 (by decide) (by omega) (by omega) (fun c_58 => ?_) (fun c_58 => ?_)
    · refine g_iload_n dX12_isSingle_93 rfl ?_
      refine g_bipush (nI 13) dX12_isSingle_94 (by decide) ?_
      refine g_icmp_neN 109 dX12_isSingle_96 (by decide) (by omega) (by omega) (fun c_96 => ?_) (fun c_96 => ?_)
      · refine g_aload_n dX12_isSingle_109 rfl ?_
        refine g_aload_n dX12_isSingle_110 rfl ?_
        refine g_callV0 kX12_304 (hC _ _ _ hs0 hR0) hM.1 rfl rfl rfl (Nat.le_of_ble_eq_true rfl) (by decide) (by show d + 1 + 1 ≤ d + 2; omega) (Nat.zero_le _) (Nat.zero_le _) dX12_isSingle_111 ?_
        rintro v1 h3 z1 ⟨rfl, rfl, hI3, hO3⟩
        have hF : pS (tkk n f) lo u s0 = pCm (tkk n f) u s0 := by unfold pS; exact (if_neg hk.1).trans ((if_neg hk.2.1).trans (if_neg hk.2.2))
        rw [hF] at hE
        exact g_iret hE (nrB _) ⟨rfl, rfl, hI3, hO3⟩ dX12_isSingle_114
      · exact absurd c_96 n18
    · exact absurd c_58 n26
  · exact absurd c_13 n19
