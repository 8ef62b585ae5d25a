/-! the grammar: values, single tests; all depths -/
/-- what is known of the depths below -/
def LoV (X : gX) (K : gKo) (g p n : Nat) (f : Nat → Int32) (d dp : Nat) (lo : Option (PF × PF)) : Prop := dp ≤ 8 ∧ (lo = none → dp = 8) ∧ ∀ q, lo = some q → dp < 8 ∧ (∃ d1, d1 ≤ d ∧ GCt X K g p n f yX1_readValue cX1_readValue 2 d1 (dp + 1) q.1) ∧ GCt X K g p n f yX1_readSum cX1_readSum 4 d (dp + 1) q.2 ∧ (∃ k, Pg (tkk n f) (tkl n f) q.1 false k) ∧ ∃ k, Pg (tkk n f) (tkl n f) q.2 false k
def LoT (X : gX) (K : gKo) (g p n : Nat) (f : Nat → Int32) (d dp : Nat) (lo : Option (PF × PF)) : Prop := dp ≤ 8 ∧ (lo = none → dp = 8) ∧ ∀ q, lo = some q → dp < 8 ∧ (∃ d1, d1 ≤ d ∧ GCt X K g p n f yX1_readSingle cX1_readSingle 1 d1 (dp + 1) q.1) ∧ GCt X K g p n f yX1_readTest cX1_readTest 3 d (dp + 1) q.2 ∧ (∃ k, Pg (tkk n f) (tkl n f) q.1 true k) ∧ ∃ k, Pg (tkk n f) (tkl n f) q.2 true k
theorem swV : ∀ c, c < 39 → (c = 3 ∨ (11 ≤ c ∧ c ≤ 16) ∨ c = 31 ∨ c = 24 ∨ c = 22 ∨ c = 23) ∨ swL.getD c 0 < 4 ∨ 14 < swL.getD c 0 := by decide +kernel
theorem swS : ∀ c, c < 39 → (c = 19 ∨ c = 26 ∨ c = 18) ∨ swL.getD c 0 < 1 ∨ 3 < swL.getD c 0 := by decide +kernel
theorem swB : ∀ c, c < 39 → swL.getD c 0 < 100 := by decide +kernel
theorem pNm_1 {K : Nat → Nat} {m : Nat} {s : PSt} (h : (pNm K m s).1 = true) : K s.1 = 2 := by
  unfold pNm at h
  split at h
  · assumption
  · cases h
theorem pNm_y {K : Nat → Nat} {m : Nat} {s : PSt} (h : K s.1 = 2) : pNm K m s = (true, (s.1 + 1, s.2.1, s.2.2 ++ [(m, s.1)])) := if_pos h
set_option maxRecDepth 100000 in
set_option maxHeartbeats 4000000 in
theorem m1_readValue_3 {X : gX} {K : gKo} {g p n d dp : Nat} {f : Nat → Int32} {lo : Option (PF × PF)} (h4 : 4 ≤ d) (hK : gCo X K) (hA : ApG g p) (hn : n ≤ 2000) (hL : LoV X K g p n f d dp lo) (h : gH) (z : Nat) (s0 : PSt) (ir0 : Int32) (W : gWo) (hs0 : PsOk n f s0) (hI0 : GrI X K h g p n f s0 dp ir0 W) (hk : tkk n f s0.1 = 3) : gM X yX1_readValue cX1_readValue 2 (some .boolean) (d + 1, 0, 0) [.ref g] h z (fun r h' z' => r = some (.int (b2i ((pV (tkk n f) (tku n f) lo) s0).1)) ∧ z' = z ∧ (∃ dp' ir', GrI X K h' g p n f ((pV (tkk n f) (tku n f) lo) s0).2 dp' ir' W ∧ (((pV (tkk n f) (tku n f) lo) s0).1 = true → dp' = dp)) ∧ OffG h h' g p) gNoX := by
  have hfin : ∀ (b : Bool) (h1 : gH) (s : PSt) (dp' : Nat) (ir : Int32), GrI X K h1 g p n f s dp' ir W → (b = true → dp' = dp) → OffG h h1 g p → (pV (tkk n f) (tku n f) lo) s0 = (b, s) → some (Value.int (b2i b)) = some (.int (b2i ((pV (tkk n f) (tku n f) lo) s0).1)) ∧ z = z ∧ (∃ dp' ir', GrI X K h1 g p n f ((pV (tkk n f) (tku n f) lo) s0).2 dp' ir' W ∧ (((pV (tkk n f) (tku n f) lo) s0).1 = true → dp' = dp)) ∧ OffG h h1 g p := by
    intro b h1 s dp' ir hI hdp hO hR
    rw [hR]
    exact ⟨rfl, rfl, ⟨dp', ir, hI, hdp⟩, hO⟩
  obtain ⟨hl1, hl2, hl3⟩ := tkl_spec n f
  obtain ⟨hd8, hl0, hlo⟩ := hL
  have hs1 := hs0.1
  have hs2 := hs0.2.1
  obtain ⟨ep, S, gg, hg, hep, hT, -⟩ := id hI0
  obtain ⟨kf, S1, T1, en, hTT, -⟩ := id hT
  refine gM.of px1 (Nat.le_of_ble_eq_true rfl) ?_
  intro F hE
  have hlt := tk_lt (n := n) (f := f) (t := s0.1) (by omega) hs1
  refine g_aload_n dX1_readValue_0 rfl ?_
  refine g_getf fl1_12 hg rfl dX1_readValue_1 ?_
  refine g_getf fl1_41 hTT.1.1 rfl dX1_readValue_4 ?_
  rw [hk]
  refine g_astore_n dX1_readValue_7 (by decide) rfl ?_
  refine g_gets hK.2.2.2.1.1 wgX1_187 dX1_readValue_8 ?_
  refine g_aload_n dX1_readValue_11 rfl ?_
  refine g_ord kX1_193 hK (c := 3) (by omega) (Nat.le_of_ble_eq_true rfl) (by first | decide | exact Nat.le_add_left 1 _) (Nat.zero_le _) (Nat.zero_le _) dX1_readValue_12 ?_
  refine g_tald hK.2.2.2.1.2 (by omega) (by omega) dX1_readValue_15 ?_
  refine g_switch (60) 76 dX1_readValue_16 (by decide) (by decide) (by decide) (by decide) ?_
  refine g_aload_n dX1_readValue_76 rfl ?_
  refine g_gets (hK.1 3 (by decide)).1 wgX1_254 dX1_readValue_77 ?_
  refine g_aload_n dX1_readValue_80 rfl ?_
  refine g_getf fl1_12 hg rfl dX1_readValue_81 ?_
  refine g_callV0 kX1_257 (m8_number hk hn hT) hTT.1.1 rfl rfl rfl (Nat.le_of_ble_eq_true rfl) (by decide) (by show 2 + 1 ≤ d + 1; omega) (Nat.zero_le _) (Nat.zero_le _) dX1_readValue_84 ?_
  rintro v1 h2 z1 ⟨rfl, rfl, rfl⟩
  refine g_callV0 kX1_177 (m1_put 3 (tku n f s0.1) (nI (tku n f s0.1)) (by decide) hK hA (by omega) (fun _ => rfl) hI0) hg rfl rfl rfl (Nat.le_of_ble_eq_true rfl) (by decide) (by show 1 + 1 ≤ d + 1; omega) (Nat.zero_le _) (Nat.zero_le _) dX1_readValue_87 ?_
  rintro v1 h2 z1 ⟨rfl, rfl, hI2, hO2⟩
  obtain ⟨fs2, hg2⟩ := hI2.gat
  refine g_if_eqB 107 dX1_readValue_90 (by decide) (fun c_90 => ?_) (fun c_90 => ?_)
  · exact absurd c_90 (by decide)
  · refine g_aload_n dX1_readValue_93 rfl ?_
    refine g_gets (hK.1 3 (by decide)).1 wgX1_254 dX1_readValue_94 ?_
    refine g_callV0 kX1_63 (m1_take (s := (pPt 3 (tku n f s0.1) s0).2) 3 (by decide) (by decide) hK hA hs1 hI2) hg2 rfl rfl rfl (Nat.le_of_ble_eq_true rfl) (by decide) (by show 2 + 1 ≤ d + 1; omega) (Nat.zero_le _) (Nat.zero_le _) dX1_readValue_97 ?_
    rintro v1 h3 z1 ⟨rfl, rfl, hI3, hO3⟩
    rw [pTk_y (show tkk n f (pPt 3 (tku n f s0.1) s0).2.1 = 3 from hk)] at hI3 ⊢
    refine g_if_eqB 107 dX1_readValue_100 (by decide) (fun c_100 => ?_) (fun c_100 => ?_)
    · exact Bool.noConfusion (show true = false from c_100)
    · refine g_iconst (nI 1) dX1_readValue_103 (by decide) ?_
      refine g_goto 108 dX1_readValue_104 (by decide) ?_
      exact g_iret hE rfl (hfin true _ _ _ _ hI3 (fun _ => rfl) (hO2.trans hO3) (by unfold pV; rw [if_pos hk, pSq_t (pTk_y hk)]; rfl)) dX1_readValue_108
set_option maxRecDepth 100000 in
set_option maxHeartbeats 4000000 in
theorem m1_readValue_11 {X : gX} {K : gKo} {g p n d dp : Nat} {f : Nat → Int32} {lo : Option (PF × PF)} (h4 : 4 ≤ d) (hK : gCo X K) (hA : ApG g p) (hn : n ≤ 2000) (hL : LoV X K g p n f d dp lo) (h : gH) (z : Nat) (s0 : PSt) (ir0 : Int32) (W : gWo) (hs0 : PsOk n f s0) (hI0 : GrI X K h g p n f s0 dp ir0 W) (hk : tkk n f s0.1 = 11) : gM X yX1_readValue cX1_readValue 2 (some .boolean) (d + 1, 0, 0) [.ref g] h z (fun r h' z' => r = some (.int (b2i ((pV (tkk n f) (tku n f) lo) s0).1)) ∧ z' = z ∧ (∃ dp' ir', GrI X K h' g p n f ((pV (tkk n f) (tku n f) lo) s0).2 dp' ir' W ∧ (((pV (tkk n f) (tku n f) lo) s0).1 = true → dp' = dp)) ∧ OffG h h' g p) gNoX := by
  have hfin : ∀ (b : Bool) (h1 : gH) (s : PSt) (dp' : Nat) (ir : Int32), GrI X K h1 g p n f s dp' ir W → (b = true → dp' = dp) → OffG h h1 g p → (pV (tkk n f) (tku n f) lo) s0 = (b, s) → some (Value.int (b2i b)) = some (.int (b2i ((pV (tkk n f) (tku n f) lo) s0).1)) ∧ z = z ∧ (∃ dp' ir', GrI X K h1 g p n f ((pV (tkk n f) (tku n f) lo) s0).2 dp' ir' W ∧ (((pV (tkk n f) (tku n f) lo) s0).1 = true → dp' = dp)) ∧ OffG h h1 g p := by
    intro b h1 s dp' ir hI hdp hO hR
    rw [hR]
    exact ⟨rfl, rfl, ⟨dp', ir, hI, hdp⟩, hO⟩
  obtain ⟨hl1, hl2, hl3⟩ := tkl_spec n f
  obtain ⟨hd8, hl0, hlo⟩ := hL
  have hs1 := hs0.1
  have hs2 := hs0.2.1
  obtain ⟨ep, S, gg, hg, hep, hT, -⟩ := id hI0
  obtain ⟨kf, S1, T1, en, hTT, -⟩ := id hT
  refine gM.of px1 (Nat.le_of_ble_eq_true rfl) ?_
  intro F hE
  have hlt := tk_lt (n := n) (f := f) (t := s0.1) (by omega) hs1
  refine g_aload_n dX1_readValue_0 rfl ?_
  refine g_getf fl1_12 hg rfl dX1_readValue_1 ?_
  refine g_getf fl1_41 hTT.1.1 rfl dX1_readValue_4 ?_
  rw [hk]
  refine g_astore_n dX1_readValue_7 (by decide) rfl ?_
  refine g_gets hK.2.2.2.1.1 wgX1_187 dX1_readValue_8 ?_
  refine g_aload_n dX1_readValue_11 rfl ?_
  refine g_ord kX1_193 hK (c := 11) (by omega) (Nat.le_of_ble_eq_true rfl) (by first | decide | exact Nat.le_add_left 1 _) (Nat.zero_le _) (Nat.zero_le _) dX1_readValue_12 ?_
  refine g_tald hK.2.2.2.1.2 (by omega) (by omega) dX1_readValue_15 ?_
  refine g_switch (93) 109 dX1_readValue_16 (by decide) (by decide) (by decide) (by decide) ?_
  refine g_aload_n dX1_readValue_109 rfl ?_
  refine g_aload_n dX1_readValue_110 rfl ?_
  refine g_iconst (nI 0) dX1_readValue_111 (by decide) ?_
  refine g_callV0 kX1_177 (m1_put 11 0 (nI 0) (by decide) hK hA (by omega) (fun _ => rfl) hI0) hg rfl rfl rfl (Nat.le_of_ble_eq_true rfl) (by decide) (by show 1 + 1 ≤ d + 1; omega) (Nat.zero_le _) (Nat.zero_le _) dX1_readValue_112 ?_
  rintro v1 h2 z1 ⟨rfl, rfl, hI2, hO2⟩
  obtain ⟨fs2, hg2⟩ := hI2.gat
  refine g_if_eqB 130 dX1_readValue_115 (by decide) (fun c_115 => ?_) (fun c_115 => ?_)
  · exact absurd c_115 (by decide)
  · refine g_aload_n dX1_readValue_118 rfl ?_
    refine g_aload_n dX1_readValue_119 rfl ?_
    refine g_callV0 kX1_63 (m1_take (s := (pPt 11 0 s0).2) 11 (by decide) (by decide) hK hA hs1 hI2) hg2 rfl rfl rfl (Nat.le_of_ble_eq_true rfl) (by decide) (by show 2 + 1 ≤ d + 1; omega) (Nat.zero_le _) (Nat.zero_le _) dX1_readValue_120 ?_
    rintro v1 h3 z1 ⟨rfl, rfl, hI3, hO3⟩
    rw [pTk_y (show tkk n f (pPt 11 0 s0).2.1 = 11 from hk)] at hI3 ⊢
    refine g_if_eqB 130 dX1_readValue_123 (by decide) (fun c_123 => ?_) (fun c_123 => ?_)
    · exact Bool.noConfusion (show true = false from c_123)
    · refine g_iconst (nI 1) dX1_readValue_126 (by decide) ?_
      refine g_goto 131 dX1_readValue_127 (by decide) ?_
      exact g_iret hE rfl (hfin true _ _ _ _ hI3 (fun _ => rfl) (hO2.trans hO3) (by unfold pV; rw [if_neg (by omega), if_pos (by omega), hk, pSq_t (pTk_y hk)]; rfl)) dX1_readValue_131
set_option maxRecDepth 100000 in
set_option maxHeartbeats 4000000 in
theorem m1_readValue_12 {X : gX} {K : gKo} {g p n d dp : Nat} {f : Nat → Int32} {lo : Option (PF × PF)} (h4 : 4 ≤ d) (hK : gCo X K) (hA : ApG g p) (hn : n ≤ 2000) (hL : LoV X K g p n f d dp lo) (h : gH) (z : Nat) (s0 : PSt) (ir0 : Int32) (W : gWo) (hs0 : PsOk n f s0) (hI0 : GrI X K h g p n f s0 dp ir0 W) (hk : tkk n f s0.1 = 12) : gM X yX1_readValue cX1_readValue 2 (some .boolean) (d + 1, 0, 0) [.ref g] h z (fun r h' z' => r = some (.int (b2i ((pV (tkk n f) (tku n f) lo) s0).1)) ∧ z' = z ∧ (∃ dp' ir', GrI X K h' g p n f ((pV (tkk n f) (tku n f) lo) s0).2 dp' ir' W ∧ (((pV (tkk n f) (tku n f) lo) s0).1 = true → dp' = dp)) ∧ OffG h h' g p) gNoX := by
  have hfin : ∀ (b : Bool) (h1 : gH) (s : PSt) (dp' : Nat) (ir : Int32), GrI X K h1 g p n f s dp' ir W → (b = true → dp' = dp) → OffG h h1 g p → (pV (tkk n f) (tku n f) lo) s0 = (b, s) → some (Value.int (b2i b)) = some (.int (b2i ((pV (tkk n f) (tku n f) lo) s0).1)) ∧ z = z ∧ (∃ dp' ir', GrI X K h1 g p n f ((pV (tkk n f) (tku n f) lo) s0).2 dp' ir' W ∧ (((pV (tkk n f) (tku n f) lo) s0).1 = true → dp' = dp)) ∧ OffG h h1 g p := by
    intro b h1 s dp' ir hI hdp hO hR
    rw [hR]
    exact ⟨rfl, rfl, ⟨dp', ir, hI, hdp⟩, hO⟩
  obtain ⟨hl1, hl2, hl3⟩ := tkl_spec n f
  obtain ⟨hd8, hl0, hlo⟩ := hL
  have hs1 := hs0.1
  have hs2 := hs0.2.1
  obtain ⟨ep, S, gg, hg, hep, hT, -⟩ := id hI0
  obtain ⟨kf, S1, T1, en, hTT, -⟩ := id hT
  refine gM.of px1 (Nat.le_of_ble_eq_true rfl) ?_
  intro F hE
  have hlt := tk_lt (n := n) (f := f) (t := s0.1) (by omega) hs1
  refine g_aload_n dX1_readValue_0 rfl ?_
  refine g_getf fl1_12 hg rfl dX1_readValue_1 ?_
  refine g_getf fl1_41 hTT.1.1 rfl dX1_readValue_4 ?_
  rw [hk]
  refine g_astore_n dX1_readValue_7 (by decide) rfl ?_
  refine g_gets hK.2.2.2.1.1 wgX1_187 dX1_readValue_8 ?_
  refine g_aload_n dX1_readValue_11 rfl ?_
  refine g_ord kX1_193 hK (c := 12) (by omega) (Nat.le_of_ble_eq_true rfl) (by first | decide | exact Nat.le_add_left 1 _) (Nat.zero_le _) (Nat.zero_le _) dX1_readValue_12 ?_
  refine g_tald hK.2.2.2.1.2 (by omega) (by omega) dX1_readValue_15 ?_
  refine g_switch (93) 109 dX1_readValue_16 (by decide) (by decide) (by decide) (by decide) ?_
  refine g_aload_n dX1_readValue_109 rfl ?_
  refine g_aload_n dX1_readValue_110 rfl ?_
  refine g_iconst (nI 0) dX1_readValue_111 (by decide) ?_
  refine g_callV0 kX1_177 (m1_put 12 0 (nI 0) (by decide) hK hA (by omega) (fun _ => rfl) hI0) hg rfl rfl rfl (Nat.le_of_ble_eq_true rfl) (by decide) (by show 1 + 1 ≤ d + 1; omega) (Nat.zero_le _) (Nat.zero_le _) dX1_readValue_112 ?_
  rintro v1 h2 z1 ⟨rfl, rfl, hI2, hO2⟩
  obtain ⟨fs2, hg2⟩ := hI2.gat
  refine g_if_eqB 130 dX1_readValue_115 (by decide) (fun c_115 => ?_) (fun c_115 => ?_)
  · exact absurd c_115 (by decide)
  · refine g_aload_n dX1_readValue_118 rfl ?_
    refine g_aload_n dX1_readValue_119 rfl ?_
    refine g_callV0 kX1_63 (m1_take (s := (pPt 12 0 s0).2) 12 (by decide) (by decide) hK hA hs1 hI2) hg2 rfl rfl rfl (Nat.le_of_ble_eq_true rfl) (by decide) (by show 2 + 1 ≤ d + 1; omega) (Nat.zero_le _) (Nat.zero_le _) dX1_readValue_120 ?_
    rintro v1 h3 z1 ⟨rfl, rfl, hI3, hO3⟩
    rw [pTk_y (show tkk n f (pPt 12 0 s0).2.1 = 12 from hk)] at hI3 ⊢
    refine g_if_eqB 130 dX1_readValue_123 (by decide) (fun c_123 => ?_) (fun c_123 => ?_)
    · exact Bool.noConfusion (show true = false from c_123)
    · refine g_iconst (nI 1) dX1_readValue_126 (by decide) ?_
      refine g_goto 131 dX1_readValue_127 (by decide) ?_
      exact g_iret hE rfl (hfin true _ _ _ _ hI3 (fun _ => rfl) (hO2.trans hO3) (by unfold pV; rw [if_neg (by omega), if_pos (by omega), hk, pSq_t (pTk_y hk)]; rfl)) dX1_readValue_131
set_option maxRecDepth 100000 in
set_option maxHeartbeats 4000000 in
theorem m1_readValue_13 {X : gX} {K : gKo} {g p n d dp : Nat} {f : Nat → Int32} {lo : Option (PF × PF)} (h4 : 4 ≤ d) (hK : gCo X K) (hA : ApG g p) (hn : n ≤ 2000) (hL : LoV X K g p n f d dp lo) (h : gH) (z : Nat) (s0 : PSt) (ir0 : Int32) (W : gWo) (hs0 : PsOk n f s0) (hI0 : GrI X K h g p n f s0 dp ir0 W) (hk : tkk n f s0.1 = 13) : gM X yX1_readValue cX1_readValue 2 (some .boolean) (d + 1, 0, 0) [.ref g] h z (fun r h' z' => r = some (.int (b2i ((pV (tkk n f) (tku n f) lo) s0).1)) ∧ z' = z ∧ (∃ dp' ir', GrI X K h' g p n f ((pV (tkk n f) (tku n f) lo) s0).2 dp' ir' W ∧ (((pV (tkk n f) (tku n f) lo) s0).1 = true → dp' = dp)) ∧ OffG h h' g p) gNoX := by
  have hfin : ∀ (b : Bool) (h1 : gH) (s : PSt) (dp' : Nat) (ir : Int32), GrI X K h1 g p n f s dp' ir W → (b = true → dp' = dp) → OffG h h1 g p → (pV (tkk n f) (tku n f) lo) s0 = (b, s) → some (Value.int (b2i b)) = some (.int (b2i ((pV (tkk n f) (tku n f) lo) s0).1)) ∧ z = z ∧ (∃ dp' ir', GrI X K h1 g p n f ((pV (tkk n f) (tku n f) lo) s0).2 dp' ir' W ∧ (((pV (tkk n f) (tku n f) lo) s0).1 = true → dp' = dp)) ∧ OffG h h1 g p := by
    intro b h1 s dp' ir hI hdp hO hR
    rw [hR]
    exact ⟨rfl, rfl, ⟨dp', ir, hI, hdp⟩, hO⟩
  obtain ⟨hl1, hl2, hl3⟩ := tkl_spec n f
  obtain ⟨hd8, hl0, hlo⟩ := hL
  have hs1 := hs0.1
  have hs2 := hs0.2.1
  obtain ⟨ep, S, gg, hg, hep, hT, -⟩ := id hI0
  obtain ⟨kf, S1, T1, en, hTT, -⟩ := id hT
  refine gM.of px1 (Nat.le_of_ble_eq_true rfl) ?_
  intro F hE
  have hlt := tk_lt (n := n) (f := f) (t := s0.1) (by omega) hs1
  refine g_aload_n dX1_readValue_0 rfl ?_
  refine g_getf fl1_12 hg rfl dX1_readValue_1 ?_
  refine g_getf fl1_41 hTT.1.1 rfl dX1_readValue_4 ?_
  rw [hk]
  refine g_astore_n dX1_readValue_7 (by decide) rfl ?_
  refine g_gets hK.2.2.2.1.1 wgX1_187 dX1_readValue_8 ?_
  refine g_aload_n dX1_readValue_11 rfl ?_
  refine g_ord kX1_193 hK (c := 13) (by omega) (Nat.le_of_ble_eq_true rfl) (by first | decide | exact Nat.le_add_left 1 _) (Nat.zero_le _) (Nat.zero_le _) dX1_readValue_12 ?_
  refine g_tald hK.2.2.2.1.2 (by omega) (by omega) dX1_readValue_15 ?_
  refine g_switch (93) 109 dX1_readValue_16 (by decide) (by decide) (by decide) (by decide) ?_
  refine g_aload_n dX1_readValue_109 rfl ?_
  refine g_aload_n dX1_readValue_110 rfl ?_
  refine g_iconst (nI 0) dX1_readValue_111 (by decide) ?_
  refine g_callV0 kX1_177 (m1_put 13 0 (nI 0) (by decide) hK hA (by omega) (fun _ => rfl) hI0) hg rfl rfl rfl (Nat.le_of_ble_eq_true rfl) (by decide) (by show 1 + 1 ≤ d + 1; omega) (Nat.zero_le _) (Nat.zero_le _) dX1_readValue_112 ?_
  rintro v1 h2 z1 ⟨rfl, rfl, hI2, hO2⟩
  obtain ⟨fs2, hg2⟩ := hI2.gat
  refine g_if_eqB 130 dX1_readValue_115 (by decide) (fun c_115 => ?_) (fun c_115 => ?_)
  · exact absurd c_115 (by decide)
  · refine g_aload_n dX1_readValue_118 rfl ?_
    refine g_aload_n dX1_readValue_119 rfl ?_
    refine g_callV0 kX1_63 (m1_take (s := (pPt 13 0 s0).2) 13 (by decide) (by decide) hK hA hs1 hI2) hg2 rfl rfl rfl (Nat.le_of_ble_eq_true rfl) (by decide) (by show 2 + 1 ≤ d + 1; omega) (Nat.zero_le _) (Nat.zero_le _) dX1_readValue_120 ?_
    rintro v1 h3 z1 ⟨rfl, rfl, hI3, hO3⟩
    rw [pTk_y (show tkk n f (pPt 13 0 s0).2.1 = 13 from hk)] at hI3 ⊢
    refine g_if_eqB 130 dX1_readValue_123 (by decide) (fun c_123 => ?_) (fun c_123 => ?_)
    · exact Bool.noConfusion (show true = false from c_123)
    · refine g_iconst (nI 1) dX1_readValue_126 (by decide) ?_
      refine g_goto 131 dX1_readValue_127 (by decide) ?_
      exact g_iret hE rfl (hfin true _ _ _ _ hI3 (fun _ => rfl) (hO2.trans hO3) (by unfold pV; rw [if_neg (by omega), if_pos (by omega), hk, pSq_t (pTk_y hk)]; rfl)) dX1_readValue_131
set_option maxRecDepth 100000 in
set_option maxHeartbeats 4000000 in
theorem m1_readValue_14 {X : gX} {K : gKo} {g p n d dp : Nat} {f : Nat → Int32} {lo : Option (PF × PF)} (h4 : 4 ≤ d) (hK : gCo X K) (hA : ApG g p) (hn : n ≤ 2000) (hL : LoV X K g p n f d dp lo) (h : gH) (z : Nat) (s0 : PSt) (ir0 : Int32) (W : gWo) (hs0 : PsOk n f s0) (hI0 : GrI X K h g p n f s0 dp ir0 W) (hk : tkk n f s0.1 = 14) : gM X yX1_readValue cX1_readValue 2 (some .boolean) (d + 1, 0, 0) [.ref g] h z (fun r h' z' => r = some (.int (b2i ((pV (tkk n f) (tku n f) lo) s0).1)) ∧ z' = z ∧ (∃ dp' ir', GrI X K h' g p n f ((pV (tkk n f) (tku n f) lo) s0).2 dp' ir' W ∧ (((pV (tkk n f) (tku n f) lo) s0).1 = true → dp' = dp)) ∧ OffG h h' g p) gNoX := by
  have hfin : ∀ (b : Bool) (h1 : gH) (s : PSt) (dp' : Nat) (ir : Int32), GrI X K h1 g p n f s dp' ir W → (b = true → dp' = dp) → OffG h h1 g p → (pV (tkk n f) (tku n f) lo) s0 = (b, s) → some (Value.int (b2i b)) = some (.int (b2i ((pV (tkk n f) (tku n f) lo) s0).1)) ∧ z = z ∧ (∃ dp' ir', GrI X K h1 g p n f ((pV (tkk n f) (tku n f) lo) s0).2 dp' ir' W ∧ (((pV (tkk n f) (tku n f) lo) s0).1 = true → dp' = dp)) ∧ OffG h h1 g p := by
    intro b h1 s dp' ir hI hdp hO hR
    rw [hR]
    exact ⟨rfl, rfl, ⟨dp', ir, hI, hdp⟩, hO⟩
  obtain ⟨hl1, hl2, hl3⟩ := tkl_spec n f
  obtain ⟨hd8, hl0, hlo⟩ := hL
  have hs1 := hs0.1
  have hs2 := hs0.2.1
  obtain ⟨ep, S, gg, hg, hep, hT, -⟩ := id hI0
  obtain ⟨kf, S1, T1, en, hTT, -⟩ := id hT
  refine gM.of px1 (Nat.le_of_ble_eq_true rfl) ?_
  intro F hE
  have hlt := tk_lt (n := n) (f := f) (t := s0.1) (by omega) hs1
  refine g_aload_n dX1_readValue_0 rfl ?_
  refine g_getf fl1_12 hg rfl dX1_readValue_1 ?_
  refine g_getf fl1_41 hTT.1.1 rfl dX1_readValue_4 ?_
  rw [hk]
  refine g_astore_n dX1_readValue_7 (by decide) rfl ?_
  refine g_gets hK.2.2.2.1.1 wgX1_187 dX1_readValue_8 ?_
  refine g_aload_n dX1_readValue_11 rfl ?_
  refine g_ord kX1_193 hK (c := 14) (by omega) (Nat.le_of_ble_eq_true rfl) (by first | decide | exact Nat.le_add_left 1 _) (Nat.zero_le _) (Nat.zero_le _) dX1_readValue_12 ?_
  refine g_tald hK.2.2.2.1.2 (by omega) (by omega) dX1_readValue_15 ?_
  refine g_switch (93) 109 dX1_readValue_16 (by decide) (by decide) (by decide) (by decide) ?_
  refine g_aload_n dX1_readValue_109 rfl ?_
  refine g_aload_n dX1_readValue_110 rfl ?_
  refine g_iconst (nI 0) dX1_readValue_111 (by decide) ?_
  refine g_callV0 kX1_177 (m1_put 14 0 (nI 0) (by decide) hK hA (by omega) (fun _ => rfl) hI0) hg rfl rfl rfl (Nat.le_of_ble_eq_true rfl) (by decide) (by show 1 + 1 ≤ d + 1; omega) (Nat.zero_le _) (Nat.zero_le _) dX1_readValue_112 ?_
  rintro v1 h2 z1 ⟨rfl, rfl, hI2, hO2⟩
  obtain ⟨fs2, hg2⟩ := hI2.gat
  refine g_if_eqB 130 dX1_readValue_115 (by decide) (fun c_115 => ?_) (fun c_115 => ?_)
  · exact absurd c_115 (by decide)
  · refine g_aload_n dX1_readValue_118 rfl ?_
    refine g_aload_n dX1_readValue_119 rfl ?_
    refine g_callV0 kX1_63 (m1_take (s := (pPt 14 0 s0).2) 14 (by decide) (by decide) hK hA hs1 hI2) hg2 rfl rfl rfl (Nat.le_of_ble_eq_true rfl) (by decide) (by show 2 + 1 ≤ d + 1; omega) (Nat.zero_le _) (Nat.zero_le _) dX1_readValue_120 ?_
    rintro v1 h3 z1 ⟨rfl, rfl, hI3, hO3⟩
    rw [pTk_y (show tkk n f (pPt 14 0 s0).2.1 = 14 from hk)] at hI3 ⊢
    refine g_if_eqB 130 dX1_readValue_123 (by decide) (fun c_123 => ?_) (fun c_123 => ?_)
    · exact Bool.noConfusion (show true = false from c_123)
    · refine g_iconst (nI 1) dX1_readValue_126 (by decide) ?_
      refine g_goto 131 dX1_readValue_127 (by decide) ?_
      exact g_iret hE rfl (hfin true _ _ _ _ hI3 (fun _ => rfl) (hO2.trans hO3) (by unfold pV; rw [if_neg (by omega), if_pos (by omega), hk, pSq_t (pTk_y hk)]; rfl)) dX1_readValue_131
set_option maxRecDepth 100000 in
set_option maxHeartbeats 4000000 in
theorem m1_readValue_15 {X : gX} {K : gKo} {g p n d dp : Nat} {f : Nat → Int32} {lo : Option (PF × PF)} (h4 : 4 ≤ d) (hK : gCo X K) (hA : ApG g p) (hn : n ≤ 2000) (hL : LoV X K g p n f d dp lo) (h : gH) (z : Nat) (s0 : PSt) (ir0 : Int32) (W : gWo) (hs0 : PsOk n f s0) (hI0 : GrI X K h g p n f s0 dp ir0 W) (hk : tkk n f s0.1 = 15) : gM X yX1_readValue cX1_readValue 2 (some .boolean) (d + 1, 0, 0) [.ref g] h z (fun r h' z' => r = some (.int (b2i ((pV (tkk n f) (tku n f) lo) s0).1)) ∧ z' = z ∧ (∃ dp' ir', GrI X K h' g p n f ((pV (tkk n f) (tku n f) lo) s0).2 dp' ir' W ∧ (((pV (tkk n f) (tku n f) lo) s0).1 = true → dp' = dp)) ∧ OffG h h' g p) gNoX := by
  have hfin : ∀ (b : Bool) (h1 : gH) (s : PSt) (dp' : Nat) (ir : Int32), GrI X K h1 g p n f s dp' ir W → (b = true → dp' = dp) → OffG h h1 g p → (pV (tkk n f) (tku n f) lo) s0 = (b, s) → some (Value.int (b2i b)) = some (.int (b2i ((pV (tkk n f) (tku n f) lo) s0).1)) ∧ z = z ∧ (∃ dp' ir', GrI X K h1 g p n f ((pV (tkk n f) (tku n f) lo) s0).2 dp' ir' W ∧ (((pV (tkk n f) (tku n f) lo) s0).1 = true → dp' = dp)) ∧ OffG h h1 g p := by
    intro b h1 s dp' ir hI hdp hO hR
    rw [hR]
    exact ⟨rfl, rfl, ⟨dp', ir, hI, hdp⟩, hO⟩
  obtain ⟨hl1, hl2, hl3⟩ := tkl_spec n f
  obtain ⟨hd8, hl0, hlo⟩ := hL
  have hs1 := hs0.1
  have hs2 := hs0.2.1
  obtain ⟨ep, S, gg, hg, hep, hT, -⟩ := id hI0
  obtain ⟨kf, S1, T1, en, hTT, -⟩ := id hT
  refine gM.of px1 (Nat.le_of_ble_eq_true rfl) ?_
  intro F hE
  have hlt := tk_lt (n := n) (f := f) (t := s0.1) (by omega) hs1
  have p1 := hs0.step (Ps.tk hl2 (c := 15) (by decide)) (by decide) (by decide)
  rw [pTk_y hk] at p1
  have hFF : pV (tkk n f) (tku n f) lo s0 = pSq (pTk (tkk n f) 17) (pAb (tkk n f) 15) (s0.1 + 1, s0.2) := by unfold pV; rw [if_neg (by omega), if_neg (by omega), if_pos (by omega), hk, pSq_t (pTk_y hk)]
  refine g_aload_n dX1_readValue_0 rfl ?_
  refine g_getf fl1_12 hg rfl dX1_readValue_1 ?_
  refine g_getf fl1_41 hTT.1.1 rfl dX1_readValue_4 ?_
  rw [hk]
  refine g_astore_n dX1_readValue_7 (by decide) rfl ?_
  refine g_gets hK.2.2.2.1.1 wgX1_187 dX1_readValue_8 ?_
  refine g_aload_n dX1_readValue_11 rfl ?_
  refine g_ord kX1_193 hK (c := 15) (by omega) (Nat.le_of_ble_eq_true rfl) (by first | decide | exact Nat.le_add_left 1 _) (Nat.zero_le _) (Nat.zero_le _) dX1_readValue_12 ?_
  refine g_tald hK.2.2.2.1.2 (by omega) (by omega) dX1_readValue_15 ?_
  refine g_switch (116) 132 dX1_readValue_16 (by decide) (by decide) (by decide) (by decide) ?_
  refine g_aload_n dX1_readValue_132 rfl ?_
  refine g_aload_n dX1_readValue_133 rfl ?_
  refine g_callV0 kX1_63 (m1_take 15 (by decide) (by decide) hK hA hs1 hI0) hg rfl rfl rfl (Nat.le_of_ble_eq_true rfl) (by decide) (by show 2 + 1 ≤ d + 1; omega) (Nat.zero_le _) (Nat.zero_le _) dX1_readValue_134 ?_
  rintro v1 h2 z1 ⟨rfl, rfl, hI2, hO2⟩
  rw [pTk_y hk] at hI2 ⊢
  obtain ⟨fs2, hg2⟩ := hI2.gat
  refine g_if_eqB 173 dX1_readValue_137 (by decide) (fun c_137 => ?_) (fun c_137 => ?_)
  · exact Bool.noConfusion (show true = false from c_137)
  · refine g_aload_n dX1_readValue_140 rfl ?_
    refine g_gets (hK.1 17 (by decide)).1 wgX1_260 dX1_readValue_141 ?_
    refine g_callV0 kX1_63 (m1_take 17 (by decide) (by decide) hK hA p1.1 hI2) hg2 rfl rfl rfl (Nat.le_of_ble_eq_true rfl) (by decide) (by show 2 + 1 ≤ d + 1; omega) (Nat.zero_le _) (Nat.zero_le _) dX1_readValue_144 ?_
    rintro v1 h3 z1 ⟨rfl, rfl, hI3, hO3⟩
    obtain ⟨fs3, hg3⟩ := hI3.gat
    refine g_if_eqB 173 dX1_readValue_147 (by decide) (fun c_147 => ?_) (fun c_147 => ?_)
    · refine g_iconst (nI 0) dX1_readValue_173 (by decide) ?_
      exact g_iret hE rfl (hfin false _ _ _ _ hI3 (fun q => by cases q) (hO2.trans hO3) (by rw [hFF, pSq_n c_147])) dX1_readValue_174
    · have hk1 : tkk n f (s0.1 + 1) = 17 := pTk_1 c_147
      rw [pTk_y hk1] at hI3
      have p2 := PsOk.step p1 (Ps.tk hl2 (c := 17) (by decide)) (by decide) (by decide)
      rw [pTk_y hk1] at p2
      refine g_aload_n dX1_readValue_150 rfl ?_
      refine g_callV0 kX1_155 (m1_readInsultName 5 (Or.inr rfl) hK hA hn p2 hI3) hg3 rfl rfl rfl (Nat.le_of_ble_eq_true rfl) (by decide) (by show 4 + 1 ≤ d + 1; omega) (Nat.zero_le _) (Nat.zero_le _) dX1_readValue_151 ?_
      rintro v1 h4 z1 ⟨rfl, rfl, ⟨ir4, hI4, hir4⟩, hO4⟩
      obtain ⟨ep4, S4, gg4, hg4, -⟩ := id hI4
      refine g_if_eqB 173 dX1_readValue_154 (by decide) (fun c_154 => ?_) (fun c_154 => ?_)
      · refine g_iconst (nI 0) dX1_readValue_173 (by decide) ?_
        exact g_iret hE rfl (hfin false _ _ _ _ hI4 (fun q => by cases q) ((hO2.trans hO3).trans hO4) (by rw [hFF, pSq_t (pTk_y hk1)]; unfold pAb; rw [pSq_n c_154])) dX1_readValue_174
      · refine g_aload_n dX1_readValue_157 rfl ?_
        refine g_aload_n dX1_readValue_158 rfl ?_
        refine g_aload_n dX1_readValue_159 rfl ?_
        refine g_getf fl1_158 hg4 rfl dX1_readValue_160 ?_
        have hk2 : tkk n f (s0.1 + 2) = 2 := pNm_1 c_154
        rw [pNm_y hk2] at hI4
        have hir4 := hir4 c_154
        refine g_callV0 kX1_177 (m1_put 15 (s0.1 + 2) ir4 (by decide) hK hA (by show s0.2.1.length < 400; have := p2.1; have h9 : s0.1 + 2 ≤ tkl n f := this; omega) (fun _ => by rw [hir4]; show _ = (if _ then _ else _); rw [if_pos (Or.inl rfl)]; show _ = oI (fnd (seF n f (s0.2.2 ++ [(5, s0.1 + 2)])).1 _); rw [seF_name (Or.inr rfl)]) hI4) hg4 rfl rfl rfl (Nat.le_of_ble_eq_true rfl) (by decide) (by show 1 + 1 ≤ d + 1; omega) (Nat.zero_le _) (Nat.zero_le _) dX1_readValue_163 ?_
        rintro v1 h5 z1 ⟨rfl, rfl, hI5, hO5⟩
        refine g_if_eqB 173 dX1_readValue_166 (by decide) (fun c_166 => ?_) (fun c_166 => ?_)
        · exact absurd c_166 (by decide)
        · refine g_iconst (nI 1) dX1_readValue_169 (by decide) ?_
          refine g_goto 174 dX1_readValue_170 (by decide) ?_
          exact g_iret hE rfl (hfin true _ _ _ _ hI5 (fun _ => rfl) (((hO2.trans hO3).trans hO4).trans hO5) (by rw [hFF, pSq_t (pTk_y hk1)]; unfold pAb; rw [pSq_t (pNm_y hk2)]; rfl)) dX1_readValue_174
set_option maxRecDepth 100000 in
set_option maxHeartbeats 4000000 in
theorem m1_readValue_16 {X : gX} {K : gKo} {g p n d dp : Nat} {f : Nat → Int32} {lo : Option (PF × PF)} (h4 : 4 ≤ d) (hK : gCo X K) (hA : ApG g p) (hn : n ≤ 2000) (hL : LoV X K g p n f d dp lo) (h : gH) (z : Nat) (s0 : PSt) (ir0 : Int32) (W : gWo) (hs0 : PsOk n f s0) (hI0 : GrI X K h g p n f s0 dp ir0 W) (hk : tkk n f s0.1 = 16) : gM X yX1_readValue cX1_readValue 2 (some .boolean) (d + 1, 0, 0) [.ref g] h z (fun r h' z' => r = some (.int (b2i ((pV (tkk n f) (tku n f) lo) s0).1)) ∧ z' = z ∧ (∃ dp' ir', GrI X K h' g p n f ((pV (tkk n f) (tku n f) lo) s0).2 dp' ir' W ∧ (((pV (tkk n f) (tku n f) lo) s0).1 = true → dp' = dp)) ∧ OffG h h' g p) gNoX := by
  have hfin : ∀ (b : Bool) (h1 : gH) (s : PSt) (dp' : Nat) (ir : Int32), GrI X K h1 g p n f s dp' ir W → (b = true → dp' = dp) → OffG h h1 g p → (pV (tkk n f) (tku n f) lo) s0 = (b, s) → some (Value.int (b2i b)) = some (.int (b2i ((pV (tkk n f) (tku n f) lo) s0).1)) ∧ z = z ∧ (∃ dp' ir', GrI X K h1 g p n f ((pV (tkk n f) (tku n f) lo) s0).2 dp' ir' W ∧ (((pV (tkk n f) (tku n f) lo) s0).1 = true → dp' = dp)) ∧ OffG h h1 g p := by
    intro b h1 s dp' ir hI hdp hO hR
    rw [hR]
    exact ⟨rfl, rfl, ⟨dp', ir, hI, hdp⟩, hO⟩
  obtain ⟨hl1, hl2, hl3⟩ := tkl_spec n f
  obtain ⟨hd8, hl0, hlo⟩ := hL
  have hs1 := hs0.1
  have hs2 := hs0.2.1
  obtain ⟨ep, S, gg, hg, hep, hT, -⟩ := id hI0
  obtain ⟨kf, S1, T1, en, hTT, -⟩ := id hT
  refine gM.of px1 (Nat.le_of_ble_eq_true rfl) ?_
  intro F hE
  have hlt := tk_lt (n := n) (f := f) (t := s0.1) (by omega) hs1
  have p1 := hs0.step (Ps.tk hl2 (c := 16) (by decide)) (by decide) (by decide)
  rw [pTk_y hk] at p1
  have hFF : pV (tkk n f) (tku n f) lo s0 = pSq (pTk (tkk n f) 17) (pAb (tkk n f) 16) (s0.1 + 1, s0.2) := by unfold pV; rw [if_neg (by omega), if_neg (by omega), if_pos (by omega), hk, pSq_t (pTk_y hk)]
  refine g_aload_n dX1_readValue_0 rfl ?_
  refine g_getf fl1_12 hg rfl dX1_readValue_1 ?_
  refine g_getf fl1_41 hTT.1.1 rfl dX1_readValue_4 ?_
  rw [hk]
  refine g_astore_n dX1_readValue_7 (by decide) rfl ?_
  refine g_gets hK.2.2.2.1.1 wgX1_187 dX1_readValue_8 ?_
  refine g_aload_n dX1_readValue_11 rfl ?_
  refine g_ord kX1_193 hK (c := 16) (by omega) (Nat.le_of_ble_eq_true rfl) (by first | decide | exact Nat.le_add_left 1 _) (Nat.zero_le _) (Nat.zero_le _) dX1_readValue_12 ?_
  refine g_tald hK.2.2.2.1.2 (by omega) (by omega) dX1_readValue_15 ?_
  refine g_switch (116) 132 dX1_readValue_16 (by decide) (by decide) (by decide) (by decide) ?_
  refine g_aload_n dX1_readValue_132 rfl ?_
  refine g_aload_n dX1_readValue_133 rfl ?_
  refine g_callV0 kX1_63 (m1_take 16 (by decide) (by decide) hK hA hs1 hI0) hg rfl rfl rfl (Nat.le_of_ble_eq_true rfl) (by decide) (by show 2 + 1 ≤ d + 1; omega) (Nat.zero_le _) (Nat.zero_le _) dX1_readValue_134 ?_
  rintro v1 h2 z1 ⟨rfl, rfl, hI2, hO2⟩
  rw [pTk_y hk] at hI2 ⊢
  obtain ⟨fs2, hg2⟩ := hI2.gat
  refine g_if_eqB 173 dX1_readValue_137 (by decide) (fun c_137 => ?_) (fun c_137 => ?_)
  · exact Bool.noConfusion (show true = false from c_137)
  · refine g_aload_n dX1_readValue_140 rfl ?_
    refine g_gets (hK.1 17 (by decide)).1 wgX1_260 dX1_readValue_141 ?_
    refine g_callV0 kX1_63 (m1_take 17 (by decide) (by decide) hK hA p1.1 hI2) hg2 rfl rfl rfl (Nat.le_of_ble_eq_true rfl) (by decide) (by show 2 + 1 ≤ d + 1; omega) (Nat.zero_le _) (Nat.zero_le _) dX1_readValue_144 ?_
    rintro v1 h3 z1 ⟨rfl, rfl, hI3, hO3⟩
    obtain ⟨fs3, hg3⟩ := hI3.gat
    refine g_if_eqB 173 dX1_readValue_147 (by decide) (fun c_147 => ?_) (fun c_147 => ?_)
    · refine g_iconst (nI 0) dX1_readValue_173 (by decide) ?_
      exact g_iret hE rfl (hfin false _ _ _ _ hI3 (fun q => by cases q) (hO2.trans hO3) (by rw [hFF, pSq_n c_147])) dX1_readValue_174
    · have hk1 : tkk n f (s0.1 + 1) = 17 := pTk_1 c_147
      rw [pTk_y hk1] at hI3
      have p2 := PsOk.step p1 (Ps.tk hl2 (c := 17) (by decide)) (by decide) (by decide)
      rw [pTk_y hk1] at p2
      refine g_aload_n dX1_readValue_150 rfl ?_
      refine g_callV0 kX1_155 (m1_readInsultName 5 (Or.inr rfl) hK hA hn p2 hI3) hg3 rfl rfl rfl (Nat.le_of_ble_eq_true rfl) (by decide) (by show 4 + 1 ≤ d + 1; omega) (Nat.zero_le _) (Nat.zero_le _) dX1_readValue_151 ?_
      rintro v1 h4 z1 ⟨rfl, rfl, ⟨ir4, hI4, hir4⟩, hO4⟩
      obtain ⟨ep4, S4, gg4, hg4, -⟩ := id hI4
      refine g_if_eqB 173 dX1_readValue_154 (by decide) (fun c_154 => ?_) (fun c_154 => ?_)
      · refine g_iconst (nI 0) dX1_readValue_173 (by decide) ?_
        exact g_iret hE rfl (hfin false _ _ _ _ hI4 (fun q => by cases q) ((hO2.trans hO3).trans hO4) (by rw [hFF, pSq_t (pTk_y hk1)]; unfold pAb; rw [pSq_n c_154])) dX1_readValue_174
      · refine g_aload_n dX1_readValue_157 rfl ?_
        refine g_aload_n dX1_readValue_158 rfl ?_
        refine g_aload_n dX1_readValue_159 rfl ?_
        refine g_getf fl1_158 hg4 rfl dX1_readValue_160 ?_
        have hk2 : tkk n f (s0.1 + 2) = 2 := pNm_1 c_154
        rw [pNm_y hk2] at hI4
        have hir4 := hir4 c_154
        refine g_callV0 kX1_177 (m1_put 16 (s0.1 + 2) ir4 (by decide) hK hA (by show s0.2.1.length < 400; have := p2.1; have h9 : s0.1 + 2 ≤ tkl n f := this; omega) (fun _ => by rw [hir4]; show _ = (if _ then _ else _); rw [if_pos (Or.inr (Or.inl rfl))]; show _ = oI (fnd (seF n f (s0.2.2 ++ [(5, s0.1 + 2)])).1 _); rw [seF_name (Or.inr rfl)]) hI4) hg4 rfl rfl rfl (Nat.le_of_ble_eq_true rfl) (by decide) (by show 1 + 1 ≤ d + 1; omega) (Nat.zero_le _) (Nat.zero_le _) dX1_readValue_163 ?_
        rintro v1 h5 z1 ⟨rfl, rfl, hI5, hO5⟩
        refine g_if_eqB 173 dX1_readValue_166 (by decide) (fun c_166 => ?_) (fun c_166 => ?_)
        · exact absurd c_166 (by decide)
        · refine g_iconst (nI 1) dX1_readValue_169 (by decide) ?_
          refine g_goto 174 dX1_readValue_170 (by decide) ?_
          exact g_iret hE rfl (hfin true _ _ _ _ hI5 (fun _ => rfl) (((hO2.trans hO3).trans hO4).trans hO5) (by rw [hFF, pSq_t (pTk_y hk1)]; unfold pAb; rw [pSq_t (pNm_y hk2)]; rfl)) dX1_readValue_174
set_option maxRecDepth 100000 in
set_option maxHeartbeats 4000000 in
theorem m1_readValue_31 {X : gX} {K : gKo} {g p n d dp : Nat} {f : Nat → Int32} {lo : Option (PF × PF)} (h4 : 4 ≤ d) (hK : gCo X K) (hA : ApG g p) (hn : n ≤ 2000) (hL : LoV X K g p n f d dp lo) (h : gH) (z : Nat) (s0 : PSt) (ir0 : Int32) (W : gWo) (hs0 : PsOk n f s0) (hI0 : GrI X K h g p n f s0 dp ir0 W) (hk : tkk n f s0.1 = 31) : gM X yX1_readValue cX1_readValue 2 (some .boolean) (d + 1, 0, 0) [.ref g] h z (fun r h' z' => r = some (.int (b2i ((pV (tkk n f) (tku n f) lo) s0).1)) ∧ z' = z ∧ (∃ dp' ir', GrI X K h' g p n f ((pV (tkk n f) (tku n f) lo) s0).2 dp' ir' W ∧ (((pV (tkk n f) (tku n f) lo) s0).1 = true → dp' = dp)) ∧ OffG h h' g p) gNoX := by
  have hfin : ∀ (b : Bool) (h1 : gH) (s : PSt) (dp' : Nat) (ir : Int32), GrI X K h1 g p n f s dp' ir W → (b = true → dp' = dp) → OffG h h1 g p → (pV (tkk n f) (tku n f) lo) s0 = (b, s) → some (Value.int (b2i b)) = some (.int (b2i ((pV (tkk n f) (tku n f) lo) s0).1)) ∧ z = z ∧ (∃ dp' ir', GrI X K h1 g p n f ((pV (tkk n f) (tku n f) lo) s0).2 dp' ir' W ∧ (((pV (tkk n f) (tku n f) lo) s0).1 = true → dp' = dp)) ∧ OffG h h1 g p := by
    intro b h1 s dp' ir hI hdp hO hR
    rw [hR]
    exact ⟨rfl, rfl, ⟨dp', ir, hI, hdp⟩, hO⟩
  obtain ⟨hl1, hl2, hl3⟩ := tkl_spec n f
  obtain ⟨hd8, hl0, hlo⟩ := hL
  have hs1 := hs0.1
  have hs2 := hs0.2.1
  obtain ⟨ep, S, gg, hg, hep, hT, -⟩ := id hI0
  obtain ⟨kf, S1, T1, en, hTT, -⟩ := id hT
  refine gM.of px1 (Nat.le_of_ble_eq_true rfl) ?_
  intro F hE
  have p1 := hs0.step (Ps.tk hl2 (c := 31) (by decide)) (by decide) (by decide)
  rw [pTk_y hk] at p1
  refine g_aload_n dX1_readValue_0 rfl ?_
  refine g_getf fl1_12 hg rfl dX1_readValue_1 ?_
  refine g_getf fl1_41 hTT.1.1 rfl dX1_readValue_4 ?_
  rw [hk]
  refine g_astore_n dX1_readValue_7 (by decide) rfl ?_
  refine g_gets hK.2.2.2.1.1 wgX1_187 dX1_readValue_8 ?_
  refine g_aload_n dX1_readValue_11 rfl ?_
  refine g_ord kX1_193 hK (c := 31) (by omega) (Nat.le_of_ble_eq_true rfl) (by first | decide | exact Nat.le_add_left 1 _) (Nat.zero_le _) (Nat.zero_le _) dX1_readValue_12 ?_
  refine g_tald hK.2.2.2.1.2 (by omega) (by omega) dX1_readValue_15 ?_
  refine g_switch (159) 175 dX1_readValue_16 (by decide) (by decide) (by decide) (by decide) ?_
  refine g_aload_n dX1_readValue_175 rfl ?_
  refine g_gets (hK.1 31 (by decide)).1 wgX1_242 dX1_readValue_176 ?_
  refine g_callV0 kX1_200 (m1_takeDeeper 31 (by decide) (by decide) hK hA hs1 hd8 hI0) hg rfl rfl rfl (Nat.le_of_ble_eq_true rfl) (by decide) (by show 3 + 1 ≤ d + 1; omega) (Nat.zero_le _) (Nat.zero_le _) dX1_readValue_179 ?_
  rintro v1 h2 z1 ⟨rfl, hO2, hcs⟩
  rcases hcs with ⟨e8, rfl, hI2⟩ | ⟨e8, eb, rfl, hI2⟩ | ⟨e8, eb, rfl, hI2⟩
  · have hno : lo = none := by
      cases hh : lo with
      | none => rfl
      | some q => exact absurd (hlo q hh).1 (by omega)
    subst hno
    refine g_if_eqB 214 dX1_readValue_182 (by decide) (fun _ => ?_) (fun q => absurd q (by decide))
    refine g_iconst (nI 0) dX1_readValue_214 (by decide) ?_
    exact g_iret hE rfl (hfin false _ _ _ _ hI2 (fun q => by cases q) hO2 (by unfold pV; rw [if_neg (by omega), if_neg (by omega), if_neg (by omega)]; exact if_neg (by omega))) dX1_readValue_215
  · exact Bool.noConfusion (show true = false from by rw [pTk_y hk] at eb; exact eb)
  · cases hh : lo with
    | none => exact absurd (hl0 hh) (by omega)
    | some q =>
      subst hh
      obtain ⟨-, ⟨d1, hd1, hv⟩, hu, ⟨kv, hPv⟩, ku, hPu⟩ := hlo q rfl
      rw [pTk_y hk] at hI2
      obtain ⟨fs2, hg2⟩ := hI2.gat
      have q1 := fun w => ((PsOk.op hs0 hk (by decide) (by decide) hPv).2.2 w).1
      refine g_if_eqB 214 dX1_readValue_182 (by decide) (fun c_182 => ?_) (fun c_182 => ?_)
      · exact absurd c_182 (by decide)
      · refine g_aload_n dX1_readValue_185 rfl ?_
        refine g_callV0 kX1_245 (hv _ _ _ _ _ p1 hI2) hg2 rfl rfl rfl (Nat.le_of_ble_eq_true rfl) (by decide) (by show d1 + 1 ≤ d + 1; omega) (Nat.zero_le _) (Nat.zero_le _) dX1_readValue_186 ?_
        rintro v1 h3 z1 ⟨rfl, rfl, ⟨dp3, ir3, hI3, hdp3⟩, hO3⟩
        obtain ⟨fs3, hg3⟩ := hI3.gat
        refine g_if_eqB 214 dX1_readValue_189 (by decide) (fun c_189 => ?_) (fun c_189 => ?_)
        · refine g_iconst (nI 0) dX1_readValue_214 (by decide) ?_
          exact g_iret hE rfl (hfin false _ _ _ _ hI3 (fun q => by cases q) (hO2.trans hO3) (by unfold pV; rw [if_neg (by omega), if_neg (by omega), if_neg (by omega)]; refine (if_pos hk).trans ?_; rw [pSq_t (pTk_y hk), pSq_n c_189])) dX1_readValue_215
        · refine g_aload_n dX1_readValue_192 rfl ?_
          have hdp3 := hdp3 c_189
          subst hdp3
          refine g_callV0 kX1_203 (m1_rise hA hI3) hg3 rfl rfl rfl (Nat.le_of_ble_eq_true rfl) (by decide) (by show 0 + 1 ≤ d + 1; omega) (Nat.zero_le _) (Nat.zero_le _) dX1_readValue_193 ?_
          rintro v1 h4 z1 ⟨rfl, rfl, hI4, hO4⟩
          obtain ⟨fs4, hg4⟩ := hI4.gat
          refine g_if_eqB 214 dX1_readValue_196 (by decide) (fun c_196 => ?_) (fun c_196 => ?_)
          · exact absurd c_196 (by decide)
          · refine g_aload_n dX1_readValue_199 rfl ?_
            refine g_gets (hK.1 4 (by decide)).1 wgX1_263 dX1_readValue_200 ?_
            refine g_iconst (nI 0) dX1_readValue_203 (by decide) ?_
            refine g_callV0 kX1_177 (m1_put 4 0 (nI 0) (by decide) hK hA (q1 c_189) (fun _ => rfl) hI4) hg4 rfl rfl rfl (Nat.le_of_ble_eq_true rfl) (by decide) (by show 1 + 1 ≤ d + 1; omega) (Nat.zero_le _) (Nat.zero_le _) dX1_readValue_204 ?_
            rintro v1 h5 z1 ⟨rfl, rfl, hI5, hO5⟩
            refine g_if_eqB 214 dX1_readValue_207 (by decide) (fun c_207 => ?_) (fun c_207 => ?_)
            · exact absurd c_207 (by decide)
            · refine g_iconst (nI 1) dX1_readValue_210 (by decide) ?_
              refine g_goto 215 dX1_readValue_211 (by decide) ?_
              exact g_iret hE rfl (hfin true _ _ _ _ hI5 (fun _ => rfl) (((hO2.trans hO3).trans hO4).trans hO5) (by unfold pV; rw [if_neg (by omega), if_neg (by omega), if_neg (by omega)]; refine (if_pos hk).trans ?_; rw [pSq_t (pTk_y hk), pSq_y c_189]; rfl)) dX1_readValue_215
set_option maxRecDepth 100000 in
set_option maxHeartbeats 4000000 in
theorem m1_readValue_24 {X : gX} {K : gKo} {g p n d dp : Nat} {f : Nat → Int32} {lo : Option (PF × PF)} (h4 : 4 ≤ d) (hK : gCo X K) (hA : ApG g p) (hn : n ≤ 2000) (hL : LoV X K g p n f d dp lo) (h : gH) (z : Nat) (s0 : PSt) (ir0 : Int32) (W : gWo) (hs0 : PsOk n f s0) (hI0 : GrI X K h g p n f s0 dp ir0 W) (hk : tkk n f s0.1 = 24) : gM X yX1_readValue cX1_readValue 2 (some .boolean) (d + 1, 0, 0) [.ref g] h z (fun r h' z' => r = some (.int (b2i ((pV (tkk n f) (tku n f) lo) s0).1)) ∧ z' = z ∧ (∃ dp' ir', GrI X K h' g p n f ((pV (tkk n f) (tku n f) lo) s0).2 dp' ir' W ∧ (((pV (tkk n f) (tku n f) lo) s0).1 = true → dp' = dp)) ∧ OffG h h' g p) gNoX := by
  have hfin : ∀ (b : Bool) (h1 : gH) (s : PSt) (dp' : Nat) (ir : Int32), GrI X K h1 g p n f s dp' ir W → (b = true → dp' = dp) → OffG h h1 g p → (pV (tkk n f) (tku n f) lo) s0 = (b, s) → some (Value.int (b2i b)) = some (.int (b2i ((pV (tkk n f) (tku n f) lo) s0).1)) ∧ z = z ∧ (∃ dp' ir', GrI X K h1 g p n f ((pV (tkk n f) (tku n f) lo) s0).2 dp' ir' W ∧ (((pV (tkk n f) (tku n f) lo) s0).1 = true → dp' = dp)) ∧ OffG h h1 g p := by
    intro b h1 s dp' ir hI hdp hO hR
    rw [hR]
    exact ⟨rfl, rfl, ⟨dp', ir, hI, hdp⟩, hO⟩
  obtain ⟨hl1, hl2, hl3⟩ := tkl_spec n f
  obtain ⟨hd8, hl0, hlo⟩ := hL
  have hs1 := hs0.1
  have hs2 := hs0.2.1
  obtain ⟨ep, S, gg, hg, hep, hT, -⟩ := id hI0
  obtain ⟨kf, S1, T1, en, hTT, -⟩ := id hT
  refine gM.of px1 (Nat.le_of_ble_eq_true rfl) ?_
  intro F hE
  have p1 := hs0.step (Ps.tk hl2 (c := 24) (by decide)) (by decide) (by decide)
  rw [pTk_y hk] at p1
  refine g_aload_n dX1_readValue_0 rfl ?_
  refine g_getf fl1_12 hg rfl dX1_readValue_1 ?_
  refine g_getf fl1_41 hTT.1.1 rfl dX1_readValue_4 ?_
  rw [hk]
  refine g_astore_n dX1_readValue_7 (by decide) rfl ?_
  refine g_gets hK.2.2.2.1.1 wgX1_187 dX1_readValue_8 ?_
  refine g_aload_n dX1_readValue_11 rfl ?_
  refine g_ord kX1_193 hK (c := 24) (by omega) (Nat.le_of_ble_eq_true rfl) (by first | decide | exact Nat.le_add_left 1 _) (Nat.zero_le _) (Nat.zero_le _) dX1_readValue_12 ?_
  refine g_tald hK.2.2.2.1.2 (by omega) (by omega) dX1_readValue_15 ?_
  refine g_switch (200) 216 dX1_readValue_16 (by decide) (by decide) (by decide) (by decide) ?_
  refine g_aload_n dX1_readValue_216 rfl ?_
  refine g_gets (hK.1 24 (by decide)).1 wgX1_266 dX1_readValue_217 ?_
  refine g_callV0 kX1_200 (m1_takeDeeper 24 (by decide) (by decide) hK hA hs1 hd8 hI0) hg rfl rfl rfl (Nat.le_of_ble_eq_true rfl) (by decide) (by show 3 + 1 ≤ d + 1; omega) (Nat.zero_le _) (Nat.zero_le _) dX1_readValue_220 ?_
  rintro v1 h2 z1 ⟨rfl, hO2, hcs⟩
  rcases hcs with ⟨e8, rfl, hI2⟩ | ⟨e8, eb, rfl, hI2⟩ | ⟨e8, eb, rfl, hI2⟩
  · have hno : lo = none := by
      cases hh : lo with
      | none => rfl
      | some q => exact absurd (hlo q hh).1 (by omega)
    subst hno
    refine g_if_eqB 254 dX1_readValue_223 (by decide) (fun _ => ?_) (fun q => absurd q (by decide))
    refine g_iconst (nI 0) dX1_readValue_254 (by decide) ?_
    exact g_iret hE rfl (hfin false _ _ _ _ hI2 (fun q => by cases q) hO2 (by unfold pV; rw [if_neg (by omega), if_neg (by omega), if_neg (by omega)]; exact if_neg (by omega))) dX1_readValue_255
  · exact Bool.noConfusion (show true = false from by rw [pTk_y hk] at eb; exact eb)
  · cases hh : lo with
    | none => exact absurd (hl0 hh) (by omega)
    | some q =>
      subst hh
      obtain ⟨-, ⟨d1, hd1, hv⟩, hu, ⟨kv, hPv⟩, ku, hPu⟩ := hlo q rfl
      rw [pTk_y hk] at hI2
      obtain ⟨fs2, hg2⟩ := hI2.gat
      have p2 := PsOk.step p1 hPu (by decide) (by decide)
      refine g_if_eqB 254 dX1_readValue_223 (by decide) (fun c_223 => ?_) (fun c_223 => ?_)
      · exact absurd c_223 (by decide)
      · refine g_aload_n dX1_readValue_226 rfl ?_
        refine g_callV0 kX1_164 (hu _ _ _ _ _ p1 hI2) hg2 rfl rfl rfl (Nat.le_of_ble_eq_true rfl) (by decide) (by show d + 1 ≤ d + 1; omega) (Nat.zero_le _) (Nat.zero_le _) dX1_readValue_227 ?_
        rintro v1 h3 z1 ⟨rfl, rfl, ⟨dp3, ir3, hI3, hdp3⟩, hO3⟩
        obtain ⟨fs3, hg3⟩ := hI3.gat
        refine g_if_eqB 254 dX1_readValue_230 (by decide) (fun c_230 => ?_) (fun c_230 => ?_)
        · refine g_iconst (nI 0) dX1_readValue_254 (by decide) ?_
          exact g_iret hE rfl (hfin false _ _ _ _ hI3 (fun q => by cases q) (hO2.trans hO3) (by unfold pV; rw [if_neg (by omega), if_neg (by omega), if_neg (by omega)]; refine (if_neg (by omega)).trans ((if_pos hk).trans ?_); rw [pSq_t (pTk_y hk), pSq_n c_230])) dX1_readValue_255
        · refine g_aload_n dX1_readValue_233 rfl ?_
          have hdp3 := hdp3 c_230
          subst hdp3
          refine g_callV0 kX1_203 (m1_rise hA hI3) hg3 rfl rfl rfl (Nat.le_of_ble_eq_true rfl) (by decide) (by show 0 + 1 ≤ d + 1; omega) (Nat.zero_le _) (Nat.zero_le _) dX1_readValue_234 ?_
          rintro v1 h4 z1 ⟨rfl, rfl, hI4, hO4⟩
          obtain ⟨fs4, hg4⟩ := hI4.gat
          refine g_if_eqB 254 dX1_readValue_237 (by decide) (fun c_237 => ?_) (fun c_237 => ?_)
          · exact absurd c_237 (by decide)
          · refine g_aload_n dX1_readValue_240 rfl ?_
            refine g_gets (hK.1 25 (by decide)).1 wgX1_269 dX1_readValue_241 ?_
            refine g_callV0 kX1_63 (m1_take 25 (by decide) (by decide) hK hA p2.1 hI4) hg4 rfl rfl rfl (Nat.le_of_ble_eq_true rfl) (by decide) (by show 2 + 1 ≤ d + 1; omega) (Nat.zero_le _) (Nat.zero_le _) dX1_readValue_244 ?_
            rintro v1 h5 z1 ⟨rfl, rfl, hI5, hO5⟩
            refine g_if_eqB 254 dX1_readValue_247 (by decide) (fun c_247 => ?_) (fun c_247 => ?_)
            · refine g_iconst (nI 0) dX1_readValue_254 (by decide) ?_
              exact g_iret hE rfl (hfin false _ _ _ _ hI5 (fun q => by cases q) (((hO2.trans hO3).trans hO4).trans hO5) (by unfold pV; rw [if_neg (by omega), if_neg (by omega), if_neg (by omega)]; refine (if_neg (by omega)).trans ((if_pos hk).trans ?_); rw [pSq_t (pTk_y hk), pSq_y c_230]; exact Prod.ext c_247 rfl)) dX1_readValue_255
            · refine g_iconst (nI 1) dX1_readValue_250 (by decide) ?_
              refine g_goto 255 dX1_readValue_251 (by decide) ?_
              exact g_iret hE rfl (hfin true _ _ _ _ hI5 (fun _ => rfl) (((hO2.trans hO3).trans hO4).trans hO5) (by unfold pV; rw [if_neg (by omega), if_neg (by omega), if_neg (by omega)]; refine (if_neg (by omega)).trans ((if_pos hk).trans ?_); rw [pSq_t (pTk_y hk), pSq_y c_230]; exact Prod.ext c_247 rfl)) dX1_readValue_255
set_option maxRecDepth 100000 in
set_option maxHeartbeats 4000000 in
theorem m1_readValue_22 {X : gX} {K : gKo} {g p n d dp : Nat} {f : Nat → Int32} {lo : Option (PF × PF)} (h4 : 4 ≤ d) (hK : gCo X K) (hA : ApG g p) (hn : n ≤ 2000) (hL : LoV X K g p n f d dp lo) (h : gH) (z : Nat) (s0 : PSt) (ir0 : Int32) (W : gWo) (hs0 : PsOk n f s0) (hI0 : GrI X K h g p n f s0 dp ir0 W) (hk : tkk n f s0.1 = 22) : gM X yX1_readValue cX1_readValue 2 (some .boolean) (d + 1, 0, 0) [.ref g] h z (fun r h' z' => r = some (.int (b2i ((pV (tkk n f) (tku n f) lo) s0).1)) ∧ z' = z ∧ (∃ dp' ir', GrI X K h' g p n f ((pV (tkk n f) (tku n f) lo) s0).2 dp' ir' W ∧ (((pV (tkk n f) (tku n f) lo) s0).1 = true → dp' = dp)) ∧ OffG h h' g p) gNoX := by
  have hfin : ∀ (b : Bool) (h1 : gH) (s : PSt) (dp' : Nat) (ir : Int32), GrI X K h1 g p n f s dp' ir W → (b = true → dp' = dp) → OffG h h1 g p → (pV (tkk n f) (tku n f) lo) s0 = (b, s) → some (Value.int (b2i b)) = some (.int (b2i ((pV (tkk n f) (tku n f) lo) s0).1)) ∧ z = z ∧ (∃ dp' ir', GrI X K h1 g p n f ((pV (tkk n f) (tku n f) lo) s0).2 dp' ir' W ∧ (((pV (tkk n f) (tku n f) lo) s0).1 = true → dp' = dp)) ∧ OffG h h1 g p := by
    intro b h1 s dp' ir hI hdp hO hR
    rw [hR]
    exact ⟨rfl, rfl, ⟨dp', ir, hI, hdp⟩, hO⟩
  obtain ⟨hl1, hl2, hl3⟩ := tkl_spec n f
  obtain ⟨hd8, hl0, hlo⟩ := hL
  have hs1 := hs0.1
  have hs2 := hs0.2.1
  obtain ⟨ep, S, gg, hg, hep, hT, -⟩ := id hI0
  obtain ⟨kf, S1, T1, en, hTT, -⟩ := id hT
  refine gM.of px1 (Nat.le_of_ble_eq_true rfl) ?_
  intro F hE
  have p1 := hs0.step (Ps.tk hl2 (c := 22) (by decide)) (by decide) (by decide)
  rw [pTk_y hk] at p1
  refine g_aload_n dX1_readValue_0 rfl ?_
  refine g_getf fl1_12 hg rfl dX1_readValue_1 ?_
  refine g_getf fl1_41 hTT.1.1 rfl dX1_readValue_4 ?_
  rw [hk]
  refine g_astore_n dX1_readValue_7 (by decide) rfl ?_
  refine g_gets hK.2.2.2.1.1 wgX1_187 dX1_readValue_8 ?_
  refine g_aload_n dX1_readValue_11 rfl ?_
  refine g_ord kX1_193 hK (c := 22) (by omega) (Nat.le_of_ble_eq_true rfl) (by first | decide | exact Nat.le_add_left 1 _) (Nat.zero_le _) (Nat.zero_le _) dX1_readValue_12 ?_
  refine g_tald hK.2.2.2.1.2 (by omega) (by omega) dX1_readValue_15 ?_
  refine g_switch (240) 256 dX1_readValue_16 (by decide) (by decide) (by decide) (by decide) ?_
  refine g_aload_n dX1_readValue_256 rfl ?_
  refine g_aload_n dX1_readValue_257 rfl ?_
  refine g_callV0 kX1_63 (m1_take 22 (by decide) (by decide) hK hA hs1 hI0) hg rfl rfl rfl (Nat.le_of_ble_eq_true rfl) (by decide) (by show 2 + 1 ≤ d + 1; omega) (Nat.zero_le _) (Nat.zero_le _) dX1_readValue_258 ?_
  rintro v1 h1 z1 ⟨rfl, rfl, hI1, hO1⟩
  rw [pTk_y hk] at hI1 ⊢
  obtain ⟨fs1, hg1⟩ := hI1.gat
  refine g_if_eqB 328 dX1_readValue_261 (by decide) (fun c_261 => ?_) (fun c_261 => ?_)
  · exact Bool.noConfusion (show true = false from c_261)
  · refine g_aload_n dX1_readValue_264 rfl ?_
    refine g_gets (hK.1 24 (by decide)).1 wgX1_266 dX1_readValue_265 ?_
    refine g_callV0 kX1_200 (m1_takeDeeper 24 (by decide) (by decide) hK hA p1.1 hd8 hI1) hg1 rfl rfl rfl (Nat.le_of_ble_eq_true rfl) (by decide) (by show 3 + 1 ≤ d + 1; omega) (Nat.zero_le _) (Nat.zero_le _) dX1_readValue_268 ?_
    rintro v1 h2 z1 ⟨rfl, hO2, hcs⟩
    have hO2 := hO1.trans hO2
    rcases hcs with ⟨e8, rfl, hI2⟩ | ⟨e8, eb, rfl, hI2⟩ | ⟨e8, eb, rfl, hI2⟩
    · have hno : lo = none := by
        cases hh : lo with
        | none => rfl
        | some q => exact absurd (hlo q hh).1 (by omega)
      subst hno
      refine g_if_eqB 328 dX1_readValue_271 (by decide) (fun _ => ?_) (fun q => absurd q (by decide))
      refine g_iconst (nI 0) dX1_readValue_328 (by decide) ?_
      exact g_iret hE rfl (hfin false _ _ _ _ hI2 (fun q => by cases q) hO2 (by unfold pV; rw [if_neg (by omega), if_neg (by omega), if_neg (by omega)]; refine (if_pos (by omega)).trans ?_; rw [hk, pSq_t (pTk_y hk)]; rfl)) dX1_readValue_329
    · cases hh : lo with
      | none => exact absurd (hl0 hh) (by omega)
      | some q =>
        subst hh
        refine g_if_eqB 328 dX1_readValue_271 (by decide) (fun _ => ?_) (fun q => absurd q (by decide))
        refine g_iconst (nI 0) dX1_readValue_328 (by decide) ?_
        exact g_iret hE rfl (hfin false _ _ _ _ hI2 (fun q => by cases q) hO2 (by unfold pV; rw [if_neg (by omega), if_neg (by omega), if_neg (by omega)]; refine (if_neg (by omega)).trans ((if_neg (by omega)).trans ((if_pos (by omega)).trans ?_)); rw [hk, pSq_t (pTk_y hk), pSq_n eb])) dX1_readValue_329
    · have eb := pTk_1 eb
      rw [pTk_y eb] at hI2
      cases hh : lo with
      | none => exact absurd (hl0 hh) (by omega)
      | some q =>
        subst hh
        obtain ⟨-, ⟨d1, hd1, hv⟩, hu, ⟨kv, hPv⟩, ku, hPu⟩ := hlo q rfl
        obtain ⟨fs2, hg2⟩ := hI2.gat
        have p2 := PsOk.step p1 (Ps.tk hl2 (c := 24) (by decide)) (by decide) (by decide)
        rw [pTk_y eb] at p2
        have p3 := PsOk.step p2 hPu (by decide) (by decide)
        refine g_if_eqB 328 dX1_readValue_271 (by decide) (fun c_271 => ?_) (fun c_271 => ?_)
        · exact absurd c_271 (by decide)
        · refine g_aload_n dX1_readValue_274 rfl ?_
          refine g_callV0 kX1_164 (hu _ _ _ _ _ p2 hI2) hg2 rfl rfl rfl (Nat.le_of_ble_eq_true rfl) (by decide) (by show d + 1 ≤ d + 1; omega) (Nat.zero_le _) (Nat.zero_le _) dX1_readValue_275 ?_
          rintro v1 h3 z1 ⟨rfl, rfl, ⟨dp3, ir3, hI3, hdp3⟩, hO3⟩
          obtain ⟨fs3, hg3⟩ := hI3.gat
          refine g_if_eqB 328 dX1_readValue_278 (by decide) (fun c_278 => ?_) (fun c_278 => ?_)
          · refine g_iconst (nI 0) dX1_readValue_328 (by decide) ?_
            exact g_iret hE rfl (hfin false _ _ _ _ hI3 (fun q => by cases q) (hO2.trans hO3) (by unfold pV; rw [if_neg (by omega), if_neg (by omega), if_neg (by omega)]; refine (if_neg (by omega)).trans ((if_neg (by omega)).trans ((if_pos (by omega)).trans ?_)); rw [hk, pSq_t (pTk_y hk), pSq_t (pTk_y eb), pSq_n c_278])) dX1_readValue_329
          · refine g_aload_n dX1_readValue_281 rfl ?_
            refine g_gets (hK.1 29 (by decide)).1 wgX1_272 dX1_readValue_282 ?_
            have hdp3 := hdp3 c_278
            subst hdp3
            refine g_callV0 kX1_63 (m1_take 29 (by decide) (by decide) hK hA p3.1 hI3) hg3 rfl rfl rfl (Nat.le_of_ble_eq_true rfl) (by decide) (by show 2 + 1 ≤ d + 1; omega) (Nat.zero_le _) (Nat.zero_le _) dX1_readValue_285 ?_
            rintro v1 h4 z1 ⟨rfl, rfl, hI4, hO4⟩
            obtain ⟨fs4, hg4⟩ := hI4.gat
            refine g_if_eqB 328 dX1_readValue_288 (by decide) (fun c_288 => ?_) (fun c_288 => ?_)
            · refine g_iconst (nI 0) dX1_readValue_328 (by decide) ?_
              exact g_iret hE rfl (hfin false _ _ _ _ hI4 (fun q => by cases q) ((hO2.trans hO3).trans hO4) (by unfold pV; rw [if_neg (by omega), if_neg (by omega), if_neg (by omega)]; refine (if_neg (by omega)).trans ((if_neg (by omega)).trans ((if_pos (by omega)).trans ?_)); rw [hk, pSq_t (pTk_y hk), pSq_t (pTk_y eb), pSq_y c_278, pSq_n c_288])) dX1_readValue_329
            · refine g_aload_n dX1_readValue_291 rfl ?_
              have k4 := pTk_1 c_288
              rw [pTk_y k4] at hI4
              have p4 := PsOk.step p3 (Ps.tk hl2 (c := 29) (by decide)) (by decide) (by decide)
              rw [pTk_y k4] at p4
              have p5 := PsOk.step p4 hPu (by decide) (by decide)
              refine g_callV0 kX1_164 (hu _ _ _ _ _ p4 hI4) hg4 rfl rfl rfl (Nat.le_of_ble_eq_true rfl) (by decide) (by show d + 1 ≤ d + 1; omega) (Nat.zero_le _) (Nat.zero_le _) dX1_readValue_292 ?_
              rintro v1 h5 z1 ⟨rfl, rfl, ⟨dp5, ir5, hI5, hdp5⟩, hO5⟩
              obtain ⟨fs5, hg5⟩ := hI5.gat
              refine g_if_eqB 328 dX1_readValue_295 (by decide) (fun c_295 => ?_) (fun c_295 => ?_)
              · refine g_iconst (nI 0) dX1_readValue_328 (by decide) ?_
                exact g_iret hE rfl (hfin false _ _ _ _ hI5 (fun q => by cases q) (((hO2.trans hO3).trans hO4).trans hO5) (by unfold pV; rw [if_neg (by omega), if_neg (by omega), if_neg (by omega)]; refine (if_neg (by omega)).trans ((if_neg (by omega)).trans ((if_pos (by omega)).trans ?_)); rw [hk, pSq_t (pTk_y hk), pSq_t (pTk_y eb), pSq_y c_278, pSq_t (pTk_y k4), pSq_n c_295])) dX1_readValue_329
              · refine g_aload_n dX1_readValue_298 rfl ?_
                have hdp5 := hdp5 c_295
                subst hdp5
                refine g_callV0 kX1_203 (m1_rise hA hI5) hg5 rfl rfl rfl (Nat.le_of_ble_eq_true rfl) (by decide) (by show 0 + 1 ≤ d + 1; omega) (Nat.zero_le _) (Nat.zero_le _) dX1_readValue_299 ?_
                rintro v1 h6 z1 ⟨rfl, rfl, hI6, hO6⟩
                obtain ⟨fs6, hg6⟩ := hI6.gat
                refine g_if_eqB 328 dX1_readValue_302 (by decide) (fun c_302 => ?_) (fun c_302 => ?_)
                · exact absurd c_302 (by decide)
                · refine g_aload_n dX1_readValue_305 rfl ?_
                  refine g_gets (hK.1 25 (by decide)).1 wgX1_269 dX1_readValue_306 ?_
                  refine g_callV0 kX1_63 (m1_take 25 (by decide) (by decide) hK hA p5.1 hI6) hg6 rfl rfl rfl (Nat.le_of_ble_eq_true rfl) (by decide) (by show 2 + 1 ≤ d + 1; omega) (Nat.zero_le _) (Nat.zero_le _) dX1_readValue_309 ?_
                  rintro v1 h7 z1 ⟨rfl, rfl, hI7, hO7⟩
                  obtain ⟨fs7, hg7⟩ := hI7.gat
                  refine g_if_eqB 328 dX1_readValue_312 (by decide) (fun c_312 => ?_) (fun c_312 => ?_)
                  · refine g_iconst (nI 0) dX1_readValue_328 (by decide) ?_
                    exact g_iret hE rfl (hfin false _ _ _ _ hI7 (fun q => by cases q) (((((hO2.trans hO3).trans hO4).trans hO5).trans hO6).trans hO7) (by unfold pV; rw [if_neg (by omega), if_neg (by omega), if_neg (by omega)]; refine (if_neg (by omega)).trans ((if_neg (by omega)).trans ((if_pos (by omega)).trans ?_)); rw [hk, pSq_t (pTk_y hk), pSq_t (pTk_y eb), pSq_y c_278, pSq_t (pTk_y k4), pSq_y c_295, pSq_n c_312])) dX1_readValue_329
                  · refine g_aload_n dX1_readValue_315 rfl ?_
                    refine g_aload_n dX1_readValue_316 rfl ?_
                    refine g_iconst (nI 0) dX1_readValue_317 (by decide) ?_
                    have k7 := pTk_1 c_312
                    rw [pTk_y k7] at hI7
                    have p7 := PsOk.step p5 (Ps.tk hl2 (c := 25) (by decide)) (by decide) (by decide)
                    rw [pTk_y k7] at p7
                    have hps := ((Ps.tk hl2 (c := 22) (by decide)).seq ((Ps.tk hl2 (c := 24) (by decide)).seq (hPu.seq ((Ps.tk hl2 (c := 29) (by decide)).seq (hPu.seq (Ps.tk hl2 (c := 25) (by decide))))))) s0 hs1
                    rw [pSq_t (pTk_y hk), pSq_t (pTk_y eb), pSq_y c_278, pSq_t (pTk_y k4), pSq_y c_295, pTk_y k7] at hps
                    obtain ⟨X, V, a1, a2, a3, a4, a5, a6, a7⟩ := hps
                    have a8 := (a6 rfl).1
                    have e9 : (q.2 ((q.2 (s0.1 + 1 + 1, s0.2)).2.1 + 1, (q.2 (s0.1 + 1 + 1, s0.2)).2.2)).2.2.1.length = s0.2.1.length + X.length := by
                      have := congrArg (fun w => w.1.length) a1
                      rw [← List.length_append]; exact this
                    have a9 : (X.length : Int) + s0.1 + 4 ≤ (((q.2 ((q.2 (s0.1 + 1 + 1, s0.2)).2.1 + 1, (q.2 (s0.1 + 1 + 1, s0.2)).2.2)).2.1 + 1 : Nat) : Int) := Int.le_trans (by omega) a8
                    have a10 : (q.2 ((q.2 (s0.1 + 1 + 1, s0.2)).2.1 + 1, (q.2 (s0.1 + 1 + 1, s0.2)).2.2)).2.1 + 1 ≤ tkl n f := p7.1
                    have hlen : (q.2 ((q.2 (s0.1 + 1 + 1, s0.2)).2.1 + 1, (q.2 (s0.1 + 1 + 1, s0.2)).2.2)).2.2.1.length < 400 := by omega
                    refine g_callV0 kX1_177 (m1_put (s := ((q.2 ((q.2 (s0.1 + 1 + 1, s0.2)).2.1 + 1, (q.2 (s0.1 + 1 + 1, s0.2)).2.2)).2.1 + 1, (q.2 ((q.2 (s0.1 + 1 + 1, s0.2)).2.1 + 1, (q.2 (s0.1 + 1 + 1, s0.2)).2.2)).2.2)) 22 0 (nI 0) (by decide) hK hA (hlen) (fun _ => rfl) hI7) hg7 rfl rfl rfl (Nat.le_of_ble_eq_true rfl) (by decide) (by show 1 + 1 ≤ d + 1; omega) (Nat.zero_le _) (Nat.zero_le _) dX1_readValue_318 ?_
                    rintro v1 h8 z1 ⟨rfl, rfl, hI8, hO8⟩
                    refine g_if_eqB 328 dX1_readValue_321 (by decide) (fun c_321 => ?_) (fun c_321 => ?_)
                    · exact absurd c_321 (by decide)
                    · refine g_iconst (nI 1) dX1_readValue_324 (by decide) ?_
                      refine g_goto 329 dX1_readValue_325 (by decide) ?_
                      exact g_iret hE rfl (hfin true _ _ _ _ hI8 (fun _ => rfl) ((((((hO2.trans hO3).trans hO4).trans hO5).trans hO6).trans hO7).trans hO8) (by unfold pV; rw [if_neg (by omega), if_neg (by omega), if_neg (by omega)]; refine (if_neg (by omega)).trans ((if_neg (by omega)).trans ((if_pos (by omega)).trans ?_)); rw [hk, pSq_t (pTk_y hk), pSq_t (pTk_y eb), pSq_y c_278, pSq_t (pTk_y k4), pSq_y c_295, pSq_t (pTk_y k7)]; rfl)) dX1_readValue_329
set_option maxRecDepth 100000 in
set_option maxHeartbeats 4000000 in
theorem m1_readValue_23 {X : gX} {K : gKo} {g p n d dp : Nat} {f : Nat → Int32} {lo : Option (PF × PF)} (h4 : 4 ≤ d) (hK : gCo X K) (hA : ApG g p) (hn : n ≤ 2000) (hL : LoV X K g p n f d dp lo) (h : gH) (z : Nat) (s0 : PSt) (ir0 : Int32) (W : gWo) (hs0 : PsOk n f s0) (hI0 : GrI X K h g p n f s0 dp ir0 W) (hk : tkk n f s0.1 = 23) : gM X yX1_readValue cX1_readValue 2 (some .boolean) (d + 1, 0, 0) [.ref g] h z (fun r h' z' => r = some (.int (b2i ((pV (tkk n f) (tku n f) lo) s0).1)) ∧ z' = z ∧ (∃ dp' ir', GrI X K h' g p n f ((pV (tkk n f) (tku n f) lo) s0).2 dp' ir' W ∧ (((pV (tkk n f) (tku n f) lo) s0).1 = true → dp' = dp)) ∧ OffG h h' g p) gNoX := by
  have hfin : ∀ (b : Bool) (h1 : gH) (s : PSt) (dp' : Nat) (ir : Int32), GrI X K h1 g p n f s dp' ir W → (b = true → dp' = dp) → OffG h h1 g p → (pV (tkk n f) (tku n f) lo) s0 = (b, s) → some (Value.int (b2i b)) = some (.int (b2i ((pV (tkk n f) (tku n f) lo) s0).1)) ∧ z = z ∧ (∃ dp' ir', GrI X K h1 g p n f ((pV (tkk n f) (tku n f) lo) s0).2 dp' ir' W ∧ (((pV (tkk n f) (tku n f) lo) s0).1 = true → dp' = dp)) ∧ OffG h h1 g p := by
    intro b h1 s dp' ir hI hdp hO hR
    rw [hR]
    exact ⟨rfl, rfl, ⟨dp', ir, hI, hdp⟩, hO⟩
  obtain ⟨hl1, hl2, hl3⟩ := tkl_spec n f
  obtain ⟨hd8, hl0, hlo⟩ := hL
  have hs1 := hs0.1
  have hs2 := hs0.2.1
  obtain ⟨ep, S, gg, hg, hep, hT, -⟩ := id hI0
  obtain ⟨kf, S1, T1, en, hTT, -⟩ := id hT
  refine gM.of px1 (Nat.le_of_ble_eq_true rfl) ?_
  intro F hE
  have p1 := hs0.step (Ps.tk hl2 (c := 23) (by decide)) (by decide) (by decide)
  rw [pTk_y hk] at p1
  refine g_aload_n dX1_readValue_0 rfl ?_
  refine g_getf fl1_12 hg rfl dX1_readValue_1 ?_
  refine g_getf fl1_41 hTT.1.1 rfl dX1_readValue_4 ?_
  rw [hk]
  refine g_astore_n dX1_readValue_7 (by decide) rfl ?_
  refine g_gets hK.2.2.2.1.1 wgX1_187 dX1_readValue_8 ?_
  refine g_aload_n dX1_readValue_11 rfl ?_
  refine g_ord kX1_193 hK (c := 23) (by omega) (Nat.le_of_ble_eq_true rfl) (by first | decide | exact Nat.le_add_left 1 _) (Nat.zero_le _) (Nat.zero_le _) dX1_readValue_12 ?_
  refine g_tald hK.2.2.2.1.2 (by omega) (by omega) dX1_readValue_15 ?_
  refine g_switch (240) 256 dX1_readValue_16 (by decide) (by decide) (by decide) (by decide) ?_
  refine g_aload_n dX1_readValue_256 rfl ?_
  refine g_aload_n dX1_readValue_257 rfl ?_
  refine g_callV0 kX1_63 (m1_take 23 (by decide) (by decide) hK hA hs1 hI0) hg rfl rfl rfl (Nat.le_of_ble_eq_true rfl) (by decide) (by show 2 + 1 ≤ d + 1; omega) (Nat.zero_le _) (Nat.zero_le _) dX1_readValue_258 ?_
  rintro v1 h1 z1 ⟨rfl, rfl, hI1, hO1⟩
  rw [pTk_y hk] at hI1 ⊢
  obtain ⟨fs1, hg1⟩ := hI1.gat
  refine g_if_eqB 328 dX1_readValue_261 (by decide) (fun c_261 => ?_) (fun c_261 => ?_)
  · exact Bool.noConfusion (show true = false from c_261)
  · refine g_aload_n dX1_readValue_264 rfl ?_
    refine g_gets (hK.1 24 (by decide)).1 wgX1_266 dX1_readValue_265 ?_
    refine g_callV0 kX1_200 (m1_takeDeeper 24 (by decide) (by decide) hK hA p1.1 hd8 hI1) hg1 rfl rfl rfl (Nat.le_of_ble_eq_true rfl) (by decide) (by show 3 + 1 ≤ d + 1; omega) (Nat.zero_le _) (Nat.zero_le _) dX1_readValue_268 ?_
    rintro v1 h2 z1 ⟨rfl, hO2, hcs⟩
    have hO2 := hO1.trans hO2
    rcases hcs with ⟨e8, rfl, hI2⟩ | ⟨e8, eb, rfl, hI2⟩ | ⟨e8, eb, rfl, hI2⟩
    · have hno : lo = none := by
        cases hh : lo with
        | none => rfl
        | some q => exact absurd (hlo q hh).1 (by omega)
      subst hno
      refine g_if_eqB 328 dX1_readValue_271 (by decide) (fun _ => ?_) (fun q => absurd q (by decide))
      refine g_iconst (nI 0) dX1_readValue_328 (by decide) ?_
      exact g_iret hE rfl (hfin false _ _ _ _ hI2 (fun q => by cases q) hO2 (by unfold pV; rw [if_neg (by omega), if_neg (by omega), if_neg (by omega)]; refine (if_pos (by omega)).trans ?_; rw [hk, pSq_t (pTk_y hk)]; rfl)) dX1_readValue_329
    · cases hh : lo with
      | none => exact absurd (hl0 hh) (by omega)
      | some q =>
        subst hh
        refine g_if_eqB 328 dX1_readValue_271 (by decide) (fun _ => ?_) (fun q => absurd q (by decide))
        refine g_iconst (nI 0) dX1_readValue_328 (by decide) ?_
        exact g_iret hE rfl (hfin false _ _ _ _ hI2 (fun q => by cases q) hO2 (by unfold pV; rw [if_neg (by omega), if_neg (by omega), if_neg (by omega)]; refine (if_neg (by omega)).trans ((if_neg (by omega)).trans ((if_pos (by omega)).trans ?_)); rw [hk, pSq_t (pTk_y hk), pSq_n eb])) dX1_readValue_329
    · have eb := pTk_1 eb
      rw [pTk_y eb] at hI2
      cases hh : lo with
      | none => exact absurd (hl0 hh) (by omega)
      | some q =>
        subst hh
        obtain ⟨-, ⟨d1, hd1, hv⟩, hu, ⟨kv, hPv⟩, ku, hPu⟩ := hlo q rfl
        obtain ⟨fs2, hg2⟩ := hI2.gat
        have p2 := PsOk.step p1 (Ps.tk hl2 (c := 24) (by decide)) (by decide) (by decide)
        rw [pTk_y eb] at p2
        have p3 := PsOk.step p2 hPu (by decide) (by decide)
        refine g_if_eqB 328 dX1_readValue_271 (by decide) (fun c_271 => ?_) (fun c_271 => ?_)
        · exact absurd c_271 (by decide)
        · refine g_aload_n dX1_readValue_274 rfl ?_
          refine g_callV0 kX1_164 (hu _ _ _ _ _ p2 hI2) hg2 rfl rfl rfl (Nat.le_of_ble_eq_true rfl) (by decide) (by show d + 1 ≤ d + 1; omega) (Nat.zero_le _) (Nat.zero_le _) dX1_readValue_275 ?_
          rintro v1 h3 z1 ⟨rfl, rfl, ⟨dp3, ir3, hI3, hdp3⟩, hO3⟩
          obtain ⟨fs3, hg3⟩ := hI3.gat
          refine g_if_eqB 328 dX1_readValue_278 (by decide) (fun c_278 => ?_) (fun c_278 => ?_)
          · refine g_iconst (nI 0) dX1_readValue_328 (by decide) ?_
            exact g_iret hE rfl (hfin false _ _ _ _ hI3 (fun q => by cases q) (hO2.trans hO3) (by unfold pV; rw [if_neg (by omega), if_neg (by omega), if_neg (by omega)]; refine (if_neg (by omega)).trans ((if_neg (by omega)).trans ((if_pos (by omega)).trans ?_)); rw [hk, pSq_t (pTk_y hk), pSq_t (pTk_y eb), pSq_n c_278])) dX1_readValue_329
          · refine g_aload_n dX1_readValue_281 rfl ?_
            refine g_gets (hK.1 29 (by decide)).1 wgX1_272 dX1_readValue_282 ?_
            have hdp3 := hdp3 c_278
            subst hdp3
            refine g_callV0 kX1_63 (m1_take 29 (by decide) (by decide) hK hA p3.1 hI3) hg3 rfl rfl rfl (Nat.le_of_ble_eq_true rfl) (by decide) (by show 2 + 1 ≤ d + 1; omega) (Nat.zero_le _) (Nat.zero_le _) dX1_readValue_285 ?_
            rintro v1 h4 z1 ⟨rfl, rfl, hI4, hO4⟩
            obtain ⟨fs4, hg4⟩ := hI4.gat
            refine g_if_eqB 328 dX1_readValue_288 (by decide) (fun c_288 => ?_) (fun c_288 => ?_)
            · refine g_iconst (nI 0) dX1_readValue_328 (by decide) ?_
              exact g_iret hE rfl (hfin false _ _ _ _ hI4 (fun q => by cases q) ((hO2.trans hO3).trans hO4) (by unfold pV; rw [if_neg (by omega), if_neg (by omega), if_neg (by omega)]; refine (if_neg (by omega)).trans ((if_neg (by omega)).trans ((if_pos (by omega)).trans ?_)); rw [hk, pSq_t (pTk_y hk), pSq_t (pTk_y eb), pSq_y c_278, pSq_n c_288])) dX1_readValue_329
            · refine g_aload_n dX1_readValue_291 rfl ?_
              have k4 := pTk_1 c_288
              rw [pTk_y k4] at hI4
              have p4 := PsOk.step p3 (Ps.tk hl2 (c := 29) (by decide)) (by decide) (by decide)
              rw [pTk_y k4] at p4
              have p5 := PsOk.step p4 hPu (by decide) (by decide)
              refine g_callV0 kX1_164 (hu _ _ _ _ _ p4 hI4) hg4 rfl rfl rfl (Nat.le_of_ble_eq_true rfl) (by decide) (by show d + 1 ≤ d + 1; omega) (Nat.zero_le _) (Nat.zero_le _) dX1_readValue_292 ?_
              rintro v1 h5 z1 ⟨rfl, rfl, ⟨dp5, ir5, hI5, hdp5⟩, hO5⟩
              obtain ⟨fs5, hg5⟩ := hI5.gat
              refine g_if_eqB 328 dX1_readValue_295 (by decide) (fun c_295 => ?_) (fun c_295 => ?_)
              · refine g_iconst (nI 0) dX1_readValue_328 (by decide) ?_
                exact g_iret hE rfl (hfin false _ _ _ _ hI5 (fun q => by cases q) (((hO2.trans hO3).trans hO4).trans hO5) (by unfold pV; rw [if_neg (by omega), if_neg (by omega), if_neg (by omega)]; refine (if_neg (by omega)).trans ((if_neg (by omega)).trans ((if_pos (by omega)).trans ?_)); rw [hk, pSq_t (pTk_y hk), pSq_t (pTk_y eb), pSq_y c_278, pSq_t (pTk_y k4), pSq_n c_295])) dX1_readValue_329
              · refine g_aload_n dX1_readValue_298 rfl ?_
                have hdp5 := hdp5 c_295
                subst hdp5
                refine g_callV0 kX1_203 (m1_rise hA hI5) hg5 rfl rfl rfl (Nat.le_of_ble_eq_true rfl) (by decide) (by show 0 + 1 ≤ d + 1; omega) (Nat.zero_le _) (Nat.zero_le _) dX1_readValue_299 ?_
                rintro v1 h6 z1 ⟨rfl, rfl, hI6, hO6⟩
                obtain ⟨fs6, hg6⟩ := hI6.gat
                refine g_if_eqB 328 dX1_readValue_302 (by decide) (fun c_302 => ?_) (fun c_302 => ?_)
                · exact absurd c_302 (by decide)
                · refine g_aload_n dX1_readValue_305 rfl ?_
                  refine g_gets (hK.1 25 (by decide)).1 wgX1_269 dX1_readValue_306 ?_
                  refine g_callV0 kX1_63 (m1_take 25 (by decide) (by decide) hK hA p5.1 hI6) hg6 rfl rfl rfl (Nat.le_of_ble_eq_true rfl) (by decide) (by show 2 + 1 ≤ d + 1; omega) (Nat.zero_le _) (Nat.zero_le _) dX1_readValue_309 ?_
                  rintro v1 h7 z1 ⟨rfl, rfl, hI7, hO7⟩
                  obtain ⟨fs7, hg7⟩ := hI7.gat
                  refine g_if_eqB 328 dX1_readValue_312 (by decide) (fun c_312 => ?_) (fun c_312 => ?_)
                  · refine g_iconst (nI 0) dX1_readValue_328 (by decide) ?_
                    exact g_iret hE rfl (hfin false _ _ _ _ hI7 (fun q => by cases q) (((((hO2.trans hO3).trans hO4).trans hO5).trans hO6).trans hO7) (by unfold pV; rw [if_neg (by omega), if_neg (by omega), if_neg (by omega)]; refine (if_neg (by omega)).trans ((if_neg (by omega)).trans ((if_pos (by omega)).trans ?_)); rw [hk, pSq_t (pTk_y hk), pSq_t (pTk_y eb), pSq_y c_278, pSq_t (pTk_y k4), pSq_y c_295, pSq_n c_312])) dX1_readValue_329
                  · refine g_aload_n dX1_readValue_315 rfl ?_
                    refine g_aload_n dX1_readValue_316 rfl ?_
                    refine g_iconst (nI 0) dX1_readValue_317 (by decide) ?_
                    have k7 := pTk_1 c_312
                    rw [pTk_y k7] at hI7
                    have p7 := PsOk.step p5 (Ps.tk hl2 (c := 25) (by decide)) (by decide) (by decide)
                    rw [pTk_y k7] at p7
                    have hps := ((Ps.tk hl2 (c := 23) (by decide)).seq ((Ps.tk hl2 (c := 24) (by decide)).seq (hPu.seq ((Ps.tk hl2 (c := 29) (by decide)).seq (hPu.seq (Ps.tk hl2 (c := 25) (by decide))))))) s0 hs1
                    rw [pSq_t (pTk_y hk), pSq_t (pTk_y eb), pSq_y c_278, pSq_t (pTk_y k4), pSq_y c_295, pTk_y k7] at hps
                    obtain ⟨X, V, a1, a2, a3, a4, a5, a6, a7⟩ := hps
                    have a8 := (a6 rfl).1
                    have e9 : (q.2 ((q.2 (s0.1 + 1 + 1, s0.2)).2.1 + 1, (q.2 (s0.1 + 1 + 1, s0.2)).2.2)).2.2.1.length = s0.2.1.length + X.length := by
                      have := congrArg (fun w => w.1.length) a1
                      rw [← List.length_append]; exact this
                    have a9 : (X.length : Int) + s0.1 + 4 ≤ (((q.2 ((q.2 (s0.1 + 1 + 1, s0.2)).2.1 + 1, (q.2 (s0.1 + 1 + 1, s0.2)).2.2)).2.1 + 1 : Nat) : Int) := Int.le_trans (by omega) a8
                    have a10 : (q.2 ((q.2 (s0.1 + 1 + 1, s0.2)).2.1 + 1, (q.2 (s0.1 + 1 + 1, s0.2)).2.2)).2.1 + 1 ≤ tkl n f := p7.1
                    have hlen : (q.2 ((q.2 (s0.1 + 1 + 1, s0.2)).2.1 + 1, (q.2 (s0.1 + 1 + 1, s0.2)).2.2)).2.2.1.length < 400 := by omega
                    refine g_callV0 kX1_177 (m1_put (s := ((q.2 ((q.2 (s0.1 + 1 + 1, s0.2)).2.1 + 1, (q.2 (s0.1 + 1 + 1, s0.2)).2.2)).2.1 + 1, (q.2 ((q.2 (s0.1 + 1 + 1, s0.2)).2.1 + 1, (q.2 (s0.1 + 1 + 1, s0.2)).2.2)).2.2)) 23 0 (nI 0) (by decide) hK hA (hlen) (fun _ => rfl) hI7) hg7 rfl rfl rfl (Nat.le_of_ble_eq_true rfl) (by decide) (by show 1 + 1 ≤ d + 1; omega) (Nat.zero_le _) (Nat.zero_le _) dX1_readValue_318 ?_
                    rintro v1 h8 z1 ⟨rfl, rfl, hI8, hO8⟩
                    refine g_if_eqB 328 dX1_readValue_321 (by decide) (fun c_321 => ?_) (fun c_321 => ?_)
                    · exact absurd c_321 (by decide)
                    · refine g_iconst (nI 1) dX1_readValue_324 (by decide) ?_
                      refine g_goto 329 dX1_readValue_325 (by decide) ?_
                      exact g_iret hE rfl (hfin true _ _ _ _ hI8 (fun _ => rfl) ((((((hO2.trans hO3).trans hO4).trans hO5).trans hO6).trans hO7).trans hO8) (by unfold pV; rw [if_neg (by omega), if_neg (by omega), if_neg (by omega)]; refine (if_neg (by omega)).trans ((if_neg (by omega)).trans ((if_pos (by omega)).trans ?_)); rw [hk, pSq_t (pTk_y hk), pSq_t (pTk_y eb), pSq_y c_278, pSq_t (pTk_y k4), pSq_y c_295, pSq_t (pTk_y k7)]; rfl)) dX1_readValue_329
set_option maxRecDepth 100000 in
set_option maxHeartbeats 4000000 in
theorem m1_readValue_el {X : gX} {K : gKo} {g p n d dp : Nat} {f : Nat → Int32} {lo : Option (PF × PF)} (h4 : 4 ≤ d) (hK : gCo X K) (hA : ApG g p) (hn : n ≤ 2000) (hL : LoV X K g p n f d dp lo) (h : gH) (z : Nat) (s0 : PSt) (ir0 : Int32) (W : gWo) (hs0 : PsOk n f s0) (hI0 : GrI X K h g p n f s0 dp ir0 W) (hk : tkk n f s0.1 ≠ 3 ∧ ¬ (11 ≤ tkk n f s0.1 ∧ tkk n f s0.1 ≤ 16) ∧ tkk n f s0.1 ≠ 31 ∧ tkk n f s0.1 ≠ 24 ∧ tkk n f s0.1 ≠ 22 ∧ tkk n f s0.1 ≠ 23) : gM X yX1_readValue cX1_readValue 2 (some .boolean) (d + 1, 0, 0) [.ref g] h z (fun r h' z' => r = some (.int (b2i ((pV (tkk n f) (tku n f) lo) s0).1)) ∧ z' = z ∧ (∃ dp' ir', GrI X K h' g p n f ((pV (tkk n f) (tku n f) lo) s0).2 dp' ir' W ∧ (((pV (tkk n f) (tku n f) lo) s0).1 = true → dp' = dp)) ∧ OffG h h' g p) gNoX := by
  have hfin : ∀ (b : Bool) (h1 : gH) (s : PSt) (dp' : Nat) (ir : Int32), GrI X K h1 g p n f s dp' ir W → (b = true → dp' = dp) → OffG h h1 g p → (pV (tkk n f) (tku n f) lo) s0 = (b, s) → some (Value.int (b2i b)) = some (.int (b2i ((pV (tkk n f) (tku n f) lo) s0).1)) ∧ z = z ∧ (∃ dp' ir', GrI X K h1 g p n f ((pV (tkk n f) (tku n f) lo) s0).2 dp' ir' W ∧ (((pV (tkk n f) (tku n f) lo) s0).1 = true → dp' = dp)) ∧ OffG h h1 g p := by
    intro b h1 s dp' ir hI hdp hO hR
    rw [hR]
    exact ⟨rfl, rfl, ⟨dp', ir, hI, hdp⟩, hO⟩
  obtain ⟨hl1, hl2, hl3⟩ := tkl_spec n f
  obtain ⟨hd8, hl0, hlo⟩ := hL
  have hs1 := hs0.1
  have hs2 := hs0.2.1
  obtain ⟨ep, S, gg, hg, hep, hT, -⟩ := id hI0
  obtain ⟨kf, S1, T1, en, hTT, -⟩ := id hT
  refine gM.of px1 (Nat.le_of_ble_eq_true rfl) ?_
  intro F hE
  have h39 := tkk_lt n f s0.1
  have hsw := (swV _ h39).resolve_left (by omega)
  have hsb := swB _ h39
  refine g_aload_n dX1_readValue_0 rfl ?_
  refine g_getf fl1_12 hg rfl dX1_readValue_1 ?_
  refine g_getf fl1_41 hTT.1.1 rfl dX1_readValue_4 ?_
  refine g_astore_n dX1_readValue_7 (by decide) rfl ?_
  refine g_gets hK.2.2.2.1.1 wgX1_187 dX1_readValue_8 ?_
  refine g_aload_n dX1_readValue_11 rfl ?_
  refine g_ord kX1_193 hK (c := tkk n f s0.1) (by omega) (Nat.le_of_ble_eq_true rfl) (by first | decide | exact Nat.le_add_left 1 _) (Nat.zero_le _) (Nat.zero_le _) dX1_readValue_12 ?_
  refine g_tald hK.2.2.2.1.2 (by omega) (by omega) dX1_readValue_15 ?_
  refine g_switchD 330 dX1_readValue_16 (by rw [nI_toInt (by omega)]; omega) (by decide) ?_
  refine g_iconst (nI 0) dX1_readValue_330 (by decide) ?_
  exact g_iret hE rfl (hfin false _ _ _ _ hI0 (fun q => by cases q) OffG.rf (by unfold pV; rw [if_neg hk.1, if_neg (by omega), if_neg (by omega)]; cases lo with | none => exact if_neg (by omega) | some q => exact (if_neg hk.2.2.1).trans ((if_neg (by omega)).trans (if_neg (by omega))))) dX1_readValue_331
theorem m1_readValue {X : gX} {K : gKo} {g p n d dp : Nat} {f : Nat → Int32} {lo : Option (PF × PF)} (h4 : 4 ≤ d) (hK : gCo X K) (hA : ApG g p) (hn : n ≤ 2000) (hL : LoV X K g p n f d dp lo) : GCt X K g p n f yX1_readValue cX1_readValue 2 (d + 1) dp (pV (tkk n f) (tku n f) lo) := by
  intro h z s0 ir0 W hs0 hI0
  by_cases h3 : tkk n f s0.1 = 3
  · exact m1_readValue_3 h4 hK hA hn hL h z s0 ir0 W hs0 hI0 h3
  · by_cases h11 : 11 ≤ tkk n f s0.1 ∧ tkk n f s0.1 ≤ 16
    · rcases (show tkk n f s0.1 = 11 ∨ tkk n f s0.1 = 12 ∨ tkk n f s0.1 = 13 ∨ tkk n f s0.1 = 14 ∨ tkk n f s0.1 = 15 ∨ tkk n f s0.1 = 16 by omega) with q | q | q | q | q | q
      · exact m1_readValue_11 h4 hK hA hn hL h z s0 ir0 W hs0 hI0 q
      · exact m1_readValue_12 h4 hK hA hn hL h z s0 ir0 W hs0 hI0 q
      · exact m1_readValue_13 h4 hK hA hn hL h z s0 ir0 W hs0 hI0 q
      · exact m1_readValue_14 h4 hK hA hn hL h z s0 ir0 W hs0 hI0 q
      · exact m1_readValue_15 h4 hK hA hn hL h z s0 ir0 W hs0 hI0 q
      · exact m1_readValue_16 h4 hK hA hn hL h z s0 ir0 W hs0 hI0 q
    · by_cases h31 : tkk n f s0.1 = 31
      · exact m1_readValue_31 h4 hK hA hn hL h z s0 ir0 W hs0 hI0 h31
      · by_cases h24 : tkk n f s0.1 = 24
        · exact m1_readValue_24 h4 hK hA hn hL h z s0 ir0 W hs0 hI0 h24
        · by_cases h22 : tkk n f s0.1 = 22
          · exact m1_readValue_22 h4 hK hA hn hL h z s0 ir0 W hs0 hI0 h22
          · by_cases h23 : tkk n f s0.1 = 23
            · exact m1_readValue_23 h4 hK hA hn hL h z s0 ir0 W hs0 hI0 h23
            · exact m1_readValue_el h4 hK hA hn hL h z s0 ir0 W hs0 hI0 ⟨h3, h11, h31, h24, h22, h23⟩
set_option maxRecDepth 100000 in
theorem lvV_ct {X : gX} {K : gKo} {g p n : Nat} {f : Nat → Int32} (hK : gCo X K) (hA : ApG g p) (hn : n ≤ 2000) : ∀ D, D ≤ 8 → GCt X K g p n f yX1_readValue cX1_readValue 2 (5 + 3 * D) (8 - D) (lvV (tkk n f) (tku n f) D).1 ∧ GCt X K g p n f yX1_readSum cX1_readSum 4 (7 + 3 * D) (8 - D) (lvV (tkk n f) (tku n f) D).2 := by
  have hl := (tkl_spec n f).2.1
  intro D
  induction D with
  | zero =>
    intro _
    have h := m1_readValue (f := f) (d := 4) (dp := 8) (lo := none) (Nat.le_refl _) hK hA hn ⟨Nat.le_refl _, fun _ => rfl, fun q e => by cases e⟩
    have hp := Pg.v (nu := tku n f) hl none 1 (Nat.le_refl _) (fun q e => by cases e)
    exact ⟨h, m1_readSum (d := 6) (by decide) hK hA (Pg.ch hl opT_ok hp) (m1_readProduct (d := 5) (by decide) hK hA hp h)⟩
  | succ D ih =>
    intro hD
    obtain ⟨i1, i2⟩ := ih (by omega)
    obtain ⟨k1, k2⟩ := lvV_ok (nu := tku n f) hl D
    have e8 : 8 - (D + 1) + 1 = 8 - D := by omega
    have h := m1_readValue (f := f) (d := 7 + 3 * D) (dp := 8 - (D + 1)) (lo := some (lvV (tkk n f) (tku n f) D)) (by omega) hK hA hn ⟨by omega, (fun e => by cases e), fun q e => by
      cases e
      rw [e8]
      exact ⟨by omega, ⟨_, by omega, i1⟩, i2, ⟨_, k1⟩, _, k2⟩⟩
    have hp := (lvV_ok (nu := tku n f) hl (D + 1)).1
    have h8 : 7 + 3 * D + 1 = 5 + 3 * (D + 1) := by omega
    rw [h8] at h
    have h2 := m1_readProduct (d := 5 + 3 * (D + 1)) (by omega) hK hA hp h
    rw [show 5 + 3 * (D + 1) + 1 = 6 + 3 * (D + 1) by omega] at h2
    have h3 := m1_readSum (d := 6 + 3 * (D + 1)) (by omega) hK hA (Pg.ch hl opT_ok hp) h2
    rw [show 6 + 3 * (D + 1) + 1 = 7 + 3 * (D + 1) by omega] at h3
    exact ⟨h, h3⟩
set_option maxRecDepth 100000 in
set_option maxHeartbeats 4000000 in
theorem m1_readSingle_19 {X : gX} {K : gKo} {g p n d dp : Nat} {f : Nat → Int32} {lo : Option (PF × PF)} {u : PF} (h4 : 4 ≤ d) (hK : gCo X K) (hA : ApG g p) (hn : n ≤ 2000) (hL : LoT X K g p n f d dp lo) (h : gH) (z : Nat) (s0 : PSt) (ir0 : Int32) (W : gWo) (hs0 : PsOk n f s0) (hI0 : GrI X K h g p n f s0 dp ir0 W) (hk : tkk n f s0.1 = 19) : gM X yX1_readSingle cX1_readSingle 1 (some .boolean) (d + 1, 0, 0) [.ref g] h z (fun r h' z' => r = some (.int (b2i ((pS (tkk n f) lo u) s0).1)) ∧ z' = z ∧ (∃ dp' ir', GrI X K h' g p n f ((pS (tkk n f) lo u) s0).2 dp' ir' W ∧ (((pS (tkk n f) lo u) s0).1 = true → dp' = dp)) ∧ OffG h h' g p) gNoX := by
  have hfin : ∀ (b : Bool) (h1 : gH) (s : PSt) (dp' : Nat) (ir : Int32), GrI X K h1 g p n f s dp' ir W → (b = true → dp' = dp) → OffG h h1 g p → (pS (tkk n f) lo u) s0 = (b, s) → some (Value.int (b2i b)) = some (.int (b2i ((pS (tkk n f) lo u) s0).1)) ∧ z = z ∧ (∃ dp' ir', GrI X K h1 g p n f ((pS (tkk n f) lo u) s0).2 dp' ir' W ∧ (((pS (tkk n f) lo u) s0).1 = true → dp' = dp)) ∧ OffG h h1 g p := by
    intro b h1 s dp' ir hI hdp hO hR
    rw [hR]
    exact ⟨rfl, rfl, ⟨dp', ir, hI, hdp⟩, hO⟩
  obtain ⟨hl1, hl2, hl3⟩ := tkl_spec n f
  obtain ⟨hd8, hl0, hlo⟩ := hL
  have hs1 := hs0.1
  have hs2 := hs0.2.1
  obtain ⟨ep, S, gg, hg, hep, hT, -⟩ := id hI0
  obtain ⟨kf, S1, T1, en, hTT, -⟩ := id hT
  refine gM.of px1 (Nat.le_of_ble_eq_true rfl) ?_
  intro F hE
  have p1 := hs0.step (Ps.tk hl2 (c := 19) (by decide)) (by decide) (by decide)
  rw [pTk_y hk] at p1
  refine g_gets hK.2.2.2.1.1 wgX1_187 dX1_readSingle_0 ?_
  refine g_aload_n dX1_readSingle_3 rfl ?_
  refine g_getf fl1_12 hg rfl dX1_readSingle_4 ?_
  refine g_getf fl1_41 hTT.1.1 rfl dX1_readSingle_7 ?_
  rw [hk]
  refine g_ord kX1_193 hK (c := 19) (by omega) (Nat.le_of_ble_eq_true rfl) (by first | decide | exact Nat.le_add_left 1 _) (Nat.zero_le _) (Nat.zero_le _) dX1_readSingle_10 ?_
  refine g_tald hK.2.2.2.1.2 (by omega) (by omega) dX1_readSingle_13 ?_
  refine g_switch (26) 40 dX1_readSingle_14 (by decide) (by decide) (by decide) (by decide) ?_
  refine g_aload_n dX1_readSingle_40 rfl ?_
  refine g_gets (hK.1 19 (by decide)).1 wgX1_197 dX1_readSingle_41 ?_
  refine g_callV0 kX1_200 (m1_takeDeeper 19 (by decide) (by decide) hK hA hs1 hd8 hI0) hg rfl rfl rfl (Nat.le_of_ble_eq_true rfl) (by decide) (by show 3 + 1 ≤ d + 1; omega) (Nat.zero_le _) (Nat.zero_le _) dX1_readSingle_44 ?_
  rintro v1 h2 z1 ⟨rfl, hO2, hcs⟩
  rcases hcs with ⟨e8, rfl, hI2⟩ | ⟨e8, eb, rfl, hI2⟩ | ⟨e8, eb, rfl, hI2⟩
  · have hno : lo = none := by
      cases hh : lo with
      | none => rfl
      | some q => exact absurd (hlo q hh).1 (by omega)
    subst hno
    refine g_if_eqB 79 dX1_readSingle_47 (by decide) (fun _ => ?_) (fun q => absurd q (by decide))
    refine g_iconst (nI 0) dX1_readSingle_79 (by decide) ?_
    exact g_iret hE rfl (hfin false _ _ _ _ hI2 (fun q => by cases q) hO2 (by unfold pS; refine (if_pos hk).trans ?_; rfl)) dX1_readSingle_80
  · exact Bool.noConfusion (show true = false from by rw [pTk_y hk] at eb; exact eb)
  · cases hh : lo with
    | none => exact absurd (hl0 hh) (by omega)
    | some q =>
      subst hh
      obtain ⟨-, ⟨d1, hd1, hv⟩, ht, ⟨kv, hPv⟩, kt, hPt⟩ := hlo q rfl
      rw [pTk_y hk] at hI2
      obtain ⟨fs2, hg2⟩ := hI2.gat
      have q1 := fun w => ((PsOk.op hs0 hk (by decide) (by decide) hPv).2.2 w).1
      refine g_if_eqB 79 dX1_readSingle_47 (by decide) (fun c_47 => ?_) (fun c_47 => ?_)
      · exact absurd c_47 (by decide)
      · refine g_aload_n dX1_readSingle_50 rfl ?_
        refine g_callV0 kX1_181 (hv _ _ _ _ _ p1 hI2) hg2 rfl rfl rfl (Nat.le_of_ble_eq_true rfl) (by decide) (by show d1 + 1 ≤ d + 1; omega) (Nat.zero_le _) (Nat.zero_le _) dX1_readSingle_51 ?_
        rintro v1 h3 z1 ⟨rfl, rfl, ⟨dp3, ir3, hI3, hdp3⟩, hO3⟩
        obtain ⟨fs3, hg3⟩ := hI3.gat
        refine g_if_eqB 79 dX1_readSingle_54 (by decide) (fun c_54 => ?_) (fun c_54 => ?_)
        · refine g_iconst (nI 0) dX1_readSingle_79 (by decide) ?_
          exact g_iret hE rfl (hfin false _ _ _ _ hI3 (fun q => by cases q) (hO2.trans hO3) (by unfold pS; refine (if_pos hk).trans ?_; show pSq _ _ s0 = _; rw [pSq_t (pTk_y hk), pSq_n c_54])) dX1_readSingle_80
        · refine g_aload_n dX1_readSingle_57 rfl ?_
          have hdp3 := hdp3 c_54
          subst hdp3
          refine g_callV0 kX1_203 (m1_rise hA hI3) hg3 rfl rfl rfl (Nat.le_of_ble_eq_true rfl) (by decide) (by show 0 + 1 ≤ d + 1; omega) (Nat.zero_le _) (Nat.zero_le _) dX1_readSingle_58 ?_
          rintro v1 h4 z1 ⟨rfl, rfl, hI4, hO4⟩
          obtain ⟨fs4, hg4⟩ := hI4.gat
          refine g_if_eqB 79 dX1_readSingle_61 (by decide) (fun c_61 => ?_) (fun c_61 => ?_)
          · exact absurd c_61 (by decide)
          · refine g_aload_n dX1_readSingle_64 rfl ?_
            refine g_gets (hK.1 19 (by decide)).1 wgX1_197 dX1_readSingle_65 ?_
            refine g_iconst (nI 0) dX1_readSingle_68 (by decide) ?_
            refine g_callV0 kX1_177 (m1_put 19 0 (nI 0) (by decide) hK hA (q1 c_54) (fun _ => rfl) hI4) hg4 rfl rfl rfl (Nat.le_of_ble_eq_true rfl) (by decide) (by show 1 + 1 ≤ d + 1; omega) (Nat.zero_le _) (Nat.zero_le _) dX1_readSingle_69 ?_
            rintro v1 h5 z1 ⟨rfl, rfl, hI5, hO5⟩
            refine g_if_eqB 79 dX1_readSingle_72 (by decide) (fun c_72 => ?_) (fun c_72 => ?_)
            · exact absurd c_72 (by decide)
            · refine g_iconst (nI 1) dX1_readSingle_75 (by decide) ?_
              refine g_goto 80 dX1_readSingle_76 (by decide) ?_
              exact g_iret hE rfl (hfin true _ _ _ _ hI5 (fun _ => rfl) (((hO2.trans hO3).trans hO4).trans hO5) (by unfold pS; refine (if_pos hk).trans ?_; show pSq _ _ s0 = _; rw [pSq_t (pTk_y hk), pSq_y c_54]; rfl)) dX1_readSingle_80
set_option maxRecDepth 100000 in
set_option maxHeartbeats 4000000 in
theorem m1_readSingle_26 {X : gX} {K : gKo} {g p n d dp : Nat} {f : Nat → Int32} {lo : Option (PF × PF)} {u : PF} (h4 : 4 ≤ d) (hK : gCo X K) (hA : ApG g p) (hn : n ≤ 2000) (hL : LoT X K g p n f d dp lo) (h : gH) (z : Nat) (s0 : PSt) (ir0 : Int32) (W : gWo) (hs0 : PsOk n f s0) (hI0 : GrI X K h g p n f s0 dp ir0 W) (hk : tkk n f s0.1 = 26) : gM X yX1_readSingle cX1_readSingle 1 (some .boolean) (d + 1, 0, 0) [.ref g] h z (fun r h' z' => r = some (.int (b2i ((pS (tkk n f) lo u) s0).1)) ∧ z' = z ∧ (∃ dp' ir', GrI X K h' g p n f ((pS (tkk n f) lo u) s0).2 dp' ir' W ∧ (((pS (tkk n f) lo u) s0).1 = true → dp' = dp)) ∧ OffG h h' g p) gNoX := by
  have hfin : ∀ (b : Bool) (h1 : gH) (s : PSt) (dp' : Nat) (ir : Int32), GrI X K h1 g p n f s dp' ir W → (b = true → dp' = dp) → OffG h h1 g p → (pS (tkk n f) lo u) s0 = (b, s) → some (Value.int (b2i b)) = some (.int (b2i ((pS (tkk n f) lo u) s0).1)) ∧ z = z ∧ (∃ dp' ir', GrI X K h1 g p n f ((pS (tkk n f) lo u) s0).2 dp' ir' W ∧ (((pS (tkk n f) lo u) s0).1 = true → dp' = dp)) ∧ OffG h h1 g p := by
    intro b h1 s dp' ir hI hdp hO hR
    rw [hR]
    exact ⟨rfl, rfl, ⟨dp', ir, hI, hdp⟩, hO⟩
  obtain ⟨hl1, hl2, hl3⟩ := tkl_spec n f
  obtain ⟨hd8, hl0, hlo⟩ := hL
  have hs1 := hs0.1
  have hs2 := hs0.2.1
  obtain ⟨ep, S, gg, hg, hep, hT, -⟩ := id hI0
  obtain ⟨kf, S1, T1, en, hTT, -⟩ := id hT
  refine gM.of px1 (Nat.le_of_ble_eq_true rfl) ?_
  intro F hE
  have p1 := hs0.step (Ps.tk hl2 (c := 26) (by decide)) (by decide) (by decide)
  rw [pTk_y hk] at p1
  refine g_gets hK.2.2.2.1.1 wgX1_187 dX1_readSingle_0 ?_
  refine g_aload_n dX1_readSingle_3 rfl ?_
  refine g_getf fl1_12 hg rfl dX1_readSingle_4 ?_
  refine g_getf fl1_41 hTT.1.1 rfl dX1_readSingle_7 ?_
  rw [hk]
  refine g_ord kX1_193 hK (c := 26) (by omega) (Nat.le_of_ble_eq_true rfl) (by first | decide | exact Nat.le_add_left 1 _) (Nat.zero_le _) (Nat.zero_le _) dX1_readSingle_10 ?_
  refine g_tald hK.2.2.2.1.2 (by omega) (by omega) dX1_readSingle_13 ?_
  refine g_switch (67) 81 dX1_readSingle_14 (by decide) (by decide) (by decide) (by decide) ?_
  refine g_aload_n dX1_readSingle_81 rfl ?_
  refine g_gets (hK.1 26 (by decide)).1 wgX1_206 dX1_readSingle_82 ?_
  refine g_callV0 kX1_200 (m1_takeDeeper 26 (by decide) (by decide) hK hA hs1 hd8 hI0) hg rfl rfl rfl (Nat.le_of_ble_eq_true rfl) (by decide) (by show 3 + 1 ≤ d + 1; omega) (Nat.zero_le _) (Nat.zero_le _) dX1_readSingle_85 ?_
  rintro v1 h2 z1 ⟨rfl, hO2, hcs⟩
  rcases hcs with ⟨e8, rfl, hI2⟩ | ⟨e8, eb, rfl, hI2⟩ | ⟨e8, eb, rfl, hI2⟩
  · have hno : lo = none := by
      cases hh : lo with
      | none => rfl
      | some q => exact absurd (hlo q hh).1 (by omega)
    subst hno
    refine g_if_eqB 119 dX1_readSingle_88 (by decide) (fun _ => ?_) (fun q => absurd q (by decide))
    refine g_iconst (nI 0) dX1_readSingle_119 (by decide) ?_
    exact g_iret hE rfl (hfin false _ _ _ _ hI2 (fun q => by cases q) hO2 (by unfold pS; refine (if_neg (by omega)).trans ((if_pos hk).trans ?_); rfl)) dX1_readSingle_120
  · exact Bool.noConfusion (show true = false from by rw [pTk_y hk] at eb; exact eb)
  · cases hh : lo with
    | none => exact absurd (hl0 hh) (by omega)
    | some q =>
      subst hh
      obtain ⟨-, ⟨d1, hd1, hv⟩, ht, ⟨kv, hPv⟩, kt, hPt⟩ := hlo q rfl
      rw [pTk_y hk] at hI2
      obtain ⟨fs2, hg2⟩ := hI2.gat
      have p2 := PsOk.step p1 hPt (by decide) (by decide)
      refine g_if_eqB 119 dX1_readSingle_88 (by decide) (fun c_88 => ?_) (fun c_88 => ?_)
      · exact absurd c_88 (by decide)
      · refine g_aload_n dX1_readSingle_91 rfl ?_
        refine g_callV0 kX1_129 (ht _ _ _ _ _ p1 hI2) hg2 rfl rfl rfl (Nat.le_of_ble_eq_true rfl) (by decide) (by show d + 1 ≤ d + 1; omega) (Nat.zero_le _) (Nat.zero_le _) dX1_readSingle_92 ?_
        rintro v1 h3 z1 ⟨rfl, rfl, ⟨dp3, ir3, hI3, hdp3⟩, hO3⟩
        obtain ⟨fs3, hg3⟩ := hI3.gat
        refine g_if_eqB 119 dX1_readSingle_95 (by decide) (fun c_95 => ?_) (fun c_95 => ?_)
        · refine g_iconst (nI 0) dX1_readSingle_119 (by decide) ?_
          exact g_iret hE rfl (hfin false _ _ _ _ hI3 (fun q => by cases q) (hO2.trans hO3) (by unfold pS; refine (if_neg (by omega)).trans ((if_pos hk).trans ?_); show pSq _ _ s0 = _; rw [pSq_t (pTk_y hk), pSq_n c_95])) dX1_readSingle_120
        · refine g_aload_n dX1_readSingle_98 rfl ?_
          have hdp3 := hdp3 c_95
          subst hdp3
          refine g_callV0 kX1_203 (m1_rise hA hI3) hg3 rfl rfl rfl (Nat.le_of_ble_eq_true rfl) (by decide) (by show 0 + 1 ≤ d + 1; omega) (Nat.zero_le _) (Nat.zero_le _) dX1_readSingle_99 ?_
          rintro v1 h4 z1 ⟨rfl, rfl, hI4, hO4⟩
          obtain ⟨fs4, hg4⟩ := hI4.gat
          refine g_if_eqB 119 dX1_readSingle_102 (by decide) (fun c_102 => ?_) (fun c_102 => ?_)
          · exact absurd c_102 (by decide)
          · refine g_aload_n dX1_readSingle_105 rfl ?_
            refine g_gets (hK.1 27 (by decide)).1 wgX1_209 dX1_readSingle_106 ?_
            refine g_callV0 kX1_63 (m1_take 27 (by decide) (by decide) hK hA p2.1 hI4) hg4 rfl rfl rfl (Nat.le_of_ble_eq_true rfl) (by decide) (by show 2 + 1 ≤ d + 1; omega) (Nat.zero_le _) (Nat.zero_le _) dX1_readSingle_109 ?_
            rintro v1 h5 z1 ⟨rfl, rfl, hI5, hO5⟩
            refine g_if_eqB 119 dX1_readSingle_112 (by decide) (fun c_112 => ?_) (fun c_112 => ?_)
            · refine g_iconst (nI 0) dX1_readSingle_119 (by decide) ?_
              exact g_iret hE rfl (hfin false _ _ _ _ hI5 (fun q => by cases q) (((hO2.trans hO3).trans hO4).trans hO5) (by unfold pS; refine (if_neg (by omega)).trans ((if_pos hk).trans ?_); show pSq _ _ s0 = _; rw [pSq_t (pTk_y hk), pSq_y c_95]; exact Prod.ext c_112 rfl)) dX1_readSingle_120
            · refine g_iconst (nI 1) dX1_readSingle_115 (by decide) ?_
              refine g_goto 120 dX1_readSingle_116 (by decide) ?_
              exact g_iret hE rfl (hfin true _ _ _ _ hI5 (fun _ => rfl) (((hO2.trans hO3).trans hO4).trans hO5) (by unfold pS; refine (if_neg (by omega)).trans ((if_pos hk).trans ?_); show pSq _ _ s0 = _; rw [pSq_t (pTk_y hk), pSq_y c_95]; exact Prod.ext c_112 rfl)) dX1_readSingle_120
set_option maxRecDepth 100000 in
set_option maxHeartbeats 4000000 in
theorem m1_readSingle_18 {X : gX} {K : gKo} {g p n d dp : Nat} {f : Nat → Int32} {lo : Option (PF × PF)} {u : PF} (h4 : 4 ≤ d) (hK : gCo X K) (hA : ApG g p) (hn : n ≤ 2000) (hL : LoT X K g p n f d dp lo) (h : gH) (z : Nat) (s0 : PSt) (ir0 : Int32) (W : gWo) (hs0 : PsOk n f s0) (hI0 : GrI X K h g p n f s0 dp ir0 W) (hk : tkk n f s0.1 = 18) : gM X yX1_readSingle cX1_readSingle 1 (some .boolean) (d + 1, 0, 0) [.ref g] h z (fun r h' z' => r = some (.int (b2i ((pS (tkk n f) lo u) s0).1)) ∧ z' = z ∧ (∃ dp' ir', GrI X K h' g p n f ((pS (tkk n f) lo u) s0).2 dp' ir' W ∧ (((pS (tkk n f) lo u) s0).1 = true → dp' = dp)) ∧ OffG h h' g p) gNoX := by
  have hfin : ∀ (b : Bool) (h1 : gH) (s : PSt) (dp' : Nat) (ir : Int32), GrI X K h1 g p n f s dp' ir W → (b = true → dp' = dp) → OffG h h1 g p → (pS (tkk n f) lo u) s0 = (b, s) → some (Value.int (b2i b)) = some (.int (b2i ((pS (tkk n f) lo u) s0).1)) ∧ z = z ∧ (∃ dp' ir', GrI X K h1 g p n f ((pS (tkk n f) lo u) s0).2 dp' ir' W ∧ (((pS (tkk n f) lo u) s0).1 = true → dp' = dp)) ∧ OffG h h1 g p := by
    intro b h1 s dp' ir hI hdp hO hR
    rw [hR]
    exact ⟨rfl, rfl, ⟨dp', ir, hI, hdp⟩, hO⟩
  obtain ⟨hl1, hl2, hl3⟩ := tkl_spec n f
  obtain ⟨hd8, hl0, hlo⟩ := hL
  have hs1 := hs0.1
  have hs2 := hs0.2.1
  obtain ⟨ep, S, gg, hg, hep, hT, -⟩ := id hI0
  obtain ⟨kf, S1, T1, en, hTT, -⟩ := id hT
  refine gM.of px1 (Nat.le_of_ble_eq_true rfl) ?_
  intro F hE
  have p1 := hs0.step (Ps.tk hl2 (c := 18) (by decide)) (by decide) (by decide)
  rw [pTk_y hk] at p1
  have hlt := tk_lt (n := n) (f := f) (t := s0.1) (by omega) hs1
  have hFF : pS (tkk n f) lo u s0 = pAb (tkk n f) 18 (s0.1 + 1, s0.2) := by unfold pS; refine (if_neg (by omega)).trans ((if_neg (by omega)).trans ((if_pos hk).trans ?_)); rw [pSq_t (pTk_y hk)]
  refine g_gets hK.2.2.2.1.1 wgX1_187 dX1_readSingle_0 ?_
  refine g_aload_n dX1_readSingle_3 rfl ?_
  refine g_getf fl1_12 hg rfl dX1_readSingle_4 ?_
  refine g_getf fl1_41 hTT.1.1 rfl dX1_readSingle_7 ?_
  rw [hk]
  refine g_ord kX1_193 hK (c := 18) (by omega) (Nat.le_of_ble_eq_true rfl) (by first | decide | exact Nat.le_add_left 1 _) (Nat.zero_le _) (Nat.zero_le _) dX1_readSingle_10 ?_
  refine g_tald hK.2.2.2.1.2 (by omega) (by omega) dX1_readSingle_13 ?_
  refine g_switch (107) 121 dX1_readSingle_14 (by decide) (by decide) (by decide) (by decide) ?_
  refine g_aload_n dX1_readSingle_121 rfl ?_
  refine g_gets (hK.1 18 (by decide)).1 wgX1_212 dX1_readSingle_122 ?_
  refine g_callV0 kX1_63 (m1_take 18 (by decide) (by decide) hK hA hs1 hI0) hg rfl rfl rfl (Nat.le_of_ble_eq_true rfl) (by decide) (by show 2 + 1 ≤ d + 1; omega) (Nat.zero_le _) (Nat.zero_le _) dX1_readSingle_125 ?_
  rintro v1 h2 z1 ⟨rfl, rfl, hI2, hO2⟩
  rw [pTk_y hk] at hI2 ⊢
  obtain ⟨fs2, hg2⟩ := hI2.gat
  refine g_if_eqB 156 dX1_readSingle_128 (by decide) (fun c_128 => ?_) (fun c_128 => ?_)
  · exact Bool.noConfusion (show true = false from c_128)
  · refine g_aload_n dX1_readSingle_131 rfl ?_
    refine g_callV0 kX1_155 (m1_readInsultName 5 (Or.inr rfl) hK hA hn p1 hI2) hg2 rfl rfl rfl (Nat.le_of_ble_eq_true rfl) (by decide) (by show 4 + 1 ≤ d + 1; omega) (Nat.zero_le _) (Nat.zero_le _) dX1_readSingle_132 ?_
    rintro v1 h4 z1 ⟨rfl, rfl, ⟨ir4, hI4, hir4⟩, hO4⟩
    obtain ⟨ep4, S4, gg4, hg4, -⟩ := id hI4
    refine g_if_eqB 156 dX1_readSingle_135 (by decide) (fun c_135 => ?_) (fun c_135 => ?_)
    · refine g_iconst (nI 0) dX1_readSingle_156 (by decide) ?_
      exact g_iret hE rfl (hfin false _ _ _ _ hI4 (fun q => by cases q) (hO2.trans hO4) (by rw [hFF]; unfold pAb; rw [pSq_n c_135])) dX1_readSingle_157
    · refine g_aload_n dX1_readSingle_138 rfl ?_
      refine g_gets (hK.1 18 (by decide)).1 wgX1_212 dX1_readSingle_139 ?_
      refine g_aload_n dX1_readSingle_142 rfl ?_
      refine g_getf fl1_158 hg4 rfl dX1_readSingle_143 ?_
      have hk2 : tkk n f (s0.1 + 1) = 2 := pNm_1 c_135
      rw [pNm_y hk2] at hI4
      have hir4 := hir4 c_135
      refine g_callV0 kX1_177 (m1_put 18 (s0.1 + 1) ir4 (by decide) hK hA (by show s0.2.1.length < 400; omega) (fun _ => by rw [hir4]; show _ = (if _ then _ else _); rw [if_pos (Or.inr (Or.inr rfl))]; show _ = oI (fnd (seF n f (s0.2.2 ++ [(5, s0.1 + 1)])).1 _); rw [seF_name (Or.inr rfl)]) hI4) hg4 rfl rfl rfl (Nat.le_of_ble_eq_true rfl) (by decide) (by show 1 + 1 ≤ d + 1; omega) (Nat.zero_le _) (Nat.zero_le _) dX1_readSingle_146 ?_
      rintro v1 h5 z1 ⟨rfl, rfl, hI5, hO5⟩
      refine g_if_eqB 156 dX1_readSingle_149 (by decide) (fun c_149 => ?_) (fun c_149 => ?_)
      · exact absurd c_149 (by decide)
      · refine g_iconst (nI 1) dX1_readSingle_152 (by decide) ?_
        refine g_goto 157 dX1_readSingle_153 (by decide) ?_
        exact g_iret hE rfl (hfin true _ _ _ _ hI5 (fun _ => rfl) ((hO2.trans hO4).trans hO5) (by rw [hFF]; unfold pAb; rw [pSq_t (pNm_y hk2)]; rfl)) dX1_readSingle_157
set_option maxRecDepth 100000 in
set_option maxHeartbeats 4000000 in
theorem m1_readSingle_el {X : gX} {K : gKo} {g p n d dp : Nat} {f : Nat → Int32} {lo : Option (PF × PF)} {u : PF} {ku : Nat} (hu : GCt X K g p n f yX1_readSum cX1_readSum 4 (d - 1) dp u) (hPu : Pg (tkk n f) (tkl n f) u false ku) (h4 : 4 ≤ d) (hK : gCo X K) (hA : ApG g p) (hn : n ≤ 2000) (hL : LoT X K g p n f d dp lo) (h : gH) (z : Nat) (s0 : PSt) (ir0 : Int32) (W : gWo) (hs0 : PsOk n f s0) (hI0 : GrI X K h g p n f s0 dp ir0 W) (hk : tkk n f s0.1 ≠ 19 ∧ tkk n f s0.1 ≠ 26 ∧ tkk n f s0.1 ≠ 18) : gM X yX1_readSingle cX1_readSingle 1 (some .boolean) (d + 1, 0, 0) [.ref g] h z (fun r h' z' => r = some (.int (b2i ((pS (tkk n f) lo u) s0).1)) ∧ z' = z ∧ (∃ dp' ir', GrI X K h' g p n f ((pS (tkk n f) lo u) s0).2 dp' ir' W ∧ (((pS (tkk n f) lo u) s0).1 = true → dp' = dp)) ∧ OffG h h' g p) gNoX := by
  have hfin : ∀ (b : Bool) (h1 : gH) (s : PSt) (dp' : Nat) (ir : Int32), GrI X K h1 g p n f s dp' ir W → (b = true → dp' = dp) → OffG h h1 g p → (pS (tkk n f) lo u) s0 = (b, s) → some (Value.int (b2i b)) = some (.int (b2i ((pS (tkk n f) lo u) s0).1)) ∧ z = z ∧ (∃ dp' ir', GrI X K h1 g p n f ((pS (tkk n f) lo u) s0).2 dp' ir' W ∧ (((pS (tkk n f) lo u) s0).1 = true → dp' = dp)) ∧ OffG h h1 g p := by
    intro b h1 s dp' ir hI hdp hO hR
    rw [hR]
    exact ⟨rfl, rfl, ⟨dp', ir, hI, hdp⟩, hO⟩
  obtain ⟨hl1, hl2, hl3⟩ := tkl_spec n f
  obtain ⟨hd8, hl0, hlo⟩ := hL
  have hs1 := hs0.1
  have hs2 := hs0.2.1
  obtain ⟨ep, S, gg, hg, hep, hT, -⟩ := id hI0
  obtain ⟨kf, S1, T1, en, hTT, -⟩ := id hT
  refine gM.of px1 (Nat.le_of_ble_eq_true rfl) ?_
  intro F hE
  have h39 := tkk_lt n f s0.1
  have hsw := (swS _ h39).resolve_left (by omega)
  have hsb := swB _ h39
  have hc := m1_readComparison (by omega) hK hA hPu hu
  refine g_gets hK.2.2.2.1.1 wgX1_187 dX1_readSingle_0 ?_
  refine g_aload_n dX1_readSingle_3 rfl ?_
  refine g_getf fl1_12 hg rfl dX1_readSingle_4 ?_
  refine g_getf fl1_41 hTT.1.1 rfl dX1_readSingle_7 ?_
  refine g_ord kX1_193 hK (c := tkk n f s0.1) (by omega) (Nat.le_of_ble_eq_true rfl) (by first | decide | exact Nat.le_add_left 1 _) (Nat.zero_le _) (Nat.zero_le _) dX1_readSingle_10 ?_
  refine g_tald hK.2.2.2.1.2 (by omega) (by omega) dX1_readSingle_13 ?_
  refine g_switchD 158 dX1_readSingle_14 (by rw [nI_toInt (by omega)]; omega) (by decide) ?_
  refine g_aload_n dX1_readSingle_158 rfl ?_
  refine g_callV0 kX1_215 (hc _ _ _ _ _ hs0 hI0) hg rfl rfl rfl (Nat.le_of_ble_eq_true rfl) (by decide) (by show d - 1 + 1 + 1 ≤ d + 1; omega) (Nat.zero_le _) (Nat.zero_le _) dX1_readSingle_159 ?_
  rintro v1 h2 z1 ⟨rfl, rfl, ⟨dp2, ir2, hI2, hdp2⟩, hO2⟩
  exact g_iret hE (nrB _) (hfin _ _ _ _ _ hI2 hdp2 hO2 (by unfold pS; exact (if_neg hk.1).trans ((if_neg hk.2.1).trans (if_neg hk.2.2)))) dX1_readSingle_162
theorem m1_readSingle {X : gX} {K : gKo} {g p n d dp : Nat} {f : Nat → Int32} {lo : Option (PF × PF)} {u : PF} {ku : Nat} (h4 : 4 ≤ d) (hu : GCt X K g p n f yX1_readSum cX1_readSum 4 (d - 1) dp u) (hPu : Pg (tkk n f) (tkl n f) u false ku) (hK : gCo X K) (hA : ApG g p) (hn : n ≤ 2000) (hL : LoT X K g p n f d dp lo) : GCt X K g p n f yX1_readSingle cX1_readSingle 1 (d + 1) dp (pS (tkk n f) lo u) := by
  intro h z s0 ir0 W hs0 hI0
  by_cases h19 : tkk n f s0.1 = 19
  · exact m1_readSingle_19 h4 hK hA hn hL h z s0 ir0 W hs0 hI0 h19
  · by_cases h26 : tkk n f s0.1 = 26
    · exact m1_readSingle_26 h4 hK hA hn hL h z s0 ir0 W hs0 hI0 h26
    · by_cases h18 : tkk n f s0.1 = 18
      · exact m1_readSingle_18 h4 hK hA hn hL h z s0 ir0 W hs0 hI0 h18
      · exact m1_readSingle_el hu hPu h4 hK hA hn hL h z s0 ir0 W hs0 hI0 ⟨h19, h26, h18⟩
set_option maxRecDepth 100000 in
theorem lvT_ct {X : gX} {K : gKo} {g p n : Nat} {f : Nat → Int32} (hK : gCo X K) (hA : ApG g p) (hn : n ≤ 2000) : ∀ D, D ≤ 8 → GCt X K g p n f yX1_readSingle cX1_readSingle 1 (9 + 3 * D) (8 - D) (lvT (tkk n f) (tku n f) D).1 ∧ GCt X K g p n f yX1_readTest cX1_readTest 3 (11 + 3 * D) (8 - D) (lvT (tkk n f) (tku n f) D).2 := by
  have hl := (tkl_spec n f).2.1
  intro D
  induction D with
  | zero =>
    intro _
    have hs := (lvV_ct (f := f) hK hA hn 0 (Nat.zero_le _)).2
    have hps := (lvV_ok (nu := tku n f) hl 0).2
    have h := m1_readSingle (f := f) (d := 8) (dp := 8) (lo := none) (by decide) hs hps hK hA hn ⟨Nat.le_refl _, fun _ => rfl, fun q e => by cases e⟩
    have hp := Pg.s hl none hps (fun q e => by cases e)
    exact ⟨h, m1_readTest (d := 10) (by decide) hK hA (Pg.ch hl opA_ok hp) (m1_readBoth (d := 9) (by decide) hK hA hp h)⟩
  | succ D ih =>
    intro hD
    obtain ⟨i1, i2⟩ := ih (by omega)
    obtain ⟨k1, k2⟩ := lvT_ok (nu := tku n f) hl D
    have hs := (lvV_ct (f := f) hK hA hn (D + 1) hD).2
    have hps := (lvV_ok (nu := tku n f) hl (D + 1)).2
    have e8 : 8 - (D + 1) + 1 = 8 - D := by omega
    rw [show 7 + 3 * (D + 1) = (11 + 3 * D) - 1 by omega] at hs
    have h := m1_readSingle (f := f) (d := 11 + 3 * D) (dp := 8 - (D + 1)) (lo := some (lvT (tkk n f) (tku n f) D)) (by omega) hs hps hK hA hn ⟨by omega, (fun e => by cases e), fun q e => by
      cases e
      rw [e8]
      exact ⟨by omega, ⟨_, by omega, i1⟩, i2, ⟨_, k1⟩, _, k2⟩⟩
    have hp := (lvT_ok (nu := tku n f) hl (D + 1)).1
    rw [show 11 + 3 * D + 1 = 9 + 3 * (D + 1) by omega] at h
    have h2 := m1_readBoth (d := 9 + 3 * (D + 1)) (by omega) hK hA hp h
    rw [show 9 + 3 * (D + 1) + 1 = 10 + 3 * (D + 1) by omega] at h2
    have h3 := m1_readTest (d := 10 + 3 * (D + 1)) (by omega) hK hA (Pg.ch hl opA_ok hp) h2
    rw [show 10 + 3 * (D + 1) + 1 = 11 + 3 * (D + 1) by omega] at h3
    exact ⟨h, h3⟩
