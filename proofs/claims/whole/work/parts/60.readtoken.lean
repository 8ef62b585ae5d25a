/-! the tokens: words, numbers and signs are read -/
theorem g_getsN {X : gX} {F : gF} {cc : ByteArray} {nL : Nat} {own : String} {R : Nat × Nat × Nat} {k n pc : Nat} {lv : List (Option Value)} {st : List Value} {h : gH} {z : Nat} {C nm d host : String} {v : Value} {idx : Nat} (hZ : gZ X C nm d v) (w : Cond.fieldLinkNest own idx C nm d host ∈ lw_tbl) (dg : decode cc pc = .ok (.getstatic idx, 3)) (kk : G X F cc nL own R k n (pc + 3) lv (v :: st) h z) : G X F cc nL own R k n pc lv st h z := by
  obtain ⟨p, e, Rm, s, m, args, below, meth, c, Q⟩ := F
  intro ok H locs ls hA hq hl
  obtain ⟨cf, kf, fi, f, a, cell, h1, h2, h3, h4, h5, h6, h7, h8⟩ := va_Z.moved ok.2.2.1.alike hZ
  exact va_WgetsN ok.1.1 ok.1.2.1 ok.1.2.2.2 (gnestF ok.2.1 ok.2.2.1 w args) h1 h2 h3 h4 (hA.old h5) (fun e => by rw [e] at h6; cases h6) h7 rfl dg (kk ok H locs ls hA hq hl)
theorem wgX8_108 : Cond.fieldLinkNest RX8 108 RX7 "ALL" "[LParrotSquawks$Token;" "ParrotSquawks" ∈ lw_tbl := gm2 97 (by decide +kernel)
abbrev tln (c : Nat) : Nat := (tkT.getD c []).length
abbrev tt0 (c : Nat) : Nat := (tkT.getD c []).getD 0 0
theorem tk_f1 : ∀ c, c < 5 → tln c = 0 := by decide +kernel
theorem tk_f2 : ∀ c, c < 24 → 5 ≤ c → 1 ≤ tln c ∧ 97 ≤ tt0 c ∧ tt0 c ≤ 122 := by decide +kernel
theorem tk_f3 : ∀ c, c < 39 → 24 ≤ c → tln c = 1 ∨ (tln c = 2 ∧ (tkT.getD c []).getD 1 0 = 61) := by decide +kernel
theorem tk_f4 : ∀ c, c < 39 → 24 ≤ c → tt0 c < 97 ∨ 122 < tt0 c := by decide +kernel
theorem tk_f5 : ∀ c, c < 39 → 24 ≤ c → tt0 c ∈ [40, 41, 91, 93, 59, 44, 43, 45, 42, 47, 60, 62, 61] := by decide +kernel
theorem tk_facts (c : Nat) (hc : c < 39) : (c < 5 → tln c = 0) ∧ (5 ≤ c → c < 24 → 1 ≤ tln c ∧ 97 ≤ tt0 c ∧ tt0 c ≤ 122) ∧ (24 ≤ c → (tln c = 1 ∨ (tln c = 2 ∧ (tkT.getD c []).getD 1 0 = 61)) ∧ (tt0 c < 97 ∨ 122 < tt0 c) ∧ tt0 c ∈ [40, 41, 91, 93, 59, 44, 43, 45, 42, 47, 60, 62, 61]) := ⟨tk_f1 c, fun a b => tk_f2 c b a, fun a => ⟨tk_f3 c hc a, tk_f4 c hc a, tk_f5 c hc a⟩⟩
theorem syl_tln : ∀ c, c < 39 → (c = 0 ∨ 24 ≤ c) → tln c = syl c := by decide +kernel
theorem nI_Le {b : Nat} (h : b < 2 ^ 31) : isLe (nI b) = true ↔ 97 ≤ b ∧ b ≤ 122 := by
  unfold isLe
  rw [decide_eq_true_eq, nI_leI (by decide) h, nI_leI h (by decide)]
theorem word_match {n : Nat} {f : Nat → Int32} {s e c : Nat} (hc : c < 39) (h1 : s < e) (h2 : e ≤ n) (hl : isLe (f s) = true) : (tln c = e - s ∧ shT n f s c = true) ↔ (5 ≤ c ∧ c < 24 ∧ wm f s e c = true) := by
  obtain ⟨k1, k2, k3⟩ := tk_facts c hc
  have h8 := tkT_b hc 0
  constructor
  · rintro ⟨g1, g2⟩
    have g3 := of_decide_eq_true g2
    have c5 : 5 ≤ c := by
      rcases Nat.lt_or_ge c 5 with q | q
      · have := k1 q; omega
      · exact q
    have c24 : c < 24 := by
      rcases Nat.lt_or_ge c 24 with q | q
      · exact q
      · have g4 := g3 0 (by have : tln c = (tkT.getD c []).length := rfl; omega)
        rw [Nat.add_zero, byt, if_pos (by omega)] at g4
        rw [g4] at hl
        have := (nI_Le (by omega)).mp hl
        have := (k3 q).2.1
        have e0 : tt0 c = (tkT.getD c []).getD 0 0 := rfl
        omega
    exact ⟨c5, c24, decide_eq_true ⟨g1, fun i hi => by
      have := g3 i hi
      rw [byt, if_pos (by have : tln c = (tkT.getD c []).length := rfl; omega)] at this
      exact this⟩⟩
  · rintro ⟨g1, g2, g3⟩
    obtain ⟨g4, g5⟩ := of_decide_eq_true g3
    exact ⟨g4, decide_eq_true (fun i hi => by rw [byt, if_pos (by omega)]; exact g5 i hi)⟩
def lgM (M : Nat → Bool) : Nat → Nat
  | 0 => 0
  | c + 1 => if tln (lgM M c) < tln c ∧ M c = true then c else lgM M c
theorem lgM_lt {M : Nat → Bool} : ∀ {j : Nat}, lgM M j ≤ j := by
  intro j
  induction j with
  | zero => exact Nat.le_refl _
  | succ j ih => unfold lgM; split <;> omega
theorem lgM_congr {M N : Nat → Bool} : ∀ {j : Nat}, (∀ c, c < j → 0 < tln c → M c = N c) → lgM M j = lgM N j := by
  intro j
  induction j with
  | zero => intro _; rfl
  | succ j ih =>
    intro h
    have e := ih (fun c hc => h c (by omega))
    unfold lgM
    rw [e]
    by_cases g : 0 < tln j
    · rw [h j (by omega) g]
    · rw [if_neg (fun q => by omega), if_neg (fun q => by omega)]
def mk2 (x : Nat) (q : Bool) (c : Nat) : Bool := decide (tt0 c = x) && (tln c == 1 || q)
theorem mk2_ok {n : Nat} {f : Nat → Int32} {s x : Nat} (hs : s < n) (hx : x < 97) (hb : f s = nI x) : ∀ c, c < 39 → 0 < tln c → shT n f s c = mk2 x (decide (byt n f (s + 1) = nI 61)) c := by
  intro c hc hp
  obtain ⟨k1, k2, k3⟩ := tk_facts c hc
  have h8 := tkT_b hc 0
  have b0 : byt n f (s + 0) = nI x := by rw [Nat.add_zero, byt, if_pos hs]; exact hb
  have hln : tln c = (tkT.getD c []).length := rfl
  unfold mk2 shT
  by_cases e : tt0 c = x
  · have c24 : 24 ≤ c := by
      rcases Nat.lt_or_ge c 24 with q | q
      · rcases Nat.lt_or_ge c 5 with q5 | q5
        · have := k1 q5; omega
        · have := k2 q5 q; omega
      · exact q
    rw [decide_eq_true e, Bool.true_and]
    rcases (k3 c24).1 with q | ⟨q, q2⟩
    · rw [q]
      simp only [beq_self_eq_true, Bool.true_or]
      refine decide_eq_true (fun i hi => ?_)
      have hi0 : i = 0 := by omega
      subst hi0
      rw [b0, ← e]
    · rw [q]
      rw [show ((2 : Nat) == 1) = false from rfl, Bool.false_or]
      by_cases g : byt n f (s + 1) = nI 61
      · rw [decide_eq_true g]
        refine decide_eq_true (fun i hi => ?_)
        rcases (show i = 0 ∨ i = 1 by omega) with rfl | rfl
        · rw [b0, ← e]
        · rw [g, q2]
      · rw [decide_eq_false g]
        refine decide_eq_false (fun h => g ?_)
        rw [h 1 (by omega), q2]
  · rw [decide_eq_false e, Bool.false_and]
    refine decide_eq_false (fun h => e ?_)
    have := h 0 (by omega)
    rw [b0] at this
    exact ((nI_eq (by omega) (by omega)).mp this).symm
theorem lgM_none : lgM (fun _ => false) 39 = 0 := by decide +kernel
theorem lgM_40 : ∀ q : Bool, lgM (mk2 40 q) 39 = 24 := by decide +kernel
theorem lgM_41 : ∀ q : Bool, lgM (mk2 41 q) 39 = 25 := by decide +kernel
theorem lgM_91 : ∀ q : Bool, lgM (mk2 91 q) 39 = 26 := by decide +kernel
theorem lgM_93 : ∀ q : Bool, lgM (mk2 93 q) 39 = 27 := by decide +kernel
theorem lgM_59 : ∀ q : Bool, lgM (mk2 59 q) 39 = 28 := by decide +kernel
theorem lgM_44 : ∀ q : Bool, lgM (mk2 44 q) 39 = 29 := by decide +kernel
theorem lgM_43 : ∀ q : Bool, lgM (mk2 43 q) 39 = 30 := by decide +kernel
theorem lgM_45 : ∀ q : Bool, lgM (mk2 45 q) 39 = 31 := by decide +kernel
theorem lgM_42 : ∀ q : Bool, lgM (mk2 42 q) 39 = 32 := by decide +kernel
theorem lgM_47 : ∀ q : Bool, lgM (mk2 47 q) 39 = 33 := by decide +kernel
theorem lgM_61 : ∀ q : Bool, lgM (mk2 61 q) 39 = 36 := by decide +kernel
theorem lgM_60 : lgM (mk2 60 true) 39 = 37 ∧ lgM (mk2 60 false) 39 = 34 := by decide +kernel
theorem lgM_62 : lgM (mk2 62 true) 39 = 38 ∧ lgM (mk2 62 false) 39 = 35 := by decide +kernel
theorem lgM_sy {n : Nat} {f : Nat → Int32} {s : Nat} (hs : s < n) (hl : isLe (f s) = false) : lgM (shT n f s) 39 = sy (f s) (byt n f (s + 1)) := by
  have key : ∀ x, x < 97 → f s = nI x → lgM (shT n f s) 39 = lgM (mk2 x (decide (byt n f (s + 1) = nI 61))) 39 := fun x hx hb => lgM_congr (mk2_ok hs hx hb)
  rcases sy_cs (f s) (byt n f (s + 1)) with ⟨g, q⟩ | ⟨g, q⟩ | ⟨g, q⟩ | ⟨g, q⟩ | ⟨g, q⟩ | ⟨g, q⟩ | ⟨g, q⟩ | ⟨g, q⟩ | ⟨g, q⟩ | ⟨g, q⟩ | ⟨g, g2, q⟩ | ⟨g, g2, q⟩ | ⟨g, g2, q⟩ | ⟨g, g2, q⟩ | ⟨g, q⟩ | ⟨n1, n2, n3, n4, n5, n6, n7, n8, n9, n10, n11, n12, n13, q⟩
  · rw [q, key 40 (by decide) g, lgM_40]
  · rw [q, key 41 (by decide) g, lgM_41]
  · rw [q, key 91 (by decide) g, lgM_91]
  · rw [q, key 93 (by decide) g, lgM_93]
  · rw [q, key 59 (by decide) g, lgM_59]
  · rw [q, key 44 (by decide) g, lgM_44]
  · rw [q, key 43 (by decide) g, lgM_43]
  · rw [q, key 45 (by decide) g, lgM_45]
  · rw [q, key 42 (by decide) g, lgM_42]
  · rw [q, key 47 (by decide) g, lgM_47]
  · rw [q, key 60 (by decide) g, decide_eq_true g2, lgM_60.1]
  · rw [q, key 60 (by decide) g, decide_eq_false g2, lgM_60.2]
  · rw [q, key 62 (by decide) g, decide_eq_true g2, lgM_62.1]
  · rw [q, key 62 (by decide) g, decide_eq_false g2, lgM_62.2]
  · rw [q, key 61 (by decide) g, lgM_61]
  · rw [q, lgM_congr (N := fun _ => false) (fun c hc hp => ?_), lgM_none]
    obtain ⟨k1, k2, k3⟩ := tk_facts c hc
    have hln : tln c = (tkT.getD c []).length := rfl
    refine decide_eq_false (fun h => ?_)
    have h0 := h 0 (by omega)
    rw [Nat.add_zero, byt, if_pos hs] at h0
    have h1 : f s = nI (tt0 c) := h0
    rcases Nat.lt_or_ge c 5 with q5 | q5
    · have := k1 q5; omega
    · rcases Nat.lt_or_ge c 24 with q24 | q24
      · have k := k2 q5 q24
        rw [h1, (nI_Le (by omega)).mpr k.2] at hl
        cases hl
      · have k9 := (k3 q24).2.2
        simp only [List.mem_cons, List.not_mem_nil, or_false] at k9
        rcases k9 with w | w | w | w | w | w | w | w | w | w | w | w | w
        · exact n1 (by rw [h1, w])
        · exact n2 (by rw [h1, w])
        · exact n3 (by rw [h1, w])
        · exact n4 (by rw [h1, w])
        · exact n5 (by rw [h1, w])
        · exact n6 (by rw [h1, w])
        · exact n7 (by rw [h1, w])
        · exact n8 (by rw [h1, w])
        · exact n9 (by rw [h1, w])
        · exact n10 (by rw [h1, w])
        · exact n11 (by rw [h1, w])
        · exact n12 (by rw [h1, w])
        · exact n13 (by rw [h1, w])
set_option maxRecDepth 100000 in
set_option maxHeartbeats 4000000 in
theorem m8_readWord {X : gX} {h : gH} {z q n la k kd st en : Nat} {f : Nat → Int32} {kf : Nat → Option Nat} {S T : Nat → Int32} {K : gKo} (hK : gCo X K) (hs : st < n) (hl : isLe (f st) = true) (he : en = st) (hT : TkT X h q n f kf S T la k kd st en) (hn : n ≤ 2000) : gM X yX8_readWord cX8_readWord 5 (some (.object "ParrotSquawks$Token")) (5, 0, 0) [.ref q] h z (fun r h' z' => r = some (.ref (K.1 (if 10 < sce bLD n f st - st then 0 else wcd f st (sce bLD n f st)))) ∧ z' = z ∧ TkT X h' q n f kf S T la k kd st (sce bLD n f st) ∧ OffB h h' q 6) gNoX := by
  subst he
  obtain ⟨s1, s2, s3⟩ := sce_spec bLD n f en
  have s4 := sce_le (P := bLD) (f := f) (Nat.le_of_lt hs)
  have s5 : en < sce bLD n f en := by rw [sce_step hs (by unfold bLD; rw [hl]; rfl)]; have := (sce_spec bLD n f (en + 1)).1; omega
  refine gM.of px8 (Nat.le_of_ble_eq_true rfl) ?_
  intro F hE
  have fin : ∀ (h1 : gH), TkT X h1 q n f kf S T la k kd en (sce bLD n f en) → OffB h h1 q 6 → G X F cX8_readWord 5 yX8_readWord.cls (5, 0, 0) 0 0 44 [some (.ref q), none, none, none, none] [] h1 z := by
    intro h1 hT hO
    have loop : ∀ (r j : Nat) (o : Option Value), j + r = 39 → ¬ 10 < sce bLD n f en - en → (∀ c, c < j → ¬ (tln c = sce bLD n f en - en ∧ shT n f en c = true)) → G X F cX8_readWord 5 yX8_readWord.cls (5, 0, 0) 0 0 71 [some (.ref q), some (.ref K.2.2.1), some (.int (nI 39)), some (.int (nI j)), o] [] h1 z := by
      intro r
      induction r with
      | zero =>
        intro j o hj hle hm
        refine g_iload_n dX8_readWord_71 rfl ?_
        refine g_iload_n dX8_readWord_72 rfl ?_
        refine g_icmp_geN 122 dX8_readWord_73 (by decide) (by omega) (by omega) (fun c_73 => ?_) (fun c_73 => ?_)
        · refine g_gets (hK.1 2 (by decide)).1 wgX8_125 dX8_readWord_122 ?_
          exact g_aret (C := "ParrotSquawks$Token") hE (⟨by
            rw [if_neg hle, show wcd f en (sce bLD n f en) = 2 from ?_]
            unfold wcd
            rw [fstA_none.mpr (fun i g1 g2 => ?_)]
            · rfl
            · cases hw : wm f en (sce bLD n f en) i with
              | false => rfl
              | true => exact absurd ((word_match (by omega) s5 s4 hl).mpr ⟨g1, by omega, hw⟩) (hm i (by omega)), rfl, hT, hO⟩) dX8_readWord_125
        · exact absurd c_73 (by omega)
      | succ r ih =>
        intro j o hj hle hm
        have hj39 : j < 39 := by omega
        have nx : ∀ (o : Option Value), ¬ (tln j = sce bLD n f en - en ∧ shT n f en j = true) → G X F cX8_readWord 5 yX8_readWord.cls (5, 0, 0) 0 0 116 [some (.ref q), some (.ref K.2.2.1), some (.int (nI 39)), some (.int (nI j)), o] [] h1 z := by
          intro o hno
          refine g_iincN dX8_readWord_116 rfl (by decide) rfl ?_
          refine g_goto 71 dX8_readWord_119 (by decide) ?_
          refine ih (j + 1) o (by omega) hle (fun c hc => ?_)
          by_cases e : c = j
          · subst e; exact hno
          · exact hm c (by omega)
        refine g_iload_n dX8_readWord_71 rfl ?_
        refine g_iload_n dX8_readWord_72 rfl ?_
        refine g_icmp_geN 122 dX8_readWord_73 (by decide) (by omega) (by omega) (fun c_73 => ?_) (fun c_73 => ?_)
        · exact absurd c_73 (by omega)
        · refine g_aload_n dX8_readWord_76 rfl ?_
          refine g_iload_n dX8_readWord_77 rfl ?_
          refine g_tqld hK.2.2.1.2 (by omega) (by omega) dX8_readWord_78 ?_
          refine g_astore dX8_readWord_79 (by decide) rfl ?_
          refine g_aload dX8_readWord_81 rfl ?_
          refine g_getON (hK.1 j hj39).2.2.2 wtx dX8_readWord_83 ?_
          refine g_callVO0 kX8_115 (mJ0_length hK (hK.2.1 j hj39) (by have := tkT_len j hj39; omega)) (hK.2.1 j hj39).1 rfl rfl (Nat.le_of_ble_eq_true rfl) (by decide) (by decide) (by decide) (by decide) dX8_readWord_86 ?_
          rintro v1 h2 z1 ⟨rfl, rfl, rfl⟩
          refine g_aload_n dX8_readWord_89 rfl ?_
          refine g_getf fl8_38 hT.1.1 rfl dX8_readWord_90 ?_
          refine g_aload_n dX8_readWord_93 rfl ?_
          refine g_getf fl8_46 hT.1.1 rfl dX8_readWord_94 ?_
          first | refine g_isubN dX8_readWord_97 (by omega) ?_ | refine g_isub dX8_readWord_97 ?_
          refine g_icmp_neN 116 dX8_readWord_98 (by decide) (by have := tkT_len j hj39; omega) (by omega) (fun c_98 => ?_) (fun c_98 => ?_)
          · exact nx _ (fun q => c_98 q.1)
          · refine g_aload_n dX8_readWord_101 rfl ?_
            refine g_aload dX8_readWord_102 rfl ?_
            refine g_getON (hK.1 j hj39).2.2.2 wtx dX8_readWord_104 ?_
            refine g_callV0 kX8_121 (m8_standsHere j hj39 hK (by omega) hT hn) hT.1.1 rfl rfl rfl (Nat.le_of_ble_eq_true rfl) (by decide) (by decide) (by decide) (by decide) dX8_readWord_107 ?_
            rintro v1 h2 z1 ⟨rfl, rfl, rfl⟩
            refine g_if_eqB 116 dX8_readWord_110 (by decide) (fun c_110 => ?_) (fun c_110 => ?_)
            · exact nx _ (fun q => by rw [q.2] at c_110; cases c_110)
            · refine g_aload dX8_readWord_113 rfl ?_
              exact g_aret (C := "ParrotSquawks$Token") hE (⟨by
                obtain ⟨g1, g2, g3⟩ := (word_match hj39 s5 s4 hl).mp ⟨c_98, c_110⟩
                rw [if_neg hle, show wcd f en (sce bLD n f en) = j from ?_]
                unfold wcd
                rw [fstA_some.mpr ⟨g1, by omega, g3, fun i a1 a2 => ?_⟩]
                · rfl
                · cases hw : wm f en (sce bLD n f en) i with
                  | false => rfl
                  | true => exact absurd ((word_match (by omega) s5 s4 hl).mpr ⟨a1, by omega, hw⟩) (hm i a2), rfl, hT, hO⟩) dX8_readWord_115
    refine g_aload_n dX8_readWord_44 rfl ?_
    refine g_getf fl8_38 hT.1.1 rfl dX8_readWord_45 ?_
    refine g_aload_n dX8_readWord_48 rfl ?_
    refine g_getf fl8_46 hT.1.1 rfl dX8_readWord_49 ?_
    first | refine g_isubN dX8_readWord_52 (by omega) ?_ | refine g_isub dX8_readWord_52 ?_
    refine g_bipush (nI 10) dX8_readWord_53 (by decide) ?_
    refine g_icmp_leN 62 dX8_readWord_55 (by decide) (by omega) (by omega) (fun c_55 => ?_) (fun c_55 => ?_)
    · refine g_getsN hK.2.2.1.1 wgX8_108 dX8_readWord_62 ?_
      refine g_astore_n dX8_readWord_65 (by decide) rfl ?_
      refine g_aload_n dX8_readWord_66 rfl ?_
      refine g_tlen hK.2.2.1.2 dX8_readWord_67 ?_
      refine g_istore_n dX8_readWord_68 (by decide) rfl ?_
      refine g_iconst (nI 0) dX8_readWord_69 (by decide) ?_
      refine g_istore_n dX8_readWord_70 (by decide) rfl ?_
      exact loop 39 0 _ rfl (by omega) (fun c hc => absurd hc (Nat.not_lt_zero _))
    · refine g_gets (hK.1 0 (by decide)).1 wgX8_31 dX8_readWord_58 ?_
      exact g_aret (C := "ParrotSquawks$Token") hE (⟨by rw [if_pos (by omega)], rfl, hT, hO⟩) dX8_readWord_61
  have scan : ∀ (r j : Nat) (h1 : gH), j + r = sce bLD n f en → en ≤ j → TkT X h1 q n f kf S T la k kd en j → OffB h h1 q 6 → G X F cX8_readWord 5 yX8_readWord.cls (5, 0, 0) 0 0 0 [some (.ref q), none, none, none, none] [] h1 z := by
    intro r
    induction r with
    | zero =>
      intro j h1 hj hpj hT hO
      rw [Nat.add_zero] at hj
      subst hj
      refine g_aload_n dX8_readWord_0 rfl ?_
      refine g_getf fl8_38 hT.1.1 rfl dX8_readWord_1 ?_
      refine g_aload_n dX8_readWord_4 rfl ?_
      refine g_getf fl8_12 hT.1.1 rfl dX8_readWord_5 ?_
      refine g_getf fl8_49 hT.2.1 rfl dX8_readWord_8 ?_
      refine g_icmp_geN 44 dX8_readWord_11 (by decide) (by omega) (by omega) (fun c_11 => ?_) (fun c_11 => ?_)
      · exact fin _ hT hO
      · refine g_aload_n dX8_readWord_14 rfl ?_
        refine g_getf fl8_12 hT.1.1 rfl dX8_readWord_15 ?_
        refine g_aload_n dX8_readWord_18 rfl ?_
        refine g_getf fl8_38 hT.1.1 rfl dX8_readWord_19 ?_
        refine g_callV0 kX8_75 (m6_byteAt (_) (by omega) hn hT.2) hT.2.1 rfl rfl rfl (Nat.le_of_ble_eq_true rfl) (by decide) (by decide) (by decide) (by decide) dX8_readWord_22 ?_
        rintro v1 h2 z1 ⟨rfl, rfl, rfl⟩
        refine g_callS0 kX8_105 (m8_isLetterOrDigit _) rfl rfl (Nat.le_of_ble_eq_true rfl) (by decide) (by decide) (by decide) (by decide) dX8_readWord_25 ?_
        rintro v1 h2 z1 ⟨rfl, rfl, rfl⟩
        refine g_if_eqB 44 dX8_readWord_28 (by decide) (fun c_28 => ?_) (fun c_28 => ?_)
        · exact fin _ hT hO
        · exact absurd c_28 (by rw [byt, if_pos (by omega)]; exact fun q => Bool.noConfusion ((show bLD (f _) = true from q).symm.trans (s3 (by omega))))
    | succ r ih =>
      intro j h1 hj hpj hT hO
      obtain ⟨a1, a2⟩ := s2 j hpj (by omega)
      refine g_aload_n dX8_readWord_0 rfl ?_
      refine g_getf fl8_38 hT.1.1 rfl dX8_readWord_1 ?_
      refine g_aload_n dX8_readWord_4 rfl ?_
      refine g_getf fl8_12 hT.1.1 rfl dX8_readWord_5 ?_
      refine g_getf fl8_49 hT.2.1 rfl dX8_readWord_8 ?_
      refine g_icmp_geN 44 dX8_readWord_11 (by decide) (by omega) (by omega) (fun c_11 => ?_) (fun c_11 => ?_)
      · exact absurd c_11 (by omega)
      · refine g_aload_n dX8_readWord_14 rfl ?_
        refine g_getf fl8_12 hT.1.1 rfl dX8_readWord_15 ?_
        refine g_aload_n dX8_readWord_18 rfl ?_
        refine g_getf fl8_38 hT.1.1 rfl dX8_readWord_19 ?_
        refine g_callV0 kX8_75 (m6_byteAt (_) (by omega) hn hT.2) hT.2.1 rfl rfl rfl (Nat.le_of_ble_eq_true rfl) (by decide) (by decide) (by decide) (by decide) dX8_readWord_22 ?_
        rintro v1 h2 z1 ⟨rfl, rfl, rfl⟩
        refine g_callS0 kX8_105 (m8_isLetterOrDigit _) rfl rfl (Nat.le_of_ble_eq_true rfl) (by decide) (by decide) (by decide) (by decide) dX8_readWord_25 ?_
        rintro v1 h2 z1 ⟨rfl, rfl, rfl⟩
        refine g_if_eqB 44 dX8_readWord_28 (by decide) (fun c_28 => ?_) (fun c_28 => ?_)
        · exact absurd c_28 (by rw [byt, if_pos a1]; unfold bLD at a2; rw [a2]; decide)
        · refine g_aload_n dX8_readWord_31 rfl ?_
          refine g_dup dX8_readWord_32 rfl ?_
          refine g_getf fl8_38 hT.1.1 rfl dX8_readWord_33 ?_
          refine g_iconst (nI 1) dX8_readWord_36 (by decide) ?_
          first | refine g_iaddN dX8_readWord_37 ?_ | refine g_iadd dX8_readWord_37 ?_
          refine tk_pute fl8_38 hT hO dX8_readWord_38 (fun h2 hT hO => ?_)
          refine g_goto 0 dX8_readWord_41 (by decide) ?_
          exact ih (j + 1) h2 (by omega) (by omega) hT hO
  exact scan (sce bLD n f en - en) en h (by omega) (Nat.le_refl _) hT OffB.rf
set_option maxRecDepth 100000 in
set_option maxHeartbeats 4000000 in
theorem m8_readNumber {X : gX} {h : gH} {z q n la k kd st en : Nat} {f : Nat → Int32} {kf : Nat → Option Nat} {S T : Nat → Int32} {K : gKo} (hK : gCo X K) (hs : st < n) (hl : isDi (f st) = true) (he : en = st) (hT : TkT X h q n f kf S T la k kd st en) (hn : n ≤ 2000) : gM X yX8_readNumber cX8_readNumber 1 (some (.object "ParrotSquawks$Token")) (5, 0, 0) [.ref q] h z (fun r h' z' => r = some (.ref (K.1 (if 6 < sce isDi n f st - st then 0 else 3))) ∧ z' = z ∧ TkT X h' q n f kf S T la k kd st (sce isDi n f st) ∧ OffB h h' q 6) gNoX := by
  subst he
  obtain ⟨s1, s2, s3⟩ := sce_spec isDi n f en
  have s4 := sce_le (P := isDi) (f := f) (Nat.le_of_lt hs)
  refine gM.of px8 (Nat.le_of_ble_eq_true rfl) ?_
  intro F hE
  have scan : ∀ (r j : Nat) (h1 : gH), j + r = sce isDi n f en → en ≤ j → TkT X h1 q n f kf S T la k kd en j → OffB h h1 q 6 → G X F cX8_readNumber 1 yX8_readNumber.cls (5, 0, 0) 0 0 0 [some (.ref q)] [] h1 z := by
    intro r
    induction r with
    | zero =>
      intro j h1 hj hpj hT hO
      rw [Nat.add_zero] at hj
      subst hj
      have fin : G X F cX8_readNumber 1 yX8_readNumber.cls (5, 0, 0) 0 0 44 [some (.ref q)] [] h1 z := by
        refine g_aload_n dX8_readNumber_44 rfl ?_
        refine g_getf fl8_38 hT.1.1 rfl dX8_readNumber_45 ?_
        refine g_aload_n dX8_readNumber_48 rfl ?_
        refine g_getf fl8_46 hT.1.1 rfl dX8_readNumber_49 ?_
        first | refine g_isubN dX8_readNumber_52 (by omega) ?_ | refine g_isub dX8_readNumber_52 ?_
        refine g_bipush (nI 6) dX8_readNumber_53 (by decide) ?_
        refine g_icmp_leN 64 dX8_readNumber_55 (by decide) (by omega) (by omega) (fun c_55 => ?_) (fun c_55 => ?_)
        · refine g_gets (hK.1 3 (by decide)).1 wgX8_128 dX8_readNumber_64 ?_
          exact g_aret (C := "ParrotSquawks$Token") hE (⟨by rw [if_neg (by omega)], rfl, hT, hO⟩) dX8_readNumber_67
        · refine g_gets (hK.1 0 (by decide)).1 wgX8_31 dX8_readNumber_58 ?_
          refine g_goto 67 dX8_readNumber_61 (by decide) ?_
          exact g_aret (C := "ParrotSquawks$Token") hE (⟨by rw [if_pos (by omega)], rfl, hT, hO⟩) dX8_readNumber_67
      refine g_aload_n dX8_readNumber_0 rfl ?_
      refine g_getf fl8_38 hT.1.1 rfl dX8_readNumber_1 ?_
      refine g_aload_n dX8_readNumber_4 rfl ?_
      refine g_getf fl8_12 hT.1.1 rfl dX8_readNumber_5 ?_
      refine g_getf fl8_49 hT.2.1 rfl dX8_readNumber_8 ?_
      refine g_icmp_geN 44 dX8_readNumber_11 (by decide) (by omega) (by omega) (fun c_11 => ?_) (fun c_11 => ?_)
      · exact fin
      · refine g_aload_n dX8_readNumber_14 rfl ?_
        refine g_getf fl8_12 hT.1.1 rfl dX8_readNumber_15 ?_
        refine g_aload_n dX8_readNumber_18 rfl ?_
        refine g_getf fl8_38 hT.1.1 rfl dX8_readNumber_19 ?_
        refine g_callV0 kX8_75 (m6_byteAt (_) (by omega) hn hT.2) hT.2.1 rfl rfl rfl (Nat.le_of_ble_eq_true rfl) (by decide) (by decide) (by decide) (by decide) dX8_readNumber_22 ?_
        rintro v1 h2 z1 ⟨rfl, rfl, rfl⟩
        refine g_callS0 kX8_78 (m8_isDigit _) rfl rfl (Nat.le_of_ble_eq_true rfl) (by decide) (by decide) (by decide) (by decide) dX8_readNumber_25 ?_
        rintro v1 h2 z1 ⟨rfl, rfl, rfl⟩
        refine g_if_eqB 44 dX8_readNumber_28 (by decide) (fun c_28 => ?_) (fun c_28 => ?_)
        · exact fin
        · exact absurd c_28 (by rw [byt, if_pos (by omega), s3 (by omega)]; decide)
    | succ r ih =>
      intro j h1 hj hpj hT hO
      obtain ⟨a1, a2⟩ := s2 j hpj (by omega)
      refine g_aload_n dX8_readNumber_0 rfl ?_
      refine g_getf fl8_38 hT.1.1 rfl dX8_readNumber_1 ?_
      refine g_aload_n dX8_readNumber_4 rfl ?_
      refine g_getf fl8_12 hT.1.1 rfl dX8_readNumber_5 ?_
      refine g_getf fl8_49 hT.2.1 rfl dX8_readNumber_8 ?_
      refine g_icmp_geN 44 dX8_readNumber_11 (by decide) (by omega) (by omega) (fun c_11 => ?_) (fun c_11 => ?_)
      · exact absurd c_11 (by omega)
      · refine g_aload_n dX8_readNumber_14 rfl ?_
        refine g_getf fl8_12 hT.1.1 rfl dX8_readNumber_15 ?_
        refine g_aload_n dX8_readNumber_18 rfl ?_
        refine g_getf fl8_38 hT.1.1 rfl dX8_readNumber_19 ?_
        refine g_callV0 kX8_75 (m6_byteAt (_) (by omega) hn hT.2) hT.2.1 rfl rfl rfl (Nat.le_of_ble_eq_true rfl) (by decide) (by decide) (by decide) (by decide) dX8_readNumber_22 ?_
        rintro v1 h2 z1 ⟨rfl, rfl, rfl⟩
        refine g_callS0 kX8_78 (m8_isDigit _) rfl rfl (Nat.le_of_ble_eq_true rfl) (by decide) (by decide) (by decide) (by decide) dX8_readNumber_25 ?_
        rintro v1 h2 z1 ⟨rfl, rfl, rfl⟩
        refine g_if_eqB 44 dX8_readNumber_28 (by decide) (fun c_28 => ?_) (fun c_28 => ?_)
        · exact absurd c_28 (by rw [byt, if_pos a1, a2]; decide)
        · refine g_aload_n dX8_readNumber_31 rfl ?_
          refine g_dup dX8_readNumber_32 rfl ?_
          refine g_getf fl8_38 hT.1.1 rfl dX8_readNumber_33 ?_
          refine g_iconst (nI 1) dX8_readNumber_36 (by decide) ?_
          first | refine g_iaddN dX8_readNumber_37 ?_ | refine g_iadd dX8_readNumber_37 ?_
          refine tk_pute fl8_38 hT hO dX8_readNumber_38 (fun h2 hT hO => ?_)
          refine g_goto 0 dX8_readNumber_41 (by decide) ?_
          exact ih (j + 1) h2 (by omega) (by omega) hT hO
  exact scan (sce isDi n f en - en) en h (by omega) (Nat.le_refl _) hT OffB.rf
set_option maxRecDepth 100000 in
set_option maxHeartbeats 4000000 in
theorem m8_readSymbol {X : gX} {h : gH} {z q n la k kd st en : Nat} {f : Nat → Int32} {kf : Nat → Option Nat} {S T : Nat → Int32} {K : gKo} (hK : gCo X K) (hs : st < n) (hl : isLe (f st) = false) (hT : TkT X h q n f kf S T la k kd st en) (hn : n ≤ 2000) : gM X yX8_readSymbol cX8_readSymbol 6 (some (.object "ParrotSquawks$Token")) (5, 0, 0) [.ref q] h z (fun r h' z' => r = some (.ref (K.1 (sy (f st) (byt n f (st + 1))))) ∧ z' = z ∧ TkT X h' q n f kf S T la k kd st (st + syl (sy (f st) (byt n f (st + 1)))) ∧ OffB h h' q 6) gNoX := by
  have hsy := lgM_sy hs hl
  have hlt := sy_lt (f st) (byt n f (st + 1))
  have hsl := syl_tln _ hlt.1 hlt.2
  refine gM.of px8 (Nat.le_of_ble_eq_true rfl) ?_
  intro F hE
  have loop : ∀ (r j : Nat) (o : Option Value), j + r = 39 → G X F cX8_readSymbol 6 yX8_readSymbol.cls (5, 0, 0) 0 0 14 [some (.ref q), some (.ref (K.1 (lgM (shT n f st) j))), some (.ref K.2.2.1), some (.int (nI 39)), some (.int (nI j)), o] [] h z := by
    intro r
    induction r with
    | zero =>
      intro j o hj
      rw [Nat.add_zero] at hj
      subst hj
      rw [hsy]
      refine g_iload dX8_readSymbol_14 rfl ?_
      refine g_iload_n dX8_readSymbol_16 rfl ?_
      refine g_icmp_geN 65 dX8_readSymbol_17 (by decide) (by omega) (by omega) (fun c_17 => ?_) (fun c_17 => ?_)
      · refine g_aload_n dX8_readSymbol_65 rfl ?_
        refine g_aload_n dX8_readSymbol_66 rfl ?_
        refine g_getf fl8_46 hT.1.1 rfl dX8_readSymbol_67 ?_
        refine g_aload_n dX8_readSymbol_70 rfl ?_
        refine g_getON (hK.1 _ hlt.1).2.2.2 wtx dX8_readSymbol_71 ?_
        refine g_callVO0 kX8_115 (mJ0_length hK (hK.2.1 _ hlt.1) (by have := tkT_len _ hlt.1; omega)) (hK.2.1 _ hlt.1).1 rfl rfl (Nat.le_of_ble_eq_true rfl) (by decide) (by decide) (by decide) (by decide) dX8_readSymbol_74 ?_
        rintro v1 h2 z1 ⟨rfl, rfl, rfl⟩
        rw [show (tkT.getD (sy (f st) (byt n f (st + 1))) []).length = syl (sy (f st) (byt n f (st + 1))) from hsl]
        first | refine g_iaddN dX8_readSymbol_77 ?_ | refine g_iadd dX8_readSymbol_77 ?_
        refine tk_pute fl8_38 hT OffB.rf dX8_readSymbol_78 (fun h2 hT hO => ?_)
        refine g_aload_n dX8_readSymbol_81 rfl ?_
        exact g_aret (C := "ParrotSquawks$Token") hE (⟨rfl, rfl, hT, hO⟩) dX8_readSymbol_82
      · exact absurd c_17 (by decide)
    | succ r ih =>
      intro j o hj
      have hj39 : j < 39 := by omega
      have hlg : lgM (shT n f st) j < 39 := by have := lgM_lt (M := shT n f st) (j := j); omega
      have t1 := tkT_len j hj39
      have t2 := tkT_len _ hlg
      have hst : lgM (shT n f st) (j + 1) = if tln (lgM (shT n f st) j) < tln j ∧ shT n f st j = true then j else lgM (shT n f st) j := rfl
      have nx : ∀ (o : Option Value) (c : Nat), c = lgM (shT n f st) (j + 1) → G X F cX8_readSymbol 6 yX8_readSymbol.cls (5, 0, 0) 0 0 59 [some (.ref q), some (.ref (K.1 c)), some (.ref K.2.2.1), some (.int (nI 39)), some (.int (nI j)), o] [] h z := by
        intro o c hc
        refine g_iincN dX8_readSymbol_59 rfl (by decide) rfl ?_
        refine g_goto 14 dX8_readSymbol_62 (by decide) ?_
        rw [hc]
        exact ih (j + 1) o (by omega)
      refine g_iload dX8_readSymbol_14 rfl ?_
      refine g_iload_n dX8_readSymbol_16 rfl ?_
      refine g_icmp_geN 65 dX8_readSymbol_17 (by decide) (by omega) (by omega) (fun c_17 => ?_) (fun c_17 => ?_)
      · exact absurd c_17 (by omega)
      · refine g_aload_n dX8_readSymbol_20 rfl ?_
        refine g_iload dX8_readSymbol_21 rfl ?_
        refine g_tqld hK.2.2.1.2 (by omega) (by omega) dX8_readSymbol_23 ?_
        refine g_astore dX8_readSymbol_24 (by decide) rfl ?_
        refine g_aload dX8_readSymbol_26 rfl ?_
        refine g_getON (hK.1 j hj39).2.2.2 wtx dX8_readSymbol_28 ?_
        refine g_callVO0 kX8_115 (mJ0_length hK (hK.2.1 j hj39) (by have := tkT_len j hj39; omega)) (hK.2.1 j hj39).1 rfl rfl (Nat.le_of_ble_eq_true rfl) (by decide) (by decide) (by decide) (by decide) dX8_readSymbol_31 ?_
        rintro v1 h2 z1 ⟨rfl, rfl, rfl⟩
        refine g_aload_n dX8_readSymbol_34 rfl ?_
        refine g_getON (hK.1 _ hlg).2.2.2 wtx dX8_readSymbol_35 ?_
        refine g_callVO0 kX8_115 (mJ0_length hK (hK.2.1 _ hlg) (by have := tkT_len _ hlg; omega)) (hK.2.1 _ hlg).1 rfl rfl (Nat.le_of_ble_eq_true rfl) (by decide) (by decide) (by decide) (by decide) dX8_readSymbol_38 ?_
        rintro v1 h2 z1 ⟨rfl, rfl, rfl⟩
        refine g_icmp_leN 59 dX8_readSymbol_41 (by decide) (by omega) (by omega) (fun c_41 => ?_) (fun c_41 => ?_)
        · exact nx _ _ (by rw [hst, if_neg (fun g => by have : tln j = (tkT.getD j []).length := rfl; have : tln (lgM (shT n f st) j) = (tkT.getD (lgM (shT n f st) j) []).length := rfl; omega)])
        · refine g_aload_n dX8_readSymbol_44 rfl ?_
          refine g_aload dX8_readSymbol_45 rfl ?_
          refine g_getON (hK.1 j hj39).2.2.2 wtx dX8_readSymbol_47 ?_
          refine g_callV0 kX8_121 (m8_standsHere j hj39 hK (by omega) hT hn) hT.1.1 rfl rfl rfl (Nat.le_of_ble_eq_true rfl) (by decide) (by decide) (by decide) (by decide) dX8_readSymbol_50 ?_
          rintro v1 h2 z1 ⟨rfl, rfl, rfl⟩
          refine g_if_eqB 59 dX8_readSymbol_53 (by decide) (fun c_53 => ?_) (fun c_53 => ?_)
          · exact nx _ _ (by rw [hst, if_neg (fun g => by rw [g.2] at c_53; cases c_53)])
          · refine g_aload dX8_readSymbol_56 rfl ?_
            refine g_astore_n dX8_readSymbol_58 (by decide) rfl ?_
            exact nx _ _ (by rw [hst, if_pos ⟨by have : tln j = (tkT.getD j []).length := rfl; have : tln (lgM (shT n f st) j) = (tkT.getD (lgM (shT n f st) j) []).length := rfl; omega, c_53⟩])
  refine g_gets (hK.1 0 (by decide)).1 wgX8_31 dX8_readSymbol_0 ?_
  refine g_astore_n dX8_readSymbol_3 (by decide) rfl ?_
  refine g_getsN hK.2.2.1.1 wgX8_108 dX8_readSymbol_4 ?_
  refine g_astore_n dX8_readSymbol_7 (by decide) rfl ?_
  refine g_aload_n dX8_readSymbol_8 rfl ?_
  refine g_tlen hK.2.2.1.2 dX8_readSymbol_9 ?_
  refine g_istore_n dX8_readSymbol_10 (by decide) rfl ?_
  refine g_iconst (nI 0) dX8_readSymbol_11 (by decide) ?_
  refine g_istore dX8_readSymbol_12 (by decide) rfl ?_
  exact loop 39 0 _ rfl
set_option maxRecDepth 100000 in
set_option maxHeartbeats 4000000 in
theorem m8_readToken {X : gX} {h : gH} {z q n la k kd st en : Nat} {f : Nat → Int32} {kf : Nat → Option Nat} {S T : Nat → Int32} {K : gKo} (hK : gCo X K) (hs : st < n) (he : en = st) (hT : TkT X h q n f kf S T la k kd st en) (hn : n ≤ 2000) : gM X yX8_readToken cX8_readToken 1 (some (.object "ParrotSquawks$Token")) (6, 0, 0) [.ref q] h z (fun r h' z' => r = some (.ref (K.1 (tkK n f st))) ∧ z' = z ∧ TkT X h' q n f kf S T la k kd st (tkE n f st) ∧ OffB h h' q 6) gNoX := by
  have hby : byt n f st = f st := by rw [byt, if_pos hs]
  refine gM.of px8 (Nat.le_of_ble_eq_true rfl) ?_
  intro F hE
  refine g_aload_n dX8_readToken_0 rfl ?_
  refine g_getf fl8_12 hT.1.1 rfl dX8_readToken_1 ?_
  refine g_aload_n dX8_readToken_4 rfl ?_
  refine g_getf fl8_46 hT.1.1 rfl dX8_readToken_5 ?_
  refine g_callV0 kX8_75 (m6_byteAt (_) (by omega) hn hT.2) hT.2.1 rfl rfl rfl (Nat.le_of_ble_eq_true rfl) (by decide) (by decide) (by decide) (by decide) dX8_readToken_8 ?_
  rintro v1 h2 z1 ⟨rfl, rfl, rfl⟩
  refine g_callS0 kX8_93 (m8_isLetter _) rfl rfl (Nat.le_of_ble_eq_true rfl) (by decide) (by decide) (by decide) (by decide) dX8_readToken_11 ?_
  rintro v1 h2 z1 ⟨rfl, rfl, rfl⟩
  rw [hby]
  refine g_if_eqB 22 dX8_readToken_14 (by decide) (fun c_14 => ?_) (fun c_14 => ?_)
  · refine g_aload_n dX8_readToken_22 rfl ?_
    refine g_getf fl8_12 hT.1.1 rfl dX8_readToken_23 ?_
    refine g_aload_n dX8_readToken_26 rfl ?_
    refine g_getf fl8_46 hT.1.1 rfl dX8_readToken_27 ?_
    refine g_callV0 kX8_75 (m6_byteAt (_) (by omega) hn hT.2) hT.2.1 rfl rfl rfl (Nat.le_of_ble_eq_true rfl) (by decide) (by decide) (by decide) (by decide) dX8_readToken_30 ?_
    rintro v1 h2 z1 ⟨rfl, rfl, rfl⟩
    refine g_callS0 kX8_78 (m8_isDigit _) rfl rfl (Nat.le_of_ble_eq_true rfl) (by decide) (by decide) (by decide) (by decide) dX8_readToken_33 ?_
    rintro v1 h2 z1 ⟨rfl, rfl, rfl⟩
    rw [hby]
    refine g_if_eqB 44 dX8_readToken_36 (by decide) (fun c_36 => ?_) (fun c_36 => ?_)
    · refine g_aload_n dX8_readToken_44 rfl ?_
      refine g_callV0 kX8_102 (m8_readSymbol hK hs c_14 hT hn) hT.1.1 rfl rfl rfl (Nat.le_of_ble_eq_true rfl) (by decide) (by decide) (by decide) (by decide) dX8_readToken_45 ?_
      rintro v1 h2 z1 ⟨rfl, rfl, hT, hO⟩
      exact g_aret (C := "ParrotSquawks$Token") hE (⟨by rw [show tkK n f st = _ from by rw [tkK, if_neg (show ¬ n ≤ st by omega), if_neg (show ¬ isLe (f st) = true by rw [c_14]; decide), if_neg (show ¬ isDi (f st) = true by rw [c_36]; decide)]], rfl, by rw [show tkE n f st = _ from by rw [tkE, if_neg (show ¬ n ≤ st by omega), if_neg (show ¬ isLe (f st) = true by rw [c_14]; decide), if_neg (show ¬ isDi (f st) = true by rw [c_36]; decide)]]; exact hT, hO⟩) dX8_readToken_48
    · refine g_aload_n dX8_readToken_39 rfl ?_
      refine g_callV0 kX8_99 (m8_readNumber hK hs c_36 he hT hn) hT.1.1 rfl rfl rfl (Nat.le_of_ble_eq_true rfl) (by decide) (by decide) (by decide) (by decide) dX8_readToken_40 ?_
      rintro v1 h2 z1 ⟨rfl, rfl, hT, hO⟩
      exact g_aret (C := "ParrotSquawks$Token") hE (⟨by rw [show tkK n f st = _ from by rw [tkK, if_neg (show ¬ n ≤ st by omega), if_neg (show ¬ isLe (f st) = true by rw [c_14]; decide), if_pos c_36]], rfl, by rw [show tkE n f st = _ from by rw [tkE, if_neg (show ¬ n ≤ st by omega), if_neg (show ¬ isLe (f st) = true by rw [c_14]; decide), if_pos c_36]]; exact hT, hO⟩) dX8_readToken_43
  · refine g_aload_n dX8_readToken_17 rfl ?_
    refine g_callV0 kX8_96 (m8_readWord hK hs c_14 he hT hn) hT.1.1 rfl rfl rfl (Nat.le_of_ble_eq_true rfl) (by decide) (by decide) (by decide) (by decide) dX8_readToken_18 ?_
    rintro v1 h2 z1 ⟨rfl, rfl, hT, hO⟩
    exact g_aret (C := "ParrotSquawks$Token") hE (⟨by rw [show tkK n f st = _ from by rw [tkK, if_neg (show ¬ n ≤ st by omega), if_pos c_14]], rfl, by rw [show tkE n f st = _ from by rw [tkE, if_neg (show ¬ n ≤ st by omega), if_pos c_14]]; exact hT, hO⟩) dX8_readToken_21
