/-! the reference: a word that is a number of base 37 is heard -/
def ab37 : Nat → Nat
  | 0 => 0
  | r + 1 => 37 ^ r
theorem ab37_div (r : Nat) : ab37 (r + 1) / 37 = ab37 r := by
  cases r with
  | zero => rfl
  | succ r => show 37 ^ (r + 1) / 37 = 37 ^ r; rw [Nat.pow_succ]; omega
theorem ab37_lt {r : Nat} (h : r ≤ 11) : ab37 r < 2 ^ 62 := by
  cases r with
  | zero => decide
  | succ r => exact p37_10 (by omega)
set_option maxRecDepth 100000 in
set_option maxHeartbeats 4000000 in
theorem m12_hearsWord {X : gX} {h : gH} {z m pl : Nat} {I : Nat → Int32} {A : Nat → Nat → Int32} {V : Nat → Int64} {L : List Int32} (D : List Nat) (hd : dg D) (h1 : 1 ≤ D.length) (h10 : D.length ≤ 10) (hV : MdV X h m pl L I A V) : gM X yX12_hearsWord cX12_hearsWord 7 none (3, 0, 0) [.ref m, .long (lN (nm D))] h z (mdQp X h z m pl I A V ((wl D).foldl hearL L)) gNoX := by
  have hs := nm_small hd h10
  have hlt := nm_lt hd
  have hge : 37 ^ (D.length - 1) ≤ nm D := by
    cases D with
    | nil => exact absurd h1 (by decide)
    | cons d D => exact nm_ge (hd d List.mem_cons_self).1
  have hwl := wl_len D
  refine gM.of px12 (Nat.le_of_ble_eq_true rfl) ?_
  intro F hE
  have loop2 : ∀ (r j : Nat), j + r = D.length → ∀ (h1 : gH) (I1 : Nat → Int32) (A1 : Nat → Nat → Int32), MdV X h1 m pl (((wl D).take j).foldl hearL L) I1 A1 V → MdH I I1 A A1 → OffM h h1 m → G X F cX12_hearsWord 7 yX12_hearsWord.cls (3, 0, 0) 0 0 24 [some (.ref m), some (.long (lN (nm D))), none, some (.long (lN (ab37 r))), none, some (.long (lN (nm (D.drop j)))), none] [] h1 z := by
    intro r
    induction r with
    | zero =>
      intro j hj h1 I1 A1 hV hH hO
      refine g_lload_n dX12_hearsWord_24 rfl ?_
      refine g_lconst (lN 0) dX12_hearsWord_25 rfl ?_
      refine g_lcmp dX12_hearsWord_26 ?_
      refine g_if_le 54 dX12_hearsWord_27 (by decide) (fun c_27 => ?_) (fun c_27 => ?_)
      · exact g_vret hE (⟨rfl, rfl, ⟨I1, A1, by rw [show j = (wl D).length by omega, List.take_length] at hV; exact hV, hH⟩, hO⟩) dX12_hearsWord_54
      · exact absurd ((cmpN (a := 0) (b := 0) (by decide) (by decide)).2.1.mpr (by decide)) c_27
    | succ r ih =>
      intro j hj h1 I1 A1 hV hH hO
      have hj2 : j < D.length := by omega
      have ha := ab37_lt (r := r + 1) (by omega)
      have hn := Nat.lt_of_lt_of_le (nm_lt (dg_drop j hd)) (Nat.le_of_lt (p37_10 (n := (D.drop j).length) (by rw [List.length_drop]; omega)))
      have hp : 0 < ab37 (r + 1) := p37_pos r
      have he : ab37 (r + 1) = 37 ^ (D.length - 1 - j) := by rw [show D.length - 1 - j = r by omega]; rfl
      have hq := nm_div hd hj2
      rw [← he] at hq
      refine g_lload_n dX12_hearsWord_24 rfl ?_
      refine g_lconst (lN 0) dX12_hearsWord_25 rfl ?_
      refine g_lcmp dX12_hearsWord_26 ?_
      refine g_if_le 54 dX12_hearsWord_27 (by decide) (fun c_27 => ?_) (fun c_27 => ?_)
      · exact absurd ((cmpN (by omega) (by decide)).2.1.mp c_27) (by omega)
      · refine g_aload_n dX12_hearsWord_30 rfl ?_
        refine g_lload dX12_hearsWord_31 rfl ?_
        refine g_lload_n dX12_hearsWord_33 rfl ?_
        refine g_ldivN dX12_hearsWord_34 (by omega) (by omega) (by omega) ?_
        refine g_l2iN dX12_hearsWord_35 ?_
        rw [hq.1, ← wl_lt hj2]
        refine g_callV0 kX12_79 (m12_hears _ hV) hV.1.1 rfl rfl rfl (Nat.le_of_ble_eq_true rfl) (by decide) (by decide) (by decide) (by decide) dX12_hearsWord_36 ?_
        rintro v1 h2 z1 ⟨rfl, rfl, ⟨I2, A2, hV2, hH2, -, -⟩, hO2⟩
        refine g_lload dX12_hearsWord_39 rfl ?_
        refine g_lload_n dX12_hearsWord_41 rfl ?_
        refine g_lremN dX12_hearsWord_42 (by omega) (by omega) (by omega) ?_
        refine g_lstore dX12_hearsWord_43 (by decide) rfl ?_
        refine g_lload_n dX12_hearsWord_45 rfl ?_
        refine g_37 w37 dX12_hearsWord_46 ?_
        refine g_ldivN dX12_hearsWord_49 (by omega) (by decide) (by decide) ?_
        refine g_lstore_n dX12_hearsWord_50 (by decide) rfl ?_
        refine g_goto 24 dX12_hearsWord_51 (by decide) ?_
        rw [hq.2, ab37_div]
        exact ih (j + 1) (by omega) h2 I2 A2 (by rw [fold_take (by omega)]; exact hV2) (hH.trans hH2) (hO.trans hO2)
  have loop1 : ∀ (r j : Nat), j + r = D.length - 1 → G X F cX12_hearsWord 7 yX12_hearsWord.cls (3, 0, 0) 0 0 2 [some (.ref m), some (.long (lN (nm D))), none, some (.long (lN (37 ^ j))), none, none, none] [] h z := by
    intro r
    induction r with
    | zero =>
      intro j hj
      have hj2 : 37 ^ j * 37 = 37 ^ D.length := by rw [show D.length = j + 1 by omega, Nat.pow_succ]
      have hb := p37_10 (n := D.length) (by omega)
      refine g_lload_n dX12_hearsWord_2 rfl ?_
      refine g_37 w37 dX12_hearsWord_3 ?_
      refine g_lmulN dX12_hearsWord_6 ?_
      refine g_lload_n dX12_hearsWord_7 rfl ?_
      refine g_lcmp dX12_hearsWord_8 ?_
      refine g_if_gt 21 dX12_hearsWord_9 (by decide) (fun c_9 => ?_) (fun c_9 => ?_)
      · refine g_lload_n dX12_hearsWord_21 rfl ?_
        refine g_lstore dX12_hearsWord_22 (by decide) rfl ?_
        rw [show 37 ^ j = ab37 D.length by rw [show D.length = j + 1 by omega]; rfl]
        exact loop2 D.length 0 (by omega) h I A hV MdH.rf OffM.rf
      · exact absurd ((cmpN (by omega) (by omega)).1.mpr (by omega)) c_9
    | succ r ih =>
      intro j hj
      have hj2 : 37 ^ j * 37 = 37 ^ (j + 1) := (Nat.pow_succ ..).symm
      have hb := p37_10 (n := j + 1) (by omega)
      have hm := p37_mono (a := j + 1) (b := D.length - 1) (by omega)
      refine g_lload_n dX12_hearsWord_2 rfl ?_
      refine g_37 w37 dX12_hearsWord_3 ?_
      refine g_lmulN dX12_hearsWord_6 ?_
      refine g_lload_n dX12_hearsWord_7 rfl ?_
      refine g_lcmp dX12_hearsWord_8 ?_
      refine g_if_gt 21 dX12_hearsWord_9 (by decide) (fun c_9 => ?_) (fun c_9 => ?_)
      · exact absurd ((cmpN (by omega) (by omega)).1.mp c_9) (by omega)
      · refine g_lload_n dX12_hearsWord_12 rfl ?_
        refine g_37 w37 dX12_hearsWord_13 ?_
        refine g_lmulN dX12_hearsWord_16 ?_
        refine g_lstore_n dX12_hearsWord_17 (by decide) rfl ?_
        refine g_goto 2 dX12_hearsWord_18 (by decide) ?_
        rw [hj2]
        exact ih (j + 1) (by omega)
  refine g_lconst (lN 1) dX12_hearsWord_0 rfl ?_
  refine g_lstore_n dX12_hearsWord_1 (by decide) rfl ?_
  exact loop1 (D.length - 1) 0 (by omega)
