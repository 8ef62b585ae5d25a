/-! the reference: the kind of a token; a tape is cut -/
theorem sy_val {b nx : Int32} (h2 : ¬ ((b = nI 60 ∨ b = nI 62) ∧ nx = nI 61)) : ((b = nI 40 ∨ b = nI 41 ∨ b = nI 91 ∨ b = nI 93 ∨ b = nI 59 ∨ b = nI 44 ∨ b = nI 43 ∨ b = nI 45 ∨ b = nI 42 ∨ b = nI 47 ∨ b = nI 60 ∨ b = nI 62 ∨ b = nI 61) → b = nI (kd (sy b nx))) ∧ (¬ (b = nI 40 ∨ b = nI 41 ∨ b = nI 91 ∨ b = nI 93 ∨ b = nI 59 ∨ b = nI 44 ∨ b = nI 43 ∨ b = nI 45 ∨ b = nI 42 ∨ b = nI 47 ∨ b = nI 60 ∨ b = nI 62 ∨ b = nI 61) → sy b nx = 0) := by
  rcases sy_cs b nx with ⟨e, q⟩ | ⟨e, q⟩ | ⟨e, q⟩ | ⟨e, q⟩ | ⟨e, q⟩ | ⟨e, q⟩ | ⟨e, q⟩ | ⟨e, q⟩ | ⟨e, q⟩ | ⟨e, q⟩ | ⟨e, g, q⟩ | ⟨e, g, q⟩ | ⟨e, g, q⟩ | ⟨e, g, q⟩ | ⟨e, q⟩ | ⟨h1, h2, h3, h4, h5, h6, h7, h8, h9, h10, h11, h12, h13, q⟩
  · exact ⟨fun _ => e.trans (congrArg (fun c => nI (kd c)) q.symm), fun h => absurd (Or.inl e) h⟩
  · exact ⟨fun _ => e.trans (congrArg (fun c => nI (kd c)) q.symm), fun h => absurd (Or.inr (Or.inl e)) h⟩
  · exact ⟨fun _ => e.trans (congrArg (fun c => nI (kd c)) q.symm), fun h => absurd (Or.inr (Or.inr (Or.inl e))) h⟩
  · exact ⟨fun _ => e.trans (congrArg (fun c => nI (kd c)) q.symm), fun h => absurd (Or.inr (Or.inr (Or.inr (Or.inl e)))) h⟩
  · exact ⟨fun _ => e.trans (congrArg (fun c => nI (kd c)) q.symm), fun h => absurd (Or.inr (Or.inr (Or.inr (Or.inr (Or.inl e))))) h⟩
  · exact ⟨fun _ => e.trans (congrArg (fun c => nI (kd c)) q.symm), fun h => absurd (Or.inr (Or.inr (Or.inr (Or.inr (Or.inr (Or.inl e)))))) h⟩
  · exact ⟨fun _ => e.trans (congrArg (fun c => nI (kd c)) q.symm), fun h => absurd (Or.inr (Or.inr (Or.inr (Or.inr (Or.inr (Or.inr (Or.inl e))))))) h⟩
  · exact ⟨fun _ => e.trans (congrArg (fun c => nI (kd c)) q.symm), fun h => absurd (Or.inr (Or.inr (Or.inr (Or.inr (Or.inr (Or.inr (Or.inr (Or.inl e)))))))) h⟩
  · exact ⟨fun _ => e.trans (congrArg (fun c => nI (kd c)) q.symm), fun h => absurd (Or.inr (Or.inr (Or.inr (Or.inr (Or.inr (Or.inr (Or.inr (Or.inr (Or.inl e))))))))) h⟩
  · exact ⟨fun _ => e.trans (congrArg (fun c => nI (kd c)) q.symm), fun h => absurd (Or.inr (Or.inr (Or.inr (Or.inr (Or.inr (Or.inr (Or.inr (Or.inr (Or.inr (Or.inl e)))))))))) h⟩
  · exact absurd ⟨Or.inl e, g⟩ h2
  · exact ⟨fun _ => e.trans (congrArg (fun c => nI (kd c)) q.symm), fun h => absurd (Or.inr (Or.inr (Or.inr (Or.inr (Or.inr (Or.inr (Or.inr (Or.inr (Or.inr (Or.inr (Or.inl e))))))))))) h⟩
  · exact absurd ⟨Or.inr e, g⟩ h2
  · exact ⟨fun _ => e.trans (congrArg (fun c => nI (kd c)) q.symm), fun h => absurd (Or.inr (Or.inr (Or.inr (Or.inr (Or.inr (Or.inr (Or.inr (Or.inr (Or.inr (Or.inr (Or.inr (Or.inl e)))))))))))) h⟩
  · exact ⟨fun _ => e.trans (congrArg (fun c => nI (kd c)) q.symm), fun h => absurd (Or.inr (Or.inr (Or.inr (Or.inr (Or.inr (Or.inr (Or.inr (Or.inr (Or.inr (Or.inr (Or.inr (Or.inr (e))))))))))))) h⟩
  · exact ⟨fun h => absurd h (fun h => by rcases h with h | h | h | h | h | h | h | h | h | h | h | h | h <;> contradiction), fun _ => q⟩
theorem sy_2 {b nx : Int32} (h : b = nI 60 ∨ b = nI 62) (h2 : nx = nI 61) : nI 256 + b = nI (kd (sy b nx)) ∧ syl (sy b nx) = 2 := by
  subst h2
  rcases h with e | e <;> (subst e; decide)
theorem sy_1 {b nx : Int32} (h2 : ¬ ((b = nI 60 ∨ b = nI 62) ∧ nx = nI 61)) (h : sy b nx ≠ 0) : syl (sy b nx) = 1 := by
  rcases sy_cs b nx with ⟨e, q⟩ | ⟨e, q⟩ | ⟨e, q⟩ | ⟨e, q⟩ | ⟨e, q⟩ | ⟨e, q⟩ | ⟨e, q⟩ | ⟨e, q⟩ | ⟨e, q⟩ | ⟨e, q⟩ | ⟨e, g, q⟩ | ⟨e, g, q⟩ | ⟨e, g, q⟩ | ⟨e, g, q⟩ | ⟨e, q⟩ | ⟨-, -, -, -, -, -, -, -, -, -, -, -, -, q⟩
  · rw [q]; decide
  · rw [q]; decide
  · rw [q]; decide
  · rw [q]; decide
  · rw [q]; decide
  · rw [q]; decide
  · rw [q]; decide
  · rw [q]; decide
  · rw [q]; decide
  · rw [q]; decide
  · exact absurd ⟨Or.inl e, g⟩ h2
  · rw [q]; decide
  · exact absurd ⟨Or.inr e, g⟩ h2
  · rw [q]; decide
  · rw [q]; decide
  · exact absurd q h
/-- ahead of the last token both ends are one -/
theorem eoM_E {n p : Nat} {f : Nat → Int32} (hp : p < n) (h : 2 ≤ tkK n f p) : eoM n f p = tkE n f p := by
  have hb : byt n f p = f p := if_pos hp
  unfold tkK at h
  unfold eoM tkE
  rw [hb, if_neg (show ¬ n ≤ p by omega)]
  rw [if_neg (show ¬ n ≤ p by omega)] at h
  by_cases e1 : isLe (f p) = true
  · rw [if_pos e1, if_pos e1]
    exact (sce_step hp (show bLD (f p) = true by unfold bLD; rw [e1]; rfl)).symm
  · rw [if_neg e1] at h
    rw [if_neg e1, if_neg e1]
    by_cases e2 : isDi (f p) = true
    · rw [if_pos e2, if_pos e2]
      exact (sce_step hp e2).symm
    · rw [if_neg e2] at h
      rw [if_neg e2, if_neg e2]
      by_cases e3 : (f p = nI 60 ∨ f p = nI 62) ∧ byt n f (p + 1) = nI 61
      · rw [if_pos e3, (sy_2 e3.1 e3.2).2]
      · rw [if_neg e3, sy_1 e3 (by omega)]
theorem tkK_lt (n : Nat) (f : Nat → Int32) (s : Nat) : tkK n f s < 39 := by
  unfold tkK
  have h1 := wcd_lt f s (sce bLD n f s)
  have h2 := (sy_lt (f s) (byt n f (s + 1))).1
  repeat' split
  all_goals omega
set_option maxRecDepth 100000 in
set_option maxHeartbeats 4000000 in
theorem m12_kindOf {X : gX} {h : gH} {z m c pl n : Nat} {I : Nat → Int32} {A : Nat → Nat → Int32} {V : Nat → Int64} {K : gKo} (i p : Nat) (hK : gCo X K) (hM : MdB X h m c pl I A V) (hI1 : I 1 = nI n) (hn : n ≤ 2000) (hi : i < 401) (hp : p ≤ n) (hby : ∀ j, j < n → A 0 j ≠ -1) : gM X yX12_kindOf cX12_kindOf 5 (some .int) (6, 0, 0) [.ref m, .int (nI i), .int (nI p), .int (nI (eoM n (A 0) p))] h z (fun r h' z' => r = some (.int (nI (kd (tkK n (A 0) p)))) ∧ z' = z ∧ (∃ V', MdB X h' m c pl I A V' ∧ (∀ j, j ≠ i → V' j = V j) ∧ (tkK n (A 0) p = 2 → V' i = lN (nm (nmD (A 0) p (eoM n (A 0) p)))) ∧ (tkK n (A 0) p = 3 → V' i = lN (nuV (A 0) p (eoM n (A 0) p)))) ∧ OffM h h' m) gNoX := by
  refine gM.of px12 (Nat.le_of_ble_eq_true rfl) ?_
  intro F hE
  by_cases hpn : p < n
  case neg =>
    have hb : byt n (A 0) p = -1 := if_neg hpn
    have hk : tkK n (A 0) p = 1 := if_pos (by omega)
    refine g_aload_n dX12_kindOf_0 rfl ?_
    refine g_iload_n dX12_kindOf_1 rfl ?_
    refine g_callV0 kX12_224 (m12_byteOf p hM hI1 hn (by omega)) hM.1 rfl rfl rfl (Nat.le_of_ble_eq_true rfl) (by decide) (by decide) (by decide) (by decide) dX12_kindOf_2 ?_
    rintro v1 h2 z1 ⟨rfl, rfl, rfl⟩
    refine g_istore dX12_kindOf_5 (by decide) rfl ?_
    refine g_iload dX12_kindOf_7 rfl ?_
    refine g_iconst (-1) dX12_kindOf_9 (by decide) ?_
    refine g_icmp_ne 16 dX12_kindOf_10 (by decide) (fun c_10 => ?_) (fun c_10 => ?_)
    · exact absurd hb c_10
    · refine g_bipush (nI 33) dX12_kindOf_13 (by decide) ?_
      exact g_iret hE rfl (⟨by rw [hk]; rfl, rfl, ⟨V, hM, fun _ _ => rfl, fun q => absurd q (by rw [hk]; decide), fun q => absurd q (by rw [hk]; decide)⟩, OffM.rf⟩) dX12_kindOf_15
  have hb : byt n (A 0) p = A 0 p := if_pos hpn
  have hk0 : tkK n (A 0) p = (if isLe (A 0 p) = true then (if 10 < sce bLD n (A 0) p - p then 0 else wcd (A 0) p (sce bLD n (A 0) p)) else if isDi (A 0 p) = true then (if 6 < sce isDi n (A 0) p - p then 0 else 3) else sy (A 0 p) (byt n (A 0) (p + 1))) := if_neg (by omega)
  have hq : nI (-1 : Int).toNat = nI 0 := rfl
  by_cases hd : isDi (A 0 p) = true
  case pos =>
    have hle := (isDi_ne hd).1
    have he : eoM n (A 0) p = sce isDi n (A 0) p := by unfold eoM; rw [hb, if_neg (by rw [hle]; decide), if_pos hd]; exact (sce_step hpn hd).symm
    obtain ⟨s1, s2, s3⟩ := sce_spec isDi n (A 0) p
    have s4 := sce_le (P := isDi) (f := A 0) hp
    have s5 : p < sce isDi n (A 0) p := by rw [sce_step hpn hd]; exact Nat.lt_of_lt_of_le (Nat.lt_succ_self _) (sce_spec isDi n (A 0) (p + 1)).1
    rw [he] at hE ⊢
    rw [if_neg (by rw [hle]; decide), if_pos hd] at hk0
    refine g_aload_n dX12_kindOf_0 rfl ?_
    refine g_iload_n dX12_kindOf_1 rfl ?_
    refine g_callV0 kX12_224 (m12_byteOf p hM hI1 hn (by omega)) hM.1 rfl rfl rfl (Nat.le_of_ble_eq_true rfl) (by decide) (by decide) (by decide) (by decide) dX12_kindOf_2 ?_
    rintro v1 h2 z1 ⟨rfl, rfl, rfl⟩
    rw [hb]
    refine g_istore dX12_kindOf_5 (by decide) rfl ?_
    refine g_iload dX12_kindOf_7 rfl ?_
    refine g_iconst (-1) dX12_kindOf_9 (by decide) ?_
    refine g_icmp_ne 16 dX12_kindOf_10 (by decide) (fun c_10 => ?_) (fun c_10 => ?_)
    · refine g_iload dX12_kindOf_16 rfl ?_
      refine g_callS0 kX12_230 (m12_isDigit (A 0 p)) rfl rfl (Nat.le_of_ble_eq_true rfl) (by decide) (by decide) (by decide) (by decide) dX12_kindOf_18 ?_
      rintro v1 h2 z1 ⟨rfl, rfl, rfl⟩
      refine g_if_eqB 45 dX12_kindOf_21 (by decide) (fun c_21 => ?_) (fun c_21 => ?_)
      · rw [hd] at c_21; cases c_21
      · refine g_iload_n dX12_kindOf_24 rfl ?_
        refine g_iload_n dX12_kindOf_25 rfl ?_
        first | refine g_isubN dX12_kindOf_26 (by omega) ?_ | refine g_isub dX12_kindOf_26 ?_
        refine g_bipush (nI 6) dX12_kindOf_27 (by decide) ?_
        refine g_icmp_leN 37 dX12_kindOf_29 (by decide) (by omega) (by omega) (fun c_29 => ?_) (fun c_29 => ?_)
        · refine g_aload_n dX12_kindOf_37 rfl ?_
          refine g_iload_n dX12_kindOf_38 rfl ?_
          refine g_iload_n dX12_kindOf_39 rfl ?_
          refine g_iload_n dX12_kindOf_40 rfl ?_
          refine g_callV0 kX12_233 (m12_numberAt (n := 0) i p (sce isDi n (A 0) p) hM hi s5 (by omega) (by omega) (fun j a b => (s2 j a b).2)) hM.1 rfl rfl rfl (Nat.le_of_ble_eq_true rfl) (by decide) (by decide) (by decide) (by decide) dX12_kindOf_41 ?_
          rintro v1 h2 z1 ⟨rfl, rfl, hM2, hO2⟩
          have hk : tkK n (A 0) p = 3 := by rw [hk0, if_neg (by omega)]
          exact g_iret hE rfl (⟨by rw [hk]; rfl, rfl, ⟨_, hM2, fun j hj => if_neg hj, fun q => absurd q (by rw [hk]; decide), fun _ => if_pos rfl⟩, hO2⟩) dX12_kindOf_44
        · have hk : tkK n (A 0) p = 0 := by rw [hk0, if_pos (by omega)]
          refine g_bipush (nI 32) dX12_kindOf_32 (by decide) ?_
          refine g_goto 44 dX12_kindOf_34 (by decide) ?_
          exact g_iret hE rfl (⟨by rw [hk]; rfl, rfl, ⟨V, hM, fun _ _ => rfl, fun q => absurd q (by rw [hk]; decide), fun q => absurd q (by rw [hk]; decide)⟩, OffM.rf⟩) dX12_kindOf_44
    · exact absurd c_10 (hby p hpn)
  by_cases hle : isLe (A 0 p) = true
  case pos =>
    have hbl : bLD (A 0 p) = true := by unfold bLD; rw [hle]; rfl
    have he : eoM n (A 0) p = sce bLD n (A 0) p := by unfold eoM; rw [hb, if_pos hle]; exact (sce_step hpn hbl).symm
    obtain ⟨s1, s2, s3⟩ := sce_spec bLD n (A 0) p
    have s4 := sce_le (P := bLD) (f := A 0) hp
    have s5 : p < sce bLD n (A 0) p := by rw [sce_step hpn hbl]; exact Nat.lt_of_lt_of_le (Nat.lt_succ_self _) (sce_spec bLD n (A 0) (p + 1)).1
    rw [he] at hE ⊢
    rw [if_pos hle] at hk0
    refine g_aload_n dX12_kindOf_0 rfl ?_
    refine g_iload_n dX12_kindOf_1 rfl ?_
    refine g_callV0 kX12_224 (m12_byteOf p hM hI1 hn (by omega)) hM.1 rfl rfl rfl (Nat.le_of_ble_eq_true rfl) (by decide) (by decide) (by decide) (by decide) dX12_kindOf_2 ?_
    rintro v1 h2 z1 ⟨rfl, rfl, rfl⟩
    rw [hb]
    refine g_istore dX12_kindOf_5 (by decide) rfl ?_
    refine g_iload dX12_kindOf_7 rfl ?_
    refine g_iconst (-1) dX12_kindOf_9 (by decide) ?_
    refine g_icmp_ne 16 dX12_kindOf_10 (by decide) (fun c_10 => ?_) (fun c_10 => ?_)
    · refine g_iload dX12_kindOf_16 rfl ?_
      refine g_callS0 kX12_230 (m12_isDigit (A 0 p)) rfl rfl (Nat.le_of_ble_eq_true rfl) (by decide) (by decide) (by decide) (by decide) dX12_kindOf_18 ?_
      rintro v1 h2 z1 ⟨rfl, rfl, rfl⟩
      refine g_if_eqB 45 dX12_kindOf_21 (by decide) (fun c_21 => ?_) (fun c_21 => ?_)
      · refine g_iload dX12_kindOf_45 rfl ?_
        refine g_callS0 kX12_227 (m12_isSmall (A 0 p)) rfl rfl (Nat.le_of_ble_eq_true rfl) (by decide) (by decide) (by decide) (by decide) dX12_kindOf_47 ?_
        rintro v1 h2 z1 ⟨rfl, rfl, rfl⟩
        refine g_if_eqB 74 dX12_kindOf_50 (by decide) (fun c_50 => ?_) (fun c_50 => ?_)
        · rw [hle] at c_50; cases c_50
        · refine g_iload_n dX12_kindOf_53 rfl ?_
          refine g_iload_n dX12_kindOf_54 rfl ?_
          first | refine g_isubN dX12_kindOf_55 (by omega) ?_ | refine g_isub dX12_kindOf_55 ?_
          refine g_bipush (nI 10) dX12_kindOf_56 (by decide) ?_
          refine g_icmp_leN 66 dX12_kindOf_58 (by decide) (by omega) (by omega) (fun c_58 => ?_) (fun c_58 => ?_)
          · refine g_aload_n dX12_kindOf_66 rfl ?_
            refine g_iload_n dX12_kindOf_67 rfl ?_
            refine g_iload_n dX12_kindOf_68 rfl ?_
            refine g_iload_n dX12_kindOf_69 rfl ?_
            refine g_callV0 kX12_236 (m12_wordAt (n := 0) i p (sce bLD n (A 0) p) hK hM hi s5 (by omega) (by omega) (fun j a b => (s2 j a b).2)) hM.1 rfl rfl rfl (Nat.le_of_ble_eq_true rfl) (by decide) (by decide) (by decide) (by decide) dX12_kindOf_70 ?_
            rintro v1 h2 z1 ⟨rfl, rfl, hM2, hO2⟩
            have hk : tkK n (A 0) p = wcd (A 0) p (sce bLD n (A 0) p) := by rw [hk0, if_neg (by omega)]
            have hw := wcd_lt (A 0) p (sce bLD n (A 0) p)
            exact g_iret hE rfl (⟨by rw [hk], rfl, ⟨_, hM2, fun j hj => if_neg hj, fun _ => if_pos rfl, fun q => absurd q (by rw [hk]; omega)⟩, hO2⟩) dX12_kindOf_73
          · have hk : tkK n (A 0) p = 0 := by rw [hk0, if_pos (by omega)]
            refine g_bipush (nI 32) dX12_kindOf_61 (by decide) ?_
            refine g_goto 73 dX12_kindOf_63 (by decide) ?_
            exact g_iret hE rfl (⟨by rw [hk]; rfl, rfl, ⟨V, hM, fun _ _ => rfl, fun q => absurd q (by rw [hk]; decide), fun q => absurd q (by rw [hk]; decide)⟩, OffM.rf⟩) dX12_kindOf_73
      · exact absurd c_21 hd
    · exact absurd c_10 (hby p hpn)
  rw [if_neg hle, if_neg hd] at hk0
  have hsy := sy_lt (A 0 p) (byt n (A 0) (p + 1))
  have he : eoM n (A 0) p = (if (A 0 p = nI 60 ∨ A 0 p = nI 62) ∧ byt n (A 0) (p + 1) = nI 61 then p + 2 else p + 1) := by unfold eoM; rw [hb, if_neg hle, if_neg hd]
  have sm : ∃ V', MdB X h m c pl I A V' ∧ (∀ j, j ≠ i → V' j = V j) ∧ (tkK n (A 0) p = 2 → V' i = lN (nm (nmD (A 0) p (eoM n (A 0) p)))) ∧ (tkK n (A 0) p = 3 → V' i = lN (nuV (A 0) p (eoM n (A 0) p))) := ⟨V, hM, fun _ _ => rfl, fun q => absurd q (by rw [hk0]; omega), fun q => absurd q (by rw [hk0]; omega)⟩
  by_cases h2 : (A 0 p = nI 60 ∨ A 0 p = nI 62) ∧ byt n (A 0) (p + 1) = nI 61
  case pos =>
    rw [if_pos h2] at he
    have h9 := (sy_2 h2.1 h2.2).1
    rw [← hk0] at h9
    generalize tkK n (A 0) p = kk at *
    refine g_aload_n dX12_kindOf_0 rfl ?_
    refine g_iload_n dX12_kindOf_1 rfl ?_
    refine g_callV0 kX12_224 (m12_byteOf p hM hI1 hn (by omega)) hM.1 rfl rfl rfl (Nat.le_of_ble_eq_true rfl) (by decide) (by decide) (by decide) (by decide) dX12_kindOf_2 ?_
    rintro v1 h2 z1 ⟨rfl, rfl, rfl⟩
    rw [hb]
    refine g_istore dX12_kindOf_5 (by decide) rfl ?_
    refine g_iload dX12_kindOf_7 rfl ?_
    refine g_iconst (-1) dX12_kindOf_9 (by decide) ?_
    refine g_icmp_ne 16 dX12_kindOf_10 (by decide) (fun c_10 => ?_) (fun c_10 => ?_)
    · refine g_iload dX12_kindOf_16 rfl ?_
      refine g_callS0 kX12_230 (m12_isDigit (A 0 p)) rfl rfl (Nat.le_of_ble_eq_true rfl) (by decide) (by decide) (by decide) (by decide) dX12_kindOf_18 ?_
      rintro v1 h2 z1 ⟨rfl, rfl, rfl⟩
      refine g_if_eqB 45 dX12_kindOf_21 (by decide) (fun c_21 => ?_) (fun c_21 => ?_)
      · refine g_iload dX12_kindOf_45 rfl ?_
        refine g_callS0 kX12_227 (m12_isSmall (A 0 p)) rfl rfl (Nat.le_of_ble_eq_true rfl) (by decide) (by decide) (by decide) (by decide) dX12_kindOf_47 ?_
        rintro v1 h2 z1 ⟨rfl, rfl, rfl⟩
        refine g_if_eqB 74 dX12_kindOf_50 (by decide) (fun c_50 => ?_) (fun c_50 => ?_)
        · rw [he] at hE sm ⊢
          refine g_iload_n dX12_kindOf_74 rfl ?_
          refine g_iload_n dX12_kindOf_75 rfl ?_
          first | refine g_isubN dX12_kindOf_76 (by omega) ?_ | refine g_isub dX12_kindOf_76 ?_
          refine g_iconst (nI 2) dX12_kindOf_77 (by decide) ?_
          refine g_icmp_neN 88 dX12_kindOf_78 (by decide) (by omega) (by omega) (fun c_78 => ?_) (fun c_78 => ?_)
          · exact absurd c_78 (by omega)
          · refine g_sipush (nI 256) dX12_kindOf_81 (by decide) ?_
            refine g_iload dX12_kindOf_84 rfl ?_
            refine g_iadd dX12_kindOf_86 ?_
            exact g_iret hE rfl (⟨by rw [h9], rfl, sm, OffM.rf⟩) dX12_kindOf_87
        · exact absurd c_50 hle
      · exact absurd c_21 hd
    · exact absurd c_10 (hby p hpn)
  rw [if_neg h2] at he
  obtain ⟨y1, y2⟩ := sy_val h2
  rw [← hk0] at y1 y2
  refine g_aload_n dX12_kindOf_0 rfl ?_
  refine g_iload_n dX12_kindOf_1 rfl ?_
  refine g_callV0 kX12_224 (m12_byteOf p hM hI1 hn (by omega)) hM.1 rfl rfl rfl (Nat.le_of_ble_eq_true rfl) (by decide) (by decide) (by decide) (by decide) dX12_kindOf_2 ?_
  rintro v1 h2 z1 ⟨rfl, rfl, rfl⟩
  rw [hb]
  refine g_istore dX12_kindOf_5 (by decide) rfl ?_
  refine g_iload dX12_kindOf_7 rfl ?_
  refine g_iconst (-1) dX12_kindOf_9 (by decide) ?_
  refine g_icmp_ne 16 dX12_kindOf_10 (by decide) (fun c_10 => ?_) (fun c_10 => ?_)
  · refine g_iload dX12_kindOf_16 rfl ?_
    refine g_callS0 kX12_230 (m12_isDigit (A 0 p)) rfl rfl (Nat.le_of_ble_eq_true rfl) (by decide) (by decide) (by decide) (by decide) dX12_kindOf_18 ?_
    rintro v1 h2 z1 ⟨rfl, rfl, rfl⟩
    refine g_if_eqB 45 dX12_kindOf_21 (by decide) (fun c_21 => ?_) (fun c_21 => ?_)
    · refine g_iload dX12_kindOf_45 rfl ?_
      refine g_callS0 kX12_227 (m12_isSmall (A 0 p)) rfl rfl (Nat.le_of_ble_eq_true rfl) (by decide) (by decide) (by decide) (by decide) dX12_kindOf_47 ?_
      rintro v1 h2 z1 ⟨rfl, rfl, rfl⟩
      refine g_if_eqB 74 dX12_kindOf_50 (by decide) (fun c_50 => ?_) (fun c_50 => ?_)
      · refine g_iload_n dX12_kindOf_74 rfl ?_
        refine g_iload_n dX12_kindOf_75 rfl ?_
        first | refine g_isubN dX12_kindOf_76 (by omega) ?_ | refine g_isub dX12_kindOf_76 ?_
        refine g_iconst (nI 2) dX12_kindOf_77 (by decide) ?_
        refine g_icmp_neN 88 dX12_kindOf_78 (by decide) (by omega) (by omega) (fun c_78 => ?_) (fun c_78 => ?_)
        · refine g_iload dX12_kindOf_88 rfl ?_
          refine g_bipush (nI 40) dX12_kindOf_90 (by decide) ?_
          refine g_icmp_eq 179 dX12_kindOf_92 (by decide) (fun c_92 => ?_) (fun c_92 => ?_)
          · refine g_iload dX12_kindOf_179 rfl ?_
            refine g_goto 186 dX12_kindOf_181 (by decide) ?_
            exact g_iret hE rfl (⟨by rw [← y1 (Or.inl c_92)], rfl, sm, OffM.rf⟩) dX12_kindOf_186
          · refine g_iload dX12_kindOf_95 rfl ?_
            refine g_bipush (nI 41) dX12_kindOf_97 (by decide) ?_
            refine g_icmp_eq 179 dX12_kindOf_99 (by decide) (fun c_99 => ?_) (fun c_99 => ?_)
            · refine g_iload dX12_kindOf_179 rfl ?_
              refine g_goto 186 dX12_kindOf_181 (by decide) ?_
              exact g_iret hE rfl (⟨by rw [← y1 (Or.inr (Or.inl c_99))], rfl, sm, OffM.rf⟩) dX12_kindOf_186
            · refine g_iload dX12_kindOf_102 rfl ?_
              refine g_bipush (nI 91) dX12_kindOf_104 (by decide) ?_
              refine g_icmp_eq 179 dX12_kindOf_106 (by decide) (fun c_106 => ?_) (fun c_106 => ?_)
              · refine g_iload dX12_kindOf_179 rfl ?_
                refine g_goto 186 dX12_kindOf_181 (by decide) ?_
                exact g_iret hE rfl (⟨by rw [← y1 (Or.inr (Or.inr (Or.inl c_106)))], rfl, sm, OffM.rf⟩) dX12_kindOf_186
              · refine g_iload dX12_kindOf_109 rfl ?_
                refine g_bipush (nI 93) dX12_kindOf_111 (by decide) ?_
                refine g_icmp_eq 179 dX12_kindOf_113 (by decide) (fun c_113 => ?_) (fun c_113 => ?_)
                · refine g_iload dX12_kindOf_179 rfl ?_
                  refine g_goto 186 dX12_kindOf_181 (by decide) ?_
                  exact g_iret hE rfl (⟨by rw [← y1 (Or.inr (Or.inr (Or.inr (Or.inl c_113))))], rfl, sm, OffM.rf⟩) dX12_kindOf_186
                · refine g_iload dX12_kindOf_116 rfl ?_
                  refine g_bipush (nI 59) dX12_kindOf_118 (by decide) ?_
                  refine g_icmp_eq 179 dX12_kindOf_120 (by decide) (fun c_120 => ?_) (fun c_120 => ?_)
                  · refine g_iload dX12_kindOf_179 rfl ?_
                    refine g_goto 186 dX12_kindOf_181 (by decide) ?_
                    exact g_iret hE rfl (⟨by rw [← y1 (Or.inr (Or.inr (Or.inr (Or.inr (Or.inl c_120)))))], rfl, sm, OffM.rf⟩) dX12_kindOf_186
                  · refine g_iload dX12_kindOf_123 rfl ?_
                    refine g_bipush (nI 44) dX12_kindOf_125 (by decide) ?_
                    refine g_icmp_eq 179 dX12_kindOf_127 (by decide) (fun c_127 => ?_) (fun c_127 => ?_)
                    · refine g_iload dX12_kindOf_179 rfl ?_
                      refine g_goto 186 dX12_kindOf_181 (by decide) ?_
                      exact g_iret hE rfl (⟨by rw [← y1 (Or.inr (Or.inr (Or.inr (Or.inr (Or.inr (Or.inl c_127))))))], rfl, sm, OffM.rf⟩) dX12_kindOf_186
                    · refine g_iload dX12_kindOf_130 rfl ?_
                      refine g_bipush (nI 43) dX12_kindOf_132 (by decide) ?_
                      refine g_icmp_eq 179 dX12_kindOf_134 (by decide) (fun c_134 => ?_) (fun c_134 => ?_)
                      · refine g_iload dX12_kindOf_179 rfl ?_
                        refine g_goto 186 dX12_kindOf_181 (by decide) ?_
                        exact g_iret hE rfl (⟨by rw [← y1 (Or.inr (Or.inr (Or.inr (Or.inr (Or.inr (Or.inr (Or.inl c_134)))))))], rfl, sm, OffM.rf⟩) dX12_kindOf_186
                      · refine g_iload dX12_kindOf_137 rfl ?_
                        refine g_bipush (nI 45) dX12_kindOf_139 (by decide) ?_
                        refine g_icmp_eq 179 dX12_kindOf_141 (by decide) (fun c_141 => ?_) (fun c_141 => ?_)
                        · refine g_iload dX12_kindOf_179 rfl ?_
                          refine g_goto 186 dX12_kindOf_181 (by decide) ?_
                          exact g_iret hE rfl (⟨by rw [← y1 (Or.inr (Or.inr (Or.inr (Or.inr (Or.inr (Or.inr (Or.inr (Or.inl c_141))))))))], rfl, sm, OffM.rf⟩) dX12_kindOf_186
                        · refine g_iload dX12_kindOf_144 rfl ?_
                          refine g_bipush (nI 42) dX12_kindOf_146 (by decide) ?_
                          refine g_icmp_eq 179 dX12_kindOf_148 (by decide) (fun c_148 => ?_) (fun c_148 => ?_)
                          · refine g_iload dX12_kindOf_179 rfl ?_
                            refine g_goto 186 dX12_kindOf_181 (by decide) ?_
                            exact g_iret hE rfl (⟨by rw [← y1 (Or.inr (Or.inr (Or.inr (Or.inr (Or.inr (Or.inr (Or.inr (Or.inr (Or.inl c_148)))))))))], rfl, sm, OffM.rf⟩) dX12_kindOf_186
                          · refine g_iload dX12_kindOf_151 rfl ?_
                            refine g_bipush (nI 47) dX12_kindOf_153 (by decide) ?_
                            refine g_icmp_eq 179 dX12_kindOf_155 (by decide) (fun c_155 => ?_) (fun c_155 => ?_)
                            · refine g_iload dX12_kindOf_179 rfl ?_
                              refine g_goto 186 dX12_kindOf_181 (by decide) ?_
                              exact g_iret hE rfl (⟨by rw [← y1 (Or.inr (Or.inr (Or.inr (Or.inr (Or.inr (Or.inr (Or.inr (Or.inr (Or.inr (Or.inl c_155))))))))))], rfl, sm, OffM.rf⟩) dX12_kindOf_186
                            · refine g_iload dX12_kindOf_158 rfl ?_
                              refine g_bipush (nI 60) dX12_kindOf_160 (by decide) ?_
                              refine g_icmp_eq 179 dX12_kindOf_162 (by decide) (fun c_162 => ?_) (fun c_162 => ?_)
                              · refine g_iload dX12_kindOf_179 rfl ?_
                                refine g_goto 186 dX12_kindOf_181 (by decide) ?_
                                exact g_iret hE rfl (⟨by rw [← y1 (Or.inr (Or.inr (Or.inr (Or.inr (Or.inr (Or.inr (Or.inr (Or.inr (Or.inr (Or.inr (Or.inl c_162)))))))))))], rfl, sm, OffM.rf⟩) dX12_kindOf_186
                              · refine g_iload dX12_kindOf_165 rfl ?_
                                refine g_bipush (nI 62) dX12_kindOf_167 (by decide) ?_
                                refine g_icmp_eq 179 dX12_kindOf_169 (by decide) (fun c_169 => ?_) (fun c_169 => ?_)
                                · refine g_iload dX12_kindOf_179 rfl ?_
                                  refine g_goto 186 dX12_kindOf_181 (by decide) ?_
                                  exact g_iret hE rfl (⟨by rw [← y1 (Or.inr (Or.inr (Or.inr (Or.inr (Or.inr (Or.inr (Or.inr (Or.inr (Or.inr (Or.inr (Or.inr (Or.inl c_169))))))))))))], rfl, sm, OffM.rf⟩) dX12_kindOf_186
                                · refine g_iload dX12_kindOf_172 rfl ?_
                                  refine g_bipush (nI 61) dX12_kindOf_174 (by decide) ?_
                                  refine g_icmp_ne 184 dX12_kindOf_176 (by decide) (fun c_176 => ?_) (fun c_176 => ?_)
                                  · refine g_bipush (nI 32) dX12_kindOf_184 (by decide) ?_
                                    exact g_iret hE rfl (⟨by rw [y2 (fun h => by rcases h with h | h | h | h | h | h | h | h | h | h | h | h | h <;> contradiction)]; rfl, rfl, sm, OffM.rf⟩) dX12_kindOf_186
                                  · refine g_iload dX12_kindOf_179 rfl ?_
                                    refine g_goto 186 dX12_kindOf_181 (by decide) ?_
                                    exact g_iret hE rfl (⟨by rw [← y1 (Or.inr (Or.inr (Or.inr (Or.inr (Or.inr (Or.inr (Or.inr (Or.inr (Or.inr (Or.inr (Or.inr (Or.inr (c_176)))))))))))))], rfl, sm, OffM.rf⟩) dX12_kindOf_186
        · rw [he] at c_78; exact absurd c_78 (by omega)
      · exact absurd c_50 hle
    · exact absurd c_21 hd
  · exact absurd c_10 (hby p hpn)
