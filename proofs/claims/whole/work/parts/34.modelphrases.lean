/-! the reference: the end, ranks asked for, phrases of so many letters, the longest repeat -/
set_option maxRecDepth 100000 in
set_option maxHeartbeats 4000000 in
theorem m12_alike {X : gX} {h : gH} {z m pl : Nat} {I : Nat → Int32} {A : Nat → Nat → Int32} {V : Nat → Int64} {L : List Int32} (last : Nat) (hl : last < L.length) (hM : MdB X h m L.length pl I A V) (hn : L.length ≤ 40) (hA : ∀ i, i < L.length → A 5 i = lt L i) : gM X yX12_alike cX12_alike 3 (some .int) (1, 0, 0) [.ref m, .int (nI last)] h z (pR h z (nI (alk L last))) gNoX := by
  refine gM.of px12 (Nat.le_of_ble_eq_true rfl) ?_
  intro F hE
  have loop : ∀ (r k : Nat), k + r = last + 1 → alk L last = alA L last r k → G X F cX12_alike 3 yX12_alike.cls (1, 0, 0) 0 0 2 [some (.ref m), some (.int (nI last)), some (.int (nI k))] [] h z := by
    intro r
    induction r with
    | zero =>
      intro k hk hf
      have hf2 : alk L last = k := hf
      refine g_iload_n dX12_alike_2 rfl ?_
      refine g_iload_n dX12_alike_3 rfl ?_
      refine g_isub dX12_alike_4 ?_
      refine g_if_lt 38 dX12_alike_5 (by decide) (fun c_5 => ?_) (fun c_5 => absurd (pk_sneg (by omega) (by omega)) c_5)
      refine g_iload_n dX12_alike_38 rfl ?_
      exact g_iret hE rfl (⟨by rw [hf2], rfl, rfl⟩) dX12_alike_39
    | succ r ih =>
      intro k hk hf
      have hf2 : alk L last = if lt L (last - k) = lt L (L.length - 1 - k) then alA L last r (k + 1) else k := hf
      refine g_iload_n dX12_alike_2 rfl ?_
      refine g_iload_n dX12_alike_3 rfl ?_
      first | refine g_isubN dX12_alike_4 (by omega) ?_ | refine g_isub dX12_alike_4 ?_
      refine g_if_ltN 38 dX12_alike_5 (by decide) (by omega) ?_
      refine g_aload_n dX12_alike_8 rfl ?_
      refine g_getf fl12_40 hM.1 rfl dX12_alike_9 ?_
      refine g_iload_n dX12_alike_12 rfl ?_
      refine g_iload_n dX12_alike_13 rfl ?_
      first | refine g_isubN dX12_alike_14 (by omega) ?_ | refine g_isub dX12_alike_14 ?_
      refine g_ialdN (hM.2.1 5 (by decide)) (by show _ < 40; omega) (by decide) dX12_alike_15 ?_
      refine g_aload_n dX12_alike_16 rfl ?_
      refine g_getf fl12_40 hM.1 rfl dX12_alike_17 ?_
      refine g_aload_n dX12_alike_20 rfl ?_
      refine g_getf fl12_61 hM.1 rfl dX12_alike_21 ?_
      refine g_iconst (nI 1) dX12_alike_24 (by decide) ?_
      first | refine g_isubN dX12_alike_25 (by omega) ?_ | refine g_isub dX12_alike_25 ?_
      refine g_iload_n dX12_alike_26 rfl ?_
      first | refine g_isubN dX12_alike_27 (by omega) ?_ | refine g_isub dX12_alike_27 ?_
      refine g_ialdN (hM.2.1 5 (by decide)) (by show _ < 40; omega) (by decide) dX12_alike_28 ?_
      rw [hA _ (by omega), hA _ (by omega)]
      refine g_icmp_ne 38 dX12_alike_29 (by decide) (fun c_29 => ?_) (fun c_29 => ?_)
      · refine g_iload_n dX12_alike_38 rfl ?_
        exact g_iret hE rfl (⟨by rw [hf2, if_neg c_29], rfl, rfl⟩) dX12_alike_39
      · refine g_iincN dX12_alike_32 rfl (by decide) rfl ?_
        refine g_goto 2 dX12_alike_35 (by decide) ?_
        exact ih (k + 1) (by omega) (by rw [hf2, if_pos c_29])
  refine g_iconst (nI 0) dX12_alike_0 (by decide) ?_
  refine g_istore_n dX12_alike_1 (by decide) rfl ?_
  exact loop (last + 1) 0 (by omega) rfl
set_option maxRecDepth 100000 in
set_option maxHeartbeats 4000000 in
theorem m12_atEnd {X : gX} {h : gH} {z m pl : Nat} {I : Nat → Int32} {A : Nat → Nat → Int32} {V : Nat → Int64} {L : List Int32} (hM : MdB X h m L.length pl I A V) (hn : L.length ≤ 40) (hA : ∀ i, i < L.length → A 5 i = lt L i) : gM X yX12_atEnd cX12_atEnd 3 (some .int) (2, 0, 0) [.ref m] h z (pR h z (nI (ese L))) gNoX := by
  refine gM.of px12 (Nat.le_of_ble_eq_true rfl) ?_
  intro F hE
  by_cases h0 : L.length = 0
  · have hv : ese L = 0 := by unfold ese; rw [h0]; rfl
    refine g_iconst (nI 0) dX12_atEnd_0 (by decide) ?_
    refine g_istore_n dX12_atEnd_1 (by decide) rfl ?_
    refine g_iconst (nI 0) dX12_atEnd_2 (by decide) ?_
    refine g_istore_n dX12_atEnd_3 (by decide) rfl ?_
    refine g_iload_n dX12_atEnd_4 rfl ?_
    refine g_aload_n dX12_atEnd_5 rfl ?_
    refine g_getf fl12_61 hM.1 rfl dX12_atEnd_6 ?_
    refine g_iconst (nI 1) dX12_atEnd_9 (by decide) ?_
    rw [h0]
    refine g_isub dX12_atEnd_10 ?_
    refine g_icmp_ge 30 dX12_atEnd_11 (by decide) (fun c_11 => ?_) (fun c_11 => absurd (by decide) c_11)
    refine g_iload_n dX12_atEnd_30 rfl ?_
    exact g_iret hE rfl (⟨by rw [hv], rfl, rfl⟩) dX12_atEnd_31
  · have outer : ∀ (r last : Nat), last + r = L.length - 1 → G X F cX12_atEnd 3 yX12_atEnd.cls (2, 0, 0) 0 0 4 [some (.ref m), some (.int (nI (eseU L last))), some (.int (nI last))] [] h z := by
      intro r
      induction r with
      | zero =>
        intro last hl
        refine g_iload_n dX12_atEnd_4 rfl ?_
        refine g_aload_n dX12_atEnd_5 rfl ?_
        refine g_getf fl12_61 hM.1 rfl dX12_atEnd_6 ?_
        refine g_iconst (nI 1) dX12_atEnd_9 (by decide) ?_
        first | refine g_isubN dX12_atEnd_10 (by omega) ?_ | refine g_isub dX12_atEnd_10 ?_
        refine g_icmp_geN 30 dX12_atEnd_11 (by decide) (by omega) (by omega) (fun c_11 => ?_) (fun c_11 => ?_)
        · refine g_iload_n dX12_atEnd_30 rfl ?_
          exact g_iret hE rfl (⟨by rw [show last = L.length - 1 by omega]; rfl, rfl, rfl⟩) dX12_atEnd_31
        · exact absurd c_11 (by omega)
      | succ r ih =>
        intro last hl
        have b1 := eseU_le (L := L) (m := last)
        have b2 := alk_le (L := L) (last := last)
        refine g_iload_n dX12_atEnd_4 rfl ?_
        refine g_aload_n dX12_atEnd_5 rfl ?_
        refine g_getf fl12_61 hM.1 rfl dX12_atEnd_6 ?_
        refine g_iconst (nI 1) dX12_atEnd_9 (by decide) ?_
        first | refine g_isubN dX12_atEnd_10 (by omega) ?_ | refine g_isub dX12_atEnd_10 ?_
        refine g_icmp_geN 30 dX12_atEnd_11 (by decide) (by omega) (by omega) (fun c_11 => ?_) (fun c_11 => ?_)
        · exact absurd c_11 (by omega)
        · refine g_iload_n dX12_atEnd_14 rfl ?_
          refine g_aload_n dX12_atEnd_15 rfl ?_
          refine g_iload_n dX12_atEnd_16 rfl ?_
          refine g_callV0 kX12_138 (m12_alike last (by omega) hM hn hA) hM.1 rfl rfl rfl (Nat.le_of_ble_eq_true rfl) (by decide) (by decide) (by decide) (by decide) dX12_atEnd_17 ?_
          rintro v1 h2 z1 ⟨rfl, rfl, rfl⟩
          refine gmax wmath_max wlX12_120 (by decide) (Nat.le_of_ble_eq_true rfl) (by decide) (by decide) dX12_atEnd_20 ?_
          rw [nI_max (by omega) (by omega)]
          refine g_istore_n dX12_atEnd_23 (by decide) rfl ?_
          refine g_iincN dX12_atEnd_24 rfl (by decide) rfl ?_
          refine g_goto 4 dX12_atEnd_27 (by decide) ?_
          exact ih (last + 1) (by omega)
    refine g_iconst (nI 0) dX12_atEnd_0 (by decide) ?_
    refine g_istore_n dX12_atEnd_1 (by decide) rfl ?_
    refine g_iconst (nI 0) dX12_atEnd_2 (by decide) ?_
    refine g_istore_n dX12_atEnd_3 (by decide) rfl ?_
    exact outer (L.length - 1) 0 (by omega)
/-- a call on the reference that answers v, and may have ranked its squawks -/
abbrev mdR (X : gX) (h : gH) (z m pl : Nat) (I : Nat → Int32) (A : Nat → Nat → Int32) (V : Nat → Int64) (L : List Int32) (v : Int32) : Option Value → gH → Nat → Prop := fun r h' z' => r = some (.int v) ∧ z' = z ∧ (∃ I' A', MdB X h' m L.length pl I' A' V ∧ MdE I I' A A' ∧ I' 11 = 1 ∧ MdC L A') ∧ OffM h h' m
set_option maxRecDepth 100000 in
set_option maxHeartbeats 4000000 in
theorem m12_rankNow {X : gX} {h : gH} {z m pl : Nat} {I : Nat → Int32} {A : Nat → Nat → Int32} {V : Nat → Int64} {L : List Int32} (p : Nat) (hp : p < L.length) (hM : MdB X h m L.length pl I A V) (hn : L.length ≤ 40) (hA : ∀ i, i < L.length → A 5 i = lt L i) (hC : I 11 = 0 ∨ (I 11 = 1 ∧ MdC L A)) : gM X yX12_rankNow cX12_rankNow 2 (some .int) (4, 0, 0) [.ref m, .int (nI p)] h z (mdR X h z m pl I A V L (nI (rk L p))) gNoX := by
  refine gM.of px12 (Nat.le_of_ble_eq_true rfl) ?_
  intro F hE
  refine g_aload_n dX12_rankNow_0 rfl ?_
  refine g_callV0 kX12_117 (m12_sort hM hn hA hC) hM.1 rfl rfl rfl (Nat.le_of_ble_eq_true rfl) (by decide) (by decide) (by decide) (by decide) dX12_rankNow_1 ?_
  rintro v1 h1 z1 ⟨rfl, rfl, ⟨I1, A1, hM, hE1, hI1, hC1, hC2⟩, hO⟩
  refine g_aload_n dX12_rankNow_4 rfl ?_
  refine g_getf fl12_46 hM.1 rfl dX12_rankNow_5 ?_
  refine g_iload_n dX12_rankNow_8 rfl ?_
  refine g_ialdN (hM.2.1 7 (by decide)) (by show _ < 40; omega) (by decide) dX12_rankNow_9 ?_
  exact g_iret hE rfl (⟨by rw [hC1 p hp], rfl, ⟨I1, A1, hM, hE1, hI1, hC1, hC2⟩, hO⟩) dX12_rankNow_10
set_option maxRecDepth 100000 in
set_option maxHeartbeats 4000000 in
theorem m12_placeNow {X : gX} {h : gH} {z m pl : Nat} {I : Nat → Int32} {A : Nat → Nat → Int32} {V : Nat → Int64} {L : List Int32} (p : Nat) (hp : p < L.length) (hM : MdB X h m L.length pl I A V) (hn : L.length ≤ 40) (hA : ∀ i, i < L.length → A 5 i = lt L i) (hC : I 11 = 0 ∨ (I 11 = 1 ∧ MdC L A)) : gM X yX12_placeNow cX12_placeNow 2 (some .int) (4, 0, 0) [.ref m, .int (nI p)] h z (mdR X h z m pl I A V L (nI (plc L p))) gNoX := by
  refine gM.of px12 (Nat.le_of_ble_eq_true rfl) ?_
  intro F hE
  refine g_aload_n dX12_placeNow_0 rfl ?_
  refine g_callV0 kX12_117 (m12_sort hM hn hA hC) hM.1 rfl rfl rfl (Nat.le_of_ble_eq_true rfl) (by decide) (by decide) (by decide) (by decide) dX12_placeNow_1 ?_
  rintro v1 h1 z1 ⟨rfl, rfl, ⟨I1, A1, hM, hE1, hI1, hC1, hC2⟩, hO⟩
  refine g_aload_n dX12_placeNow_4 rfl ?_
  refine g_getf fl12_49 hM.1 rfl dX12_placeNow_5 ?_
  refine g_iload_n dX12_placeNow_8 rfl ?_
  refine g_ialdN (hM.2.1 8 (by decide)) (by show _ < 40; omega) (by decide) dX12_placeNow_9 ?_
  exact g_iret hE rfl (⟨by rw [hC2 p hp], rfl, ⟨I1, A1, hM, hE1, hI1, hC1, hC2⟩, hO⟩) dX12_placeNow_10
set_option maxRecDepth 100000 in
set_option maxHeartbeats 4000000 in
theorem m12_sharedNow {X : gX} {h : gH} {z m pl : Nat} {I : Nat → Int32} {A : Nat → Nat → Int32} {V : Nat → Int64} {L : List Int32} (p : Nat) (hp : p < L.length) (hM : MdB X h m L.length pl I A V) (hn : L.length ≤ 40) (hA : ∀ i, i < L.length → A 5 i = lt L i) (hC : I 11 = 0 ∨ (I 11 = 1 ∧ MdC L A)) : gM X yX12_sharedNow cX12_sharedNow 2 (some .int) (4, 0, 0) [.ref m, .int (nI p)] h z (mdR X h z m pl I A V L (nI (shr L p))) gNoX := by
  refine gM.of px12 (Nat.le_of_ble_eq_true rfl) ?_
  intro F hE
  refine g_aload_n dX12_sharedNow_0 rfl ?_
  refine g_callV0 kX12_117 (m12_sort hM hn hA hC) hM.1 rfl rfl rfl (Nat.le_of_ble_eq_true rfl) (by decide) (by decide) (by decide) (by decide) dX12_sharedNow_1 ?_
  rintro v1 h1 z1 ⟨rfl, rfl, ⟨I1, A1, hM, hE1, hI1, hC1, hC2⟩, hO⟩
  refine g_iload_n dX12_sharedNow_4 rfl ?_
  refine g_if_neN 12 dX12_sharedNow_5 (by decide) (by omega) (fun c_5 => ?_) (fun c_5 => ?_)
  · refine g_aload_n dX12_sharedNow_12 rfl ?_
    refine g_aload_n dX12_sharedNow_13 rfl ?_
    refine g_getf fl12_49 hM.1 rfl dX12_sharedNow_14 ?_
    refine g_iload_n dX12_sharedNow_17 rfl ?_
    refine g_ialdN (hM.2.1 8 (by decide)) (by show _ < 40; omega) (by decide) dX12_sharedNow_18 ?_
    rw [hC2 _ (by omega)]
    refine g_aload_n dX12_sharedNow_19 rfl ?_
    refine g_getf fl12_49 hM.1 rfl dX12_sharedNow_20 ?_
    refine g_iload_n dX12_sharedNow_23 rfl ?_
    refine g_iconst (nI 1) dX12_sharedNow_24 (by decide) ?_
    first | refine g_isubN dX12_sharedNow_25 (by omega) ?_ | refine g_isub dX12_sharedNow_25 ?_
    refine g_ialdN (hM.2.1 8 (by decide)) (by show _ < 40; omega) (by decide) dX12_sharedNow_26 ?_
    rw [hC2 _ (by omega)]
    have q1 := (plc_spec (L := L) (r := p) (by omega)).1
    have q2 := (plc_spec (L := L) (r := p - 1) (by omega)).1
    refine g_callV0 kX12_109 (m12_same (plc L p) (plc L (p - 1)) (by omega) (by omega) hM hn (fun i hi => by rw [hE1.2 5 (by decide) (by decide)]; exact hA i hi)) hM.1 rfl rfl rfl (Nat.le_of_ble_eq_true rfl) (by decide) (by decide) (by decide) (by decide) dX12_sharedNow_27 ?_
    rintro v2 h2 z2 ⟨rfl, rfl, rfl⟩
    exact g_iret hE rfl (⟨by unfold shr; rw [if_neg c_5, lcp_symm], rfl, ⟨I1, A1, hM, hE1, hI1, hC1, hC2⟩, hO⟩) dX12_sharedNow_30
  · refine g_iconst (nI 0) dX12_sharedNow_8 (by decide) ?_
    refine g_goto 30 dX12_sharedNow_9 (by decide) ?_
    exact g_iret hE rfl (⟨by unfold shr; rw [if_pos c_5], rfl, ⟨I1, A1, hM, hE1, hI1, hC1, hC2⟩, hO⟩) dX12_sharedNow_30
theorem cnt_tail {P : Nat → Bool} {p n : Nat} (h : p ≤ n) (hf : ∀ i, p ≤ i → i < n → P i = false) : cnt P p = cnt P n := by
  induction n with
  | zero => rw [show p = 0 by omega]
  | succ n ih =>
    by_cases e : p = n + 1
    · rw [e]
    · show _ = cnt P n + if P n = true then 1 else 0
      rw [hf n (by omega) (by omega), ← ih (by omega) (fun i h1 h2 => hf i h1 (by omega))]; rfl
def kwP (L : List Int32) (k t p : Nat) : Bool := decide (p + k ≤ L.length) && (isF L p k && decide (t ≤ cnt (stP L p k) L.length))
set_option maxRecDepth 100000 in
set_option maxHeartbeats 4000000 in
theorem m12_kindsWith {X : gX} {h : gH} {z m pl : Nat} {I : Nat → Int32} {A : Nat → Nat → Int32} {V : Nat → Int64} {L : List Int32} (k t : Nat) (hk : 1 ≤ k) (hk2 : k ≤ 40) (ht : t < 100) (hM : MdB X h m L.length pl I A V) (hn : L.length ≤ 40) (hA : ∀ i, i < L.length → A 5 i = lt L i) : gM X yX12_kindsWith cX12_kindsWith 5 (some .int) (3, 0, 0) [.ref m, .int (nI k), .int (nI t)] h z (pR h z (nI (cnt (kwP L k t) L.length))) gNoX := by
  refine gM.of px12 (Nat.le_of_ble_eq_true rfl) ?_
  intro F hE
  have loop : ∀ (r p : Nat), p + r = L.length + 1 → (p = 0 ∨ p + k ≤ L.length + 1) → G X F cX12_kindsWith 5 yX12_kindsWith.cls (3, 0, 0) 0 0 5 [some (.ref m), some (.int (nI k)), some (.int (nI t)), some (.int (nI (cnt (kwP L k t) p))), some (.int (nI p))] [] h z := by
    intro r
    induction r with
    | zero =>
      intro p hp hb
      exact absurd hb (by omega)
    | succ r ih =>
      intro p hp hb
      have hb2 := cnt_le (kwP L k t) p
      have hb3 := cnt_le (stP L p k) L.length
      have hstep : cnt (kwP L k t) (p + 1) = cnt (kwP L k t) p + if kwP L k t p = true then 1 else 0 := rfl
      have j43 : ∀ v : Nat, p + k ≤ L.length → (v = if kwP L k t p = true then 1 else 0) → G X F cX12_kindsWith 5 yX12_kindsWith.cls (3, 0, 0) 0 0 43 [some (.ref m), some (.int (nI k)), some (.int (nI t)), some (.int (nI (cnt (kwP L k t) p))), some (.int (nI p))] [.int (nI v), .int (nI (cnt (kwP L k t) p))] h z := by
        intro v hpk hv
        first | refine g_iaddN dX12_kindsWith_43 ?_ | refine g_iadd dX12_kindsWith_43 ?_
        refine g_istore_n dX12_kindsWith_44 (by decide) rfl ?_
        refine g_iincN dX12_kindsWith_45 rfl (by decide) rfl ?_
        refine g_goto 5 dX12_kindsWith_48 (by decide) ?_
        rw [hv, ← hstep]
        exact ih (p + 1) (by omega) (Or.inr (by omega))
      refine g_iload dX12_kindsWith_5 rfl ?_
      refine g_iload_n dX12_kindsWith_7 rfl ?_
      first | refine g_iaddN dX12_kindsWith_8 ?_ | refine g_iadd dX12_kindsWith_8 ?_
      refine g_aload_n dX12_kindsWith_9 rfl ?_
      refine g_getf fl12_61 hM.1 rfl dX12_kindsWith_10 ?_
      refine g_icmp_gtN 51 dX12_kindsWith_13 (by decide) (by omega) (by omega) (fun c_13 => ?_) (fun c_13 => ?_)
      · refine g_iload_n dX12_kindsWith_51 rfl ?_
        exact g_iret hE rfl (⟨by rw [cnt_tail (show p ≤ L.length by omega) (fun i h1 h2 => by unfold kwP; rw [decide_eq_false (by omega)]; rfl)], rfl, rfl⟩) dX12_kindsWith_52
      · refine g_iload_n dX12_kindsWith_16 rfl ?_
        refine g_aload_n dX12_kindsWith_17 rfl ?_
        refine g_iload dX12_kindsWith_18 rfl ?_
        refine g_iload_n dX12_kindsWith_20 rfl ?_
        refine g_callV0 kX12_129 (m12_isFirst p k (by omega) (by omega) hM hn hA) hM.1 rfl rfl rfl (Nat.le_of_ble_eq_true rfl) (by decide) (by decide) (by decide) (by decide) dX12_kindsWith_21 ?_
        rintro v1 h2 z1 ⟨rfl, rfl, rfl⟩
        refine g_if_eqB 42 dX12_kindsWith_24 (by decide) (fun c_24 => ?_) (fun c_24 => ?_)
        · refine g_iconst (nI 0) dX12_kindsWith_42 (by decide) ?_
          exact j43 0 (by omega) (by rw [if_neg]; unfold kwP; simp [c_24])
        · refine g_aload_n dX12_kindsWith_27 rfl ?_
          refine g_iload dX12_kindsWith_28 rfl ?_
          refine g_iload_n dX12_kindsWith_30 rfl ?_
          refine g_callV0 kX12_132 (m12_standing p k (by omega) (by omega) hM hn hA) hM.1 rfl rfl rfl (Nat.le_of_ble_eq_true rfl) (by decide) (by decide) (by decide) (by decide) dX12_kindsWith_31 ?_
          rintro v2 h3 z2 ⟨rfl, rfl, rfl⟩
          refine g_iload_n dX12_kindsWith_34 rfl ?_
          refine g_icmp_ltN 42 dX12_kindsWith_35 (by decide) (by omega) (by omega) (fun c_35 => ?_) (fun c_35 => ?_)
          · refine g_iconst (nI 0) dX12_kindsWith_42 (by decide) ?_
            exact j43 0 (by omega) (by rw [if_neg]; unfold kwP; simp; intros; omega)
          · refine g_iconst (nI 1) dX12_kindsWith_38 (by decide) ?_
            refine g_goto 43 dX12_kindsWith_39 (by decide) ?_
            exact j43 1 (by omega) (by rw [if_pos]; unfold kwP; simp [c_24]; omega)
  refine g_iconst (nI 0) dX12_kindsWith_0 (by decide) ?_
  refine g_istore_n dX12_kindsWith_1 (by decide) rfl ?_
  refine g_iconst (nI 0) dX12_kindsWith_2 (by decide) ?_
  refine g_istore dX12_kindsWith_3 (by decide) rfl ?_
  exact loop (L.length + 1) 0 (by omega) (Or.inl rfl)
