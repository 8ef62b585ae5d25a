/-! the reference: the longest repeat, all phrases, echoing, the end -/
/-- the most that the squawk of p shares with those of the places below q -/
def inU (L : List Int32) (p : Nat) : Nat → Nat
  | 0 => 0
  | q + 1 => max (inU L p q) (lcp L q p)
def loU (L : List Int32) : Nat → Nat
  | 0 => 0
  | p + 1 => max (loU L p) (inU L p p)
def akU (L : List Int32) : Nat → Nat
  | 0 => 0
  | p + 1 => akU L p + (L.length - p - inU L p p)
theorem inU_le {L : List Int32} {p : Nat} (hp : p ≤ L.length) : ∀ {q : Nat}, q ≤ L.length → p + inU L p q ≤ L.length := by
  intro q
  induction q with
  | zero => intro _; exact hp
  | succ q ih =>
    intro hq
    have h1 := ih (by omega)
    have h2 := lcp_le' (L := L) (p := q) (q := p) hp
    unfold inU
    omega
theorem loU_le {L : List Int32} : ∀ {p : Nat}, p ≤ L.length → loU L p ≤ L.length := by
  intro p
  induction p with
  | zero => intro _; exact Nat.zero_le _
  | succ p ih =>
    intro hp
    have h1 := ih (by omega)
    have h2 := inU_le (L := L) (p := p) (by omega) (q := p) (by omega)
    unfold loU
    omega
theorem akU_le {L : List Int32} : ∀ {p : Nat}, p ≤ L.length → akU L p ≤ p * L.length := by
  intro p
  induction p with
  | zero => intro _; exact Nat.zero_le _
  | succ p ih =>
    intro hp
    have h1 := ih (by omega)
    unfold akU
    rw [Nat.succ_mul]
    omega
theorem inU_s (L : List Int32) (p q : Nat) : inU L p (q + 1) = max (inU L p q) (lcp L q p) := rfl
theorem loU_s (L : List Int32) (p : Nat) : loU L (p + 1) = max (loU L p) (inU L p p) := rfl
theorem akU_s (L : List Int32) (p : Nat) : akU L (p + 1) = akU L p + (L.length - p - inU L p p) := rfl
set_option maxRecDepth 100000 in
set_option maxHeartbeats 4000000 in
theorem m12_longest {X : gX} {h : gH} {z m pl : Nat} {I : Nat → Int32} {A : Nat → Nat → Int32} {V : Nat → Int64} {L : List Int32} (hM : MdB X h m L.length pl I A V) (hn : L.length ≤ 40) (hA : ∀ i, i < L.length → A 5 i = lt L i) : gM X yX12_longest cX12_longest 4 (some .int) (2, 0, 0) [.ref m] h z (pR h z (nI (loU L L.length))) gNoX := by
  refine gM.of px12 (Nat.le_of_ble_eq_true rfl) ?_
  intro F hE
  have inner : ∀ (r j p : Nat), j + r = p → p < L.length → G X F cX12_longest 4 yX12_longest.cls (2, 0, 0) 0 0 36 [some (.ref m), some (.int (nI (loU L (p + 1)))), some (.int (nI p)), none] [] h z → G X F cX12_longest 4 yX12_longest.cls (2, 0, 0) 0 0 14 [some (.ref m), some (.int (nI (max (loU L p) (inU L p j)))), some (.int (nI p)), some (.int (nI j))] [] h z := by
    intro r
    induction r with
    | zero =>
      intro j p hj hp K
      refine g_iload_n dX12_longest_14 rfl ?_
      refine g_iload_n dX12_longest_15 rfl ?_
      refine g_icmp_geN 36 dX12_longest_16 (by decide) (by omega) (by omega) (fun c_16 => ?_) (fun c_16 => ?_)
      · rw [show j = p by omega, ← loU_s]
        exact G.kill 3 K
      · exact absurd c_16 (by omega)
    | succ r ih =>
      intro j p hj hp K
      have b1 := loU_le (L := L) (p := p) (by omega)
      have b2 := inU_le (L := L) (p := p) (by omega) (q := j) (by omega)
      have b3 := lcp_le' (L := L) (p := j) (q := p) (by omega)
      refine g_iload_n dX12_longest_14 rfl ?_
      refine g_iload_n dX12_longest_15 rfl ?_
      refine g_icmp_geN 36 dX12_longest_16 (by decide) (by omega) (by omega) (fun c_16 => ?_) (fun c_16 => ?_)
      · exact absurd c_16 (by omega)
      · refine g_iload_n dX12_longest_19 rfl ?_
        refine g_aload_n dX12_longest_20 rfl ?_
        refine g_iload_n dX12_longest_21 rfl ?_
        refine g_iload_n dX12_longest_22 rfl ?_
        refine g_callV0 kX12_109 (m12_same j p (by omega) (by omega) hM hn hA) hM.1 rfl rfl rfl (Nat.le_of_ble_eq_true rfl) (by decide) (by decide) (by decide) (by decide) dX12_longest_23 ?_
        rintro v1 h2 z1 ⟨rfl, rfl, rfl⟩
        refine gmax wmath_max wlX12_120 (by decide) (Nat.le_of_ble_eq_true rfl) (by decide) (by decide) dX12_longest_26 ?_
        rw [nI_max (by omega) (by omega), Nat.max_assoc, ← inU_s]
        refine g_istore_n dX12_longest_29 (by decide) rfl ?_
        refine g_iincN dX12_longest_30 rfl (by decide) rfl ?_
        refine g_goto 14 dX12_longest_33 (by decide) ?_
        exact ih (j + 1) p (by omega) hp K
  have outer : ∀ (r p : Nat), p + r = L.length → G X F cX12_longest 4 yX12_longest.cls (2, 0, 0) 0 0 4 [some (.ref m), some (.int (nI (loU L p))), some (.int (nI p)), none] [] h z := by
    intro r
    induction r with
    | zero =>
      intro p hp
      refine g_iload_n dX12_longest_4 rfl ?_
      refine g_aload_n dX12_longest_5 rfl ?_
      refine g_getf fl12_61 hM.1 rfl dX12_longest_6 ?_
      refine g_icmp_geN 42 dX12_longest_9 (by decide) (by omega) (by omega) (fun c_9 => ?_) (fun c_9 => ?_)
      · refine g_iload_n dX12_longest_42 rfl ?_
        exact g_iret hE rfl (⟨by rw [show p = L.length by omega], rfl, rfl⟩) dX12_longest_43
      · exact absurd c_9 (by omega)
    | succ r ih =>
      intro p hp
      refine g_iload_n dX12_longest_4 rfl ?_
      refine g_aload_n dX12_longest_5 rfl ?_
      refine g_getf fl12_61 hM.1 rfl dX12_longest_6 ?_
      refine g_icmp_geN 42 dX12_longest_9 (by decide) (by omega) (by omega) (fun c_9 => ?_) (fun c_9 => ?_)
      · exact absurd c_9 (by omega)
      · refine g_iconst (nI 0) dX12_longest_12 (by decide) ?_
        refine g_istore_n dX12_longest_13 (by decide) rfl ?_
        refine G.eql (lv' := [some (.ref m), some (.int (nI (max (loU L p) (inU L p 0)))), some (.int (nI p)), some (.int (nI 0))]) (by rw [show max (loU L p) (inU L p 0) = loU L p from Nat.max_eq_left (Nat.zero_le _)]; rfl) ?_
        refine inner p 0 p (by omega) (by omega) ?_
        refine g_iincN dX12_longest_36 rfl (by decide) rfl ?_
        refine g_goto 4 dX12_longest_39 (by decide) ?_
        exact ih (p + 1) (by omega)
  refine g_iconst (nI 0) dX12_longest_0 (by decide) ?_
  refine g_istore_n dX12_longest_1 (by decide) rfl ?_
  refine g_iconst (nI 0) dX12_longest_2 (by decide) ?_
  refine g_istore_n dX12_longest_3 (by decide) rfl ?_
  exact outer L.length 0 (by omega)
set_option maxRecDepth 100000 in
set_option maxHeartbeats 4000000 in
theorem m12_allKinds {X : gX} {h : gH} {z m pl : Nat} {I : Nat → Int32} {A : Nat → Nat → Int32} {V : Nat → Int64} {L : List Int32} (hM : MdB X h m L.length pl I A V) (hn : L.length ≤ 40) (hA : ∀ i, i < L.length → A 5 i = lt L i) : gM X yX12_allKinds cX12_allKinds 5 (some .int) (2, 0, 0) [.ref m] h z (pR h z (nI (akU L L.length))) gNoX := by
  refine gM.of px12 (Nat.le_of_ble_eq_true rfl) ?_
  intro F hE
  have inner : ∀ (r j p : Nat), j + r = p → p < L.length → G X F cX12_allKinds 5 yX12_allKinds.cls (2, 0, 0) 0 0 41 [some (.ref m), some (.int (nI (akU L p))), some (.int (nI p)), some (.int (nI (inU L p p))), none] [] h z → G X F cX12_allKinds 5 yX12_allKinds.cls (2, 0, 0) 0 0 17 [some (.ref m), some (.int (nI (akU L p))), some (.int (nI p)), some (.int (nI (inU L p j))), some (.int (nI j))] [] h z := by
    intro r
    induction r with
    | zero =>
      intro j p hj hp K
      refine g_iload dX12_allKinds_17 rfl ?_
      refine g_iload_n dX12_allKinds_19 rfl ?_
      refine g_icmp_geN 41 dX12_allKinds_20 (by decide) (by omega) (by omega) (fun c_20 => ?_) (fun c_20 => ?_)
      · rw [show j = p by omega]
        exact G.kill 4 K
      · exact absurd c_20 (by omega)
    | succ r ih =>
      intro j p hj hp K
      have b2 := inU_le (L := L) (p := p) (by omega) (q := j) (by omega)
      have b3 := lcp_le' (L := L) (p := j) (q := p) (by omega)
      refine g_iload dX12_allKinds_17 rfl ?_
      refine g_iload_n dX12_allKinds_19 rfl ?_
      refine g_icmp_geN 41 dX12_allKinds_20 (by decide) (by omega) (by omega) (fun c_20 => ?_) (fun c_20 => ?_)
      · exact absurd c_20 (by omega)
      · refine g_iload_n dX12_allKinds_23 rfl ?_
        refine g_aload_n dX12_allKinds_24 rfl ?_
        refine g_iload dX12_allKinds_25 rfl ?_
        refine g_iload_n dX12_allKinds_27 rfl ?_
        refine g_callV0 kX12_109 (m12_same j p (by omega) (by omega) hM hn hA) hM.1 rfl rfl rfl (Nat.le_of_ble_eq_true rfl) (by decide) (by decide) (by decide) (by decide) dX12_allKinds_28 ?_
        rintro v1 h2 z1 ⟨rfl, rfl, rfl⟩
        refine gmax wmath_max wlX12_120 (by decide) (Nat.le_of_ble_eq_true rfl) (by decide) (by decide) dX12_allKinds_31 ?_
        rw [nI_max (by omega) (by omega), ← inU_s]
        refine g_istore_n dX12_allKinds_34 (by decide) rfl ?_
        refine g_iincN dX12_allKinds_35 rfl (by decide) rfl ?_
        refine g_goto 17 dX12_allKinds_38 (by decide) ?_
        exact ih (j + 1) p (by omega) hp K
  have outer : ∀ (r p : Nat), p + r = L.length → G X F cX12_allKinds 5 yX12_allKinds.cls (2, 0, 0) 0 0 4 [some (.ref m), some (.int (nI (akU L p))), some (.int (nI p)), none, none] [] h z := by
    intro r
    induction r with
    | zero =>
      intro p hp
      refine g_iload_n dX12_allKinds_4 rfl ?_
      refine g_aload_n dX12_allKinds_5 rfl ?_
      refine g_getf fl12_61 hM.1 rfl dX12_allKinds_6 ?_
      refine g_icmp_geN 58 dX12_allKinds_9 (by decide) (by omega) (by omega) (fun c_9 => ?_) (fun c_9 => ?_)
      · refine g_iload_n dX12_allKinds_58 rfl ?_
        exact g_iret hE rfl (⟨by rw [show p = L.length by omega], rfl, rfl⟩) dX12_allKinds_59
      · exact absurd c_9 (by omega)
    | succ r ih =>
      intro p hp
      have b2 := inU_le (L := L) (p := p) (by omega) (q := p) (by omega)
      refine g_iload_n dX12_allKinds_4 rfl ?_
      refine g_aload_n dX12_allKinds_5 rfl ?_
      refine g_getf fl12_61 hM.1 rfl dX12_allKinds_6 ?_
      refine g_icmp_geN 58 dX12_allKinds_9 (by decide) (by omega) (by omega) (fun c_9 => ?_) (fun c_9 => ?_)
      · exact absurd c_9 (by omega)
      · refine g_iconst (nI 0) dX12_allKinds_12 (by decide) ?_
        refine g_istore_n dX12_allKinds_13 (by decide) rfl ?_
        refine g_iconst (nI 0) dX12_allKinds_14 (by decide) ?_
        refine g_istore dX12_allKinds_15 (by decide) rfl ?_
        refine inner p 0 p (by omega) (by omega) ?_
        refine g_iload_n dX12_allKinds_41 rfl ?_
        refine g_aload_n dX12_allKinds_42 rfl ?_
        refine g_getf fl12_61 hM.1 rfl dX12_allKinds_43 ?_
        refine g_iload_n dX12_allKinds_46 rfl ?_
        first | refine g_isubN dX12_allKinds_47 (by omega) ?_ | refine g_isub dX12_allKinds_47 ?_
        refine g_iload_n dX12_allKinds_48 rfl ?_
        first | refine g_isubN dX12_allKinds_49 (by omega) ?_ | refine g_isub dX12_allKinds_49 ?_
        first | refine g_iaddN dX12_allKinds_50 ?_ | refine g_iadd dX12_allKinds_50 ?_
        refine g_istore_n dX12_allKinds_51 (by decide) rfl ?_
        refine g_iincN dX12_allKinds_52 rfl (by decide) rfl ?_
        refine g_goto 4 dX12_allKinds_55 (by decide) ?_
        rw [← akU_s]
        refine G.kill 3 ?_
        exact ih (p + 1) (by omega)
  refine g_iconst (nI 0) dX12_allKinds_0 (by decide) ?_
  refine g_istore_n dX12_allKinds_1 (by decide) rfl ?_
  refine g_iconst (nI 0) dX12_allKinds_2 (by decide) ?_
  refine g_istore_n dX12_allKinds_3 (by decide) rfl ?_
  exact outer L.length 0 (by omega)
