/-! both sides' numbers are one: where the longest repeat stands, and how often -/
def PP (L : List Int32) (k p : Nat) : Prop := isF L p k = true ∧ 1 < cnt (stP L p k) L.length
theorem rbU_spec {L : List Int32} {k : Nat} : ∀ {m : Nat}, m ≤ L.length → (rbU L k m = none ∧ ∀ p, p < m → ¬ PP L k p) ∨ ∃ b, rbU L k m = some b ∧ b < m ∧ PP L k b ∧ ∀ q, q < m → PP L k q → q ≠ b → ahd L b q = true := by
  intro m
  induction m with
  | zero => intro _; exact Or.inl ⟨rfl, fun p h => by omega⟩
  | succ m ih =>
    intro h
    rw [rbU_s]
    by_cases hp : PP L k m
    · rcases ih (by omega) with ⟨h1, h2⟩ | ⟨b, h1, h2, h3, h4⟩
      · rw [h1, if_pos ⟨hp.1, hp.2, rfl⟩]
        refine Or.inr ⟨m, rfl, by omega, hp, fun q hq hP hne => absurd hP (h2 q (by omega))⟩
      · rw [h1]
        by_cases ha : ahd L m b = true
        · rw [if_pos ⟨hp.1, hp.2, ha⟩]
          refine Or.inr ⟨m, rfl, by omega, hp, fun q hq hP hne => ?_⟩
          by_cases e : q = b
          · rw [e]; exact ha
          · exact ahd_trans (by omega) (by omega) (by omega) ha (h4 q (by omega) hP e)
        · rw [if_neg (fun x => ha x.2.2)]
          refine Or.inr ⟨b, rfl, by omega, h3, fun q hq hP hne => ?_⟩
          by_cases e : q = m
          · rw [e]
            rcases ahd_total (L := L) (p := m) (q := b) (by omega) (by omega) (by omega) with x | x
            · exact absurd x ha
            · exact x
          · exact h4 q (by omega) hP hne
    · rcases ih (by omega) with ⟨h1, h2⟩ | ⟨b, h1, h2, h3, h4⟩
      · rw [h1, if_neg (fun x => hp ⟨x.1, x.2.1⟩)]
        exact Or.inl ⟨rfl, fun p hp2 => by
          by_cases e : p = m
          · rw [e]; exact hp
          · exact h2 p (by omega)⟩
      · rw [h1, if_neg (fun x => hp ⟨x.1, x.2.1⟩)]
        exact Or.inr ⟨b, rfl, by omega, h3, fun q hq hP hne => by
          by_cases e : q = m
          · rw [e] at hP; exact absurd hP hp
          · exact h4 q (by omega) hP hne⟩
theorem shr_lonL {L : List Int32} {r : Nat} (h : r < L.length) : shr L r ≤ lon L := shr_lon h
/-- the run of ranks from r0 on: its least place -/
theorem rpA_spec {L : List Int32} {r0 : Nat} (h0 : r0 < L.length) : ∀ {m r x : Nat}, r + m = L.length → r0 < r → (∀ t, r0 ≤ t → t < r → lon L ≤ lcp L (plc L t) (plc L r0)) → lon L ≤ lcp L x (plc L r0) → (∀ q, q < L.length → rk L q < r → r0 ≤ rk L q → lon L ≤ lcp L q (plc L r0) → x ≤ q) → lon L ≤ lcp L (rpA L m r x) (plc L r0) ∧ ∀ q, q < L.length → r0 ≤ rk L q → lon L ≤ lcp L q (plc L r0) → rpA L m r x ≤ q := by
  intro m
  induction m with
  | zero =>
    intro r x hr h1 h2 h3 h4
    exact ⟨h3, fun q hq h5 h6 => h4 q hq (by have := rk_lt hq; omega) h5 h6⟩
  | succ m ih =>
    intro r x hr h1 h2 h3 h4
    have hrn : r < L.length := by omega
    show lon L ≤ lcp L (if lon L ≤ shr L r then rpA L m (r + 1) (min x (plc L r)) else x) _ ∧ ∀ q, _ → _ → _ → (if lon L ≤ shr L r then rpA L m (r + 1) (min x (plc L r)) else x) ≤ q
    by_cases hs : lon L ≤ shr L r
    · simp only [if_pos hs]
      have e : shr L r = lcp L (plc L (r - 1)) (plc L r) := by unfold shr; rw [if_neg (by omega)]
      have hin : lon L ≤ lcp L (plc L r) (plc L r0) := lcp_tr (q := plc L (r - 1)) (by rw [lcp_symm, ← e]; exact hs) (h2 (r - 1) (by omega) (by omega))
      refine ih (by omega) (by omega) (fun t a b => ?_) ?_ (fun q hq a b c => ?_)
      · by_cases e2 : t = r
        · rw [e2]; exact hin
        · exact h2 t a (by omega)
      · rcases Nat.le_total x (plc L r) with y | y
        · rw [Nat.min_eq_left y]; exact h3
        · rw [Nat.min_eq_right y]; exact hin
      · by_cases e2 : rk L q = r
        · have := plc_rk hq; rw [e2] at this; rw [← this]; exact Nat.min_le_right _ _
        · exact Nat.le_trans (Nat.min_le_left _ _) (h4 q hq (by omega) b c)
    · simp only [if_neg hs]
      refine ⟨h3, fun q hq a b => ?_⟩
      by_cases e2 : rk L q < r
      · exact h4 q hq e2 a b
      · have h5 := rk_lt hq
        have h6 := lcp_shr h5 (show r0 < rk L q by omega) r h1 (by omega)
        rw [plc_rk hq, lcp_symm] at h6
        omega
theorem rcA_spec {L : List Int32} {r0 : Nat} (h0 : r0 < L.length) : ∀ {m r x : Nat}, r + m = L.length → r0 < r → (∀ t, r0 ≤ t → t < r → lon L ≤ lcp L (plc L t) (plc L r0)) → x = cnt (fun t => decide (lon L ≤ lcp L (plc L t) (plc L r0))) r → rcA L m r x = cnt (fun t => decide (lon L ≤ lcp L (plc L t) (plc L r0))) L.length := by
  intro m
  induction m with
  | zero =>
    intro r x hr h1 h2 h3
    show x = _
    rw [h3, show r = L.length by omega]
  | succ m ih =>
    intro r x hr h1 h2 h3
    have hrn : r < L.length := by omega
    show (if lon L ≤ shr L r then rcA L m (r + 1) (x + 1) else x) = _
    by_cases hs : lon L ≤ shr L r
    · rw [if_pos hs]
      have e : shr L r = lcp L (plc L (r - 1)) (plc L r) := by unfold shr; rw [if_neg (by omega)]
      have hin : lon L ≤ lcp L (plc L r) (plc L r0) := lcp_tr (q := plc L (r - 1)) (by rw [lcp_symm, ← e]; exact hs) (h2 (r - 1) (by omega) (by omega))
      refine ih (by omega) (by omega) (fun t a b => ?_) ?_
      · by_cases e2 : t = r
        · rw [e2]; exact hin
        · exact h2 t a (by omega)
      · show x + 1 = cnt _ r + (if decide (lon L ≤ lcp L (plc L r) (plc L r0)) = true then 1 else 0)
        rw [if_pos (decide_eq_true hin), h3]
    · rw [if_neg hs, h3]
      refine cnt_tail (by omega) fun i a b => decide_eq_false fun y => ?_
      have h6 := lcp_shr b (show r0 < i by omega) r h1 a
      rw [lcp_symm] at h6
      omega
/-- the first rank of the longest repeat -/
theorem frr_spec {L : List Int32} {r0 : Nat} (h : frr L = some r0) : r0 + 1 < L.length ∧ 0 < lon L ∧ shr L (r0 + 1) = lon L ∧ ∀ t, t ≤ r0 → shr L t < lon L := by
  have h1 := frr_some h
  refine ⟨h1.1, h1.2.2, h1.2.1, fun t ht => ?_⟩
  unfold frr at h
  cases hf : fstA (frP L) (L.length - 1) 1 with
  | none => rw [hf] at h; cases h
  | some k =>
    rw [hf] at h
    cases h
    obtain ⟨a, b, c, d⟩ := fstA_some.mp hf
    by_cases e : t = 0
    · subst e; exact h1.2.2
    · have h2 := d t (by omega) (by dsimp only at ht; omega)
      unfold frP at h2
      simp only [decide_eq_false_iff_not, not_and] at h2
      have := h2 h1.2.2
      have := shr_lonL (L := L) (r := t) (by dsimp only at ht; omega)
      omega
theorem frr_none {L : List Int32} (h : frr L = none) : lon L = 0 := by
  unfold frr at h
  rw [Option.map_eq_none_iff, fstA_none] at h
  rcases lon_of (L := L) (m := L.length) with e | ⟨r, h1, h2⟩
  · exact e
  · by_cases e : lon L = 0
    · exact e
    · have hr : r ≠ 0 := fun q => by subst q; exact e (by show lonU L L.length = 0; rw [← h2]; rfl)
      have h3 := h r (by omega) (by omega)
      unfold frP at h3
      simp only [decide_eq_false_iff_not, not_and] at h3
      exact absurd h2 (h3 (by omega))
theorem repeat_eq {L : List Int32} {r0 : Nat} (h : frr L = some r0) : rbU L (lon L) L.length = some (rpA L (L.length - (r0 + 1)) (r0 + 1) (plc L r0)) ∧ lon L ≤ lcp L (rpA L (L.length - (r0 + 1)) (r0 + 1) (plc L r0)) (plc L r0) := by
  obtain ⟨f1, f2, f3, f4⟩ := frr_spec h
  have pa := plc_spec (L := L) (r := r0) (by omega)
  have pb := plc_spec (L := L) (r := r0 + 1) f1
  have sh : shr L (r0 + 1) = lcp L (plc L r0) (plc L (r0 + 1)) := by unfold shr; rw [if_neg (by omega), Nat.add_sub_cancel]
  have la := lcp_le (L := L) (p := plc L r0) (q := plc L (r0 + 1)) (by omega)
  obtain ⟨y1, y2⟩ := rpA_spec (L := L) (r0 := r0) (by omega) (m := L.length - (r0 + 1)) (r := r0 + 1) (x := plc L r0) (by omega) (by omega) (fun t a b => by rw [show t = r0 by omega, lcp_self (by omega)]; omega) (by rw [lcp_self (by omega)]; omega) (fun q hq a b c => by
    have := plc_rk hq
    rw [show rk L q = r0 by omega] at this
    omega)
  generalize rpA L (L.length - (r0 + 1)) (r0 + 1) (plc L r0) = y at y1 y2 ⊢
  refine ⟨?_, y1⟩
  -- members of the class have no rank below r0
  have low : ∀ q, q < L.length → lon L ≤ lcp L q (plc L r0) → r0 ≤ rk L q := by
    intro q hq hl
    rcases Nat.lt_or_ge (rk L q) r0 with x | x
    · have h5 := lcp_shr (show r0 < L.length by omega) x r0 x (Nat.le_refl _)
      rw [plc_rk hq] at h5
      have := f4 r0 (Nat.le_refl _)
      omega
    · exact x
  have yn : y < L.length := by
    rcases Nat.lt_or_ge y L.length with x | x
    · exact x
    · have := y2 (plc L r0) pa.1 (by omega) (by rw [lcp_self (by omega)]; omega)
      omega
  have least : ∀ q, q < L.length → lon L ≤ lcp L q (plc L r0) → y ≤ q := fun q hq hl => y2 q hq (low q hq hl) hl
  have yF : isF L y (lon L) = true := isF_iff.mpr fun q hq => by
    rcases Nat.lt_or_ge (lcp L q y) (lon L) with x | x
    · exact x
    · have := least q (by omega) (lcp_tr x y1); omega
  have yPP : PP L (lon L) y := by
    refine ⟨yF, cnt_two (x := plc L r0) (y := plc L (r0 + 1)) pa.1 pb.1 (fun e => by rw [e] at pa; omega) ?_ ?_⟩
    · unfold stP; exact decide_eq_true (by rw [lcp_symm]; exact y1)
    · unfold stP; exact decide_eq_true (lcp_tr (q := plc L r0) (by rw [lcp_symm, ← sh, f3]; exact Nat.le_refl _) (by rw [lcp_symm]; exact y1))
  have yA : ∀ q, q < L.length → PP L (lon L) q → q ≠ y → ahd L y q = true := by
    intro q hq hP hne
    rcases ahd_total (L := L) (p := y) (q := q) yn hq (fun e => hne e.symm) with x | x
    · exact x
    · exfalso
      have hlt := rk_lt_of_ahd hq yn x
      have hnin : ¬ lon L ≤ lcp L q (plc L r0) := fun hl => hne (isF_uniq hP.1 yF (lcp_tr hl (by rw [lcp_symm]; exact y1)))
      have hqa : rk L q ≠ r0 := fun e => by
        have := plc_rk hq
        rw [e] at this
        rw [← this, lcp_self (by omega)] at hnin
        omega
      have hql : rk L q < r0 := by
        rcases Nat.lt_or_ge (rk L q) r0 with z | z
        · exact z
        · exfalso
          have a1 : ahd L (plc L r0) q = true := (rk_iff pa.1 hq).mp (by omega)
          have := lcp_mid pa.1 hq yn a1 x
          rw [lcp_symm L (plc L r0) y, lcp_symm L (plc L r0) q] at this
          omega
      obtain ⟨q2, b1, b2, b3⟩ := cnt_other (j := q) hP.2
      unfold stP at b3
      simp only [decide_eq_true_eq] at b3
      have hr2 := rk_lt b1
      rcases Nat.lt_trichotomy (rk L q) (rk L q2) with z | z | z
      · have c1 := lcp_shr hr2 z (rk L q2) z (Nat.le_refl _)
        rw [plc_rk hq, plc_rk b1, lcp_symm] at c1
        have c2 : r0 < rk L q2 := by
          rcases Nat.lt_or_ge r0 (rk L q2) with w | w
          · exact w
          · have := f4 (rk L q2) w; omega
        have a1 : ahd L q (plc L r0) = true := (rk_iff hq pa.1).mp (by omega)
        have a2 : ahd L (plc L r0) q2 = true := (rk_iff pa.1 b1).mp (by omega)
        have := lcp_mid hq pa.1 b1 a1 a2
        rw [lcp_symm L q q2] at this
        omega
      · exact b2 (rk_inj b1 hq z.symm)
      · have c1 := lcp_shr (rk_lt hq) z (rk L q) z (Nat.le_refl _)
        rw [plc_rk hq, plc_rk b1] at c1
        have := f4 (rk L q) (by omega)
        omega
  rcases rbU_spec (L := L) (k := lon L) (m := L.length) (Nat.le_refl _) with ⟨_, g2⟩ | ⟨b, g1, g2, g3, g4⟩
  · exact absurd yPP (g2 y yn)
  · rw [g1]
    by_cases e : b = y
    · rw [e]
    · exfalso
      have z1 := yA b g2 g3 e
      have z2 := ahd_asymm (g4 y yn yPP (fun q => e q.symm))
      rw [z1] at z2; cases z2
theorem rpB_rpI (L : List Int32) : oI (rpB L) = rpI L := by
  unfold rpB rpI
  rw [loU_lon]
  cases h : frr L with
  | none => rw [if_pos (frr_none h)]; rfl
  | some r0 =>
    have f := frr_spec h
    rw [if_neg (by omega), (repeat_eq h).1]; rfl
theorem rpB_rcI (L : List Int32) : (match rpB L with | none => 0 | some p => nI (cnt (stP L p (loU L L.length)) L.length)) = nI (rcI L) := by
  unfold rpB rcI
  rw [loU_lon]
  cases h : frr L with
  | none => rw [if_pos (frr_none h)]; rfl
  | some r0 =>
    obtain ⟨f1, f2, f3, f4⟩ := frr_spec h
    obtain ⟨e1, e2⟩ := repeat_eq h
    rw [if_neg (by omega), e1]
    show nI (cnt (stP L (rpA L (L.length - (r0 + 1)) (r0 + 1) (plc L r0)) (lon L)) L.length) = nI (rcA L (L.length - (r0 + 1)) (r0 + 1) 1)
    generalize rpA L (L.length - (r0 + 1)) (r0 + 1) (plc L r0) = y at e2 ⊢
    have pa := plc_spec (L := L) (r := r0) (by omega)
    have pb := plc_spec (L := L) (r := r0 + 1) f1
    have sh : shr L (r0 + 1) = lcp L (plc L r0) (plc L (r0 + 1)) := by unfold shr; rw [if_neg (by omega), Nat.add_sub_cancel]
    have la := lcp_le (L := L) (p := plc L r0) (q := plc L (r0 + 1)) (by omega)
    have self : lon L ≤ lcp L (plc L r0) (plc L r0) := by rw [lcp_self (by omega)]; omega
    rw [rcA_spec (r0 := r0) (by omega) (m := L.length - (r0 + 1)) (r := r0 + 1) (by omega) (by omega) (fun t a b => by rw [show t = r0 by omega]; exact self) ?_]
    · rw [cnt_perm L (fun q => decide (lon L ≤ lcp L q (plc L r0)))]
      congr 1
      refine cnt_congr fun q hq => decide_eq_decide.mpr ⟨fun x => lcp_tr x e2, fun x => lcp_tr x (by rw [lcp_symm]; exact e2)⟩
    · show 1 = cnt _ r0 + (if decide (lon L ≤ lcp L (plc L r0) (plc L r0)) = true then 1 else 0)
      rw [if_pos (decide_eq_true self), cnt_none]
      intro i hi
      refine decide_eq_false fun x => ?_
      have h5 := lcp_shr (show r0 < L.length by omega) hi r0 hi (Nat.le_refl _)
      have := f4 r0 (Nat.le_refl _)
      omega
