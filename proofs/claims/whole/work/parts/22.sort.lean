/-! Squawks: what two share, the ranks, sorting -/
section GKL
variable {X : gX} {F : gF} {cc : ByteArray} {nL : Nat} {own : String} {R : Nat × Nat × Nat} {k n pc : Nat} {lv : List (Option Value)} {st : List Value} {h : gH} {z : Nat}
/-- a local that nobody reads any more -/
theorem G.kill (i : Nat) (kk : G X F cc nL own R k n pc (lv.set i none) st h z) : G X F cc nL own R k n pc lv st h z := by
  obtain ⟨p, e, Rm, s, m, args, below, meth, c, Q⟩ := F
  intro ok H locs ls hA hq hl
  refine kk ok H locs ls hA hq ⟨hl.1, hl.2.1, fun j v hj => ?_⟩
  by_cases e : j = i
  · subst e
    by_cases hlt : j < lv.length
    · rw [List.getElem?_set_self hlt] at hj; cases hj
    · rw [List.getElem?_eq_none (by simpa using hlt)] at hj; cases hj
  · rw [List.getElem?_set_ne (fun q => e q.symm)] at hj
    exact hl.2.2 j v hj
end GKL
theorem vu_same {α : Type} {f : Nat → α} {k : Nat} {v : α} : va_up f k v k = v := if_pos rfl
theorem vu_ne {α : Type} {f : Nat → α} {k j : Nat} {v : α} (h : j ≠ k) : va_up f k v j = f j := if_neg h
theorem upd_same {f : Nat → Int32} {k : Nat} {v : Int32} : upd f k v k = v := if_pos rfl
theorem upd_ne {f : Nat → Int32} {k j : Nat} {v : Int32} (h : j ≠ k) : upd f k v j = f j := if_neg h

set_option maxRecDepth 100000 in
set_option maxHeartbeats 4000000 in
theorem m5_sharedFrom {X : gX} {h : gH} {z a : Nat} {L : List Int32} {I : Nat → Int32} {A : Nat → Nat → Int32} (p q : Nat) (hS : SqB X h a L.length I A) (hn : L.length ≤ 40) (hA : ∀ i, i < L.length → A 0 i = lt L i) (hp : p < L.length) (hq : q < L.length) : gM X yX5_sharedFrom cX5_sharedFrom 5 (some .int) (1, 0, 0) [.ref a, .int (nI p), .int (nI q)] h z (fun r h' z' => r = some (.int (nI (lcp L p q))) ∧ h' = h ∧ z' = z) gNoX := by
  refine gM.of px5 (Nat.le_of_ble_eq_true rfl) ?_
  intro F hE
  have loop : ∀ (m j b : Nat), j + m = L.length → (p ≤ b ∧ q ≤ b ∧ (b = p ∨ b = q)) → (∀ i, i < j → mt L p q i) → G X F cX5_sharedFrom 5 yX5_sharedFrom.cls (1, 0, 0) 0 0 24 [some (.ref a), some (.int (nI p)), some (.int (nI q)), some (.int (nI b)), some (.int (nI j))] [] h z := by
    intro m
    induction m with
    | zero =>
      intro j b hj hb hm
      refine g_iload_n dX5_sharedFrom_24 rfl ?_
      refine g_iload dX5_sharedFrom_25 rfl ?_
      first | refine g_iaddN dX5_sharedFrom_27 ?_ | refine g_iadd dX5_sharedFrom_27 ?_
      refine g_aload_n dX5_sharedFrom_28 rfl ?_
      refine g_getf fl5_27 hS.1 rfl dX5_sharedFrom_29 ?_
      refine g_icmp_geN 62 dX5_sharedFrom_32 (by decide) (by omega) (by omega) (fun c_32 => ?_) (fun c_32 => ?_)
      · refine g_iload dX5_sharedFrom_62 rfl ?_
        exact g_iret hE rfl (⟨by rw [lcp_uniq hm (fun x => by have := x.1; have := x.2.1; omega)], rfl, rfl⟩) dX5_sharedFrom_64
      · exact absurd c_32 (by omega)
    | succ m ih =>
      intro j b hj hb hm
      refine g_iload_n dX5_sharedFrom_24 rfl ?_
      refine g_iload dX5_sharedFrom_25 rfl ?_
      first | refine g_iaddN dX5_sharedFrom_27 ?_ | refine g_iadd dX5_sharedFrom_27 ?_
      refine g_aload_n dX5_sharedFrom_28 rfl ?_
      refine g_getf fl5_27 hS.1 rfl dX5_sharedFrom_29 ?_
      refine g_icmp_geN 62 dX5_sharedFrom_32 (by decide) (by omega) (by omega) (fun c_32 => ?_) (fun c_32 => ?_)
      · refine g_iload dX5_sharedFrom_62 rfl ?_
        exact g_iret hE rfl (⟨by rw [lcp_uniq hm (fun x => by have := x.1; have := x.2.1; omega)], rfl, rfl⟩) dX5_sharedFrom_64
      · refine g_aload_n dX5_sharedFrom_35 rfl ?_
        refine g_getf fl5_9 hS.1 rfl dX5_sharedFrom_36 ?_
        refine g_iload_n dX5_sharedFrom_39 rfl ?_
        refine g_iload dX5_sharedFrom_40 rfl ?_
        first | refine g_iaddN dX5_sharedFrom_42 ?_ | refine g_iadd dX5_sharedFrom_42 ?_
        refine g_ialdN (hS.2 0 (by decide)) (by omega) (by decide) dX5_sharedFrom_43 ?_
        refine g_aload_n dX5_sharedFrom_44 rfl ?_
        refine g_getf fl5_9 hS.1 rfl dX5_sharedFrom_45 ?_
        refine g_iload_n dX5_sharedFrom_48 rfl ?_
        refine g_iload dX5_sharedFrom_49 rfl ?_
        first | refine g_iaddN dX5_sharedFrom_51 ?_ | refine g_iadd dX5_sharedFrom_51 ?_
        refine g_ialdN (hS.2 0 (by decide)) (by omega) (by decide) dX5_sharedFrom_52 ?_
        refine g_icmp_ne 62 dX5_sharedFrom_53 (by decide) (fun c_53 => ?_) (fun c_53 => ?_)
        · refine g_iload dX5_sharedFrom_62 rfl ?_
          exact g_iret hE rfl (⟨by rw [lcp_uniq hm (fun x => c_53 (by rw [hA _ (by omega), hA _ (by omega)]; exact x.2.2))], rfl, rfl⟩) dX5_sharedFrom_64
        · refine g_iincN dX5_sharedFrom_56 rfl (by decide) rfl ?_
          refine g_goto 24 dX5_sharedFrom_59 (by decide) ?_
          refine ih (j + 1) b (by omega) hb (fun i hi => ?_)
          by_cases e : i = j
          · subst e; exact ⟨by omega, by omega, by rw [← hA _ (by omega), ← hA _ (by omega)]; exact c_53⟩
          · exact hm i (by omega)
  refine g_iload_n dX5_sharedFrom_0 rfl ?_
  refine g_if_ltN 8 dX5_sharedFrom_1 (by decide) (by omega) ?_
  refine g_iload_n dX5_sharedFrom_4 rfl ?_
  refine g_if_geN 10 dX5_sharedFrom_5 (by decide) (by omega) ?_
  refine g_iload_n dX5_sharedFrom_10 rfl ?_
  refine g_iload_n dX5_sharedFrom_11 rfl ?_
  refine g_icmp_leN 19 dX5_sharedFrom_12 (by decide) (by omega) (by omega) (fun c_12 => ?_) (fun c_12 => ?_)
  · refine g_iload_n dX5_sharedFrom_19 rfl ?_
    refine g_istore_n dX5_sharedFrom_20 (by decide) rfl ?_
    refine g_iconst (nI 0) dX5_sharedFrom_21 (by decide) ?_
    refine g_istore dX5_sharedFrom_22 (by decide) rfl ?_
    exact loop L.length 0 _ (by omega) ⟨by omega, by omega, by omega⟩ (fun i hi => absurd hi (Nat.not_lt_zero _))
  · refine g_iload_n dX5_sharedFrom_15 rfl ?_
    refine g_goto 20 dX5_sharedFrom_16 (by decide) ?_
    refine g_istore_n dX5_sharedFrom_20 (by decide) rfl ?_
    refine g_iconst (nI 0) dX5_sharedFrom_21 (by decide) ?_
    refine g_istore dX5_sharedFrom_22 (by decide) rfl ?_
    exact loop L.length 0 _ (by omega) ⟨by omega, by omega, by omega⟩ (fun i hi => absurd hi (Nat.not_lt_zero _))
set_option maxRecDepth 100000 in
set_option maxHeartbeats 4000000 in
theorem r5_rankPairs {X : gX} {h : gH} {z a : Nat} {L : List Int32} {I : Nat → Int32} {A : Nat → Nat → Int32} (d : Nat) (hS : SqB X h a L.length I A) (hn : L.length ≤ 40) (hA : ∀ i, i < L.length → A 0 i = lt L i) (hd : 1 ≤ d) (hdn : d < L.length) (hr : ∀ p, p < L.length → A 1 p = nI (rkd L d p)) : gM X yX5_rankPairs cX5_rankPairs 5 none (1, 0, 0) [.ref a, .int (nI d)] h z (fun r h' z' => r = none ∧ z' = z ∧ (∃ f, SqB X h' a L.length I (va_up A 1 f) ∧ ∀ p, p < L.length → f p = nI (rkd L (d + 1) p)) ∧ OffB h h' a 5) gNoX := by
  refine gM.of px5 (Nat.le_of_ble_eq_true rfl) ?_
  intro F hE
  have hO : OffB h h a 5 := OffB.rf
  have hup : ∀ (A : Nat → Nat → Int32) (f g : Nat → Int32), va_up (va_up A 1 f) 1 g = va_up A 1 g := fun A f g => by funext k; unfold va_up; split <;> rfl
  have hA0 : va_up A 1 (A 1) = A := by funext k; unfold va_up; split <;> simp [*]
  have loop : ∀ (m : Nat) (f : Nat → Int32) (h1 : gH), m + d ≤ L.length → SqB X h1 a L.length I (va_up A 1 f) → (∀ p, p < L.length → f p = nI (mid L d m p)) → OffB h h1 a 5 → G X F cX5_rankPairs 5 yX5_rankPairs.cls (1, 0, 0) 0 0 11 [some (.ref a), some (.int (nI d)), some (.int (nI (lcp L m (m + d)))), some (.int (nI m + -1)), none] [] h1 z := by
    intro m
    induction m with
    | zero =>
      intro f h hm hS hf hO
      refine g_iload_n dX5_rankPairs_11 rfl ?_
      refine g_if_lt 105 dX5_rankPairs_12 (by decide) (fun c_12 => ?_) (fun c_12 => ?_)
      · exact g_vret hE (⟨rfl, rfl, ⟨f, hS, fun p hp => by rw [hf p hp, mid_zero hd hp]⟩, hO⟩) dX5_rankPairs_105
      · exact absurd (by decide) c_12
    | succ k ih =>
      intro f h hm hS hf hO
      have hlen := lcp_le' (L := L) (p := k) (q := k + d) (by omega)
      have hlen2 := lcp_le (L := L) (p := k) (q := k + d) (by omega)
      rw [pk_m1]
      have p75 : ahd L (k + d) k = true → G X F cX5_rankPairs 5 yX5_rankPairs.cls (1, 0, 0) 0 0 75 [some (.ref a), some (.int (nI d)), some (.int (nI (lcp L k (k + d)))), some (.int (nI k)), some (.int (nI (k + d)))] [] h z := by
        intro hah
        refine g_aload_n dX5_rankPairs_75 rfl ?_
        refine g_getf fl5_15 hS.1 rfl dX5_rankPairs_76 ?_
        refine g_iload_n dX5_rankPairs_79 rfl ?_
        refine g_dup2 dX5_rankPairs_80 rfl rfl ?_
        refine g_ialdN (hS.2 1 (by decide)) (by omega) (by decide) dX5_rankPairs_81 ?_
        refine g_iconst (nI 1) dX5_rankPairs_82 (by decide) ?_
        first | refine g_iaddN dX5_rankPairs_83 ?_ | refine g_iadd dX5_rankPairs_83 ?_
        refine sq_ast (q := 1) ⟨by decide, by decide⟩ (by omega) hS hO dX5_rankPairs_84 (fun h hS hO => ?_)
        refine g_goto 99 dX5_rankPairs_85 (by decide) ?_
        refine g_iinc (nI k + -1) dX5_rankPairs_99 rfl rfl (by decide) rfl ?_
        refine g_goto 11 dX5_rankPairs_102 (by decide) ?_
        rw [hup] at hS
        refine G.kill 4 ?_
        refine ih _ h (by omega) hS (fun p hp => ?_) hO
        rw [mid_step_t hd (by omega) hp hah]
        by_cases e : p = k
        · subst e; rw [upd_same, vu_same, hf _ hp, if_pos rfl, nI_add]
        · rw [upd_ne e, vu_same, hf _ hp, if_neg e]; rfl
      have p88 : ahd L (k + d) k = false → G X F cX5_rankPairs 5 yX5_rankPairs.cls (1, 0, 0) 0 0 88 [some (.ref a), some (.int (nI d)), some (.int (nI (lcp L k (k + d)))), some (.int (nI k)), some (.int (nI (k + d)))] [] h z := by
        intro hah
        refine g_aload_n dX5_rankPairs_88 rfl ?_
        refine g_getf fl5_15 hS.1 rfl dX5_rankPairs_89 ?_
        refine g_iload dX5_rankPairs_92 rfl ?_
        refine g_dup2 dX5_rankPairs_94 rfl rfl ?_
        refine g_ialdN (hS.2 1 (by decide)) (by omega) (by decide) dX5_rankPairs_95 ?_
        refine g_iconst (nI 1) dX5_rankPairs_96 (by decide) ?_
        refine g_iadd dX5_rankPairs_97 ?_
        refine sq_ast (q := 1) ⟨by decide, by decide⟩ (by omega) hS hO dX5_rankPairs_98 (fun h hS hO => ?_)
        refine g_iinc (nI k + -1) dX5_rankPairs_99 rfl rfl (by decide) rfl ?_
        refine g_goto 11 dX5_rankPairs_102 (by decide) ?_
        rw [hup] at hS
        refine G.kill 4 ?_
        refine ih _ h (by omega) hS (fun p hp => ?_) hO
        rw [mid_step_f hd (by omega) hp hah]
        by_cases e : p = k + d
        · subst e; rw [upd_same, vu_same, hf _ hp, if_pos rfl, nI_add]
        · rw [upd_ne e, vu_same, hf _ hp, if_neg e]; rfl
      have p43 : ∀ x : Nat, x = lcp L k (k + d) → G X F cX5_rankPairs 5 yX5_rankPairs.cls (1, 0, 0) 0 0 43 [some (.ref a), some (.int (nI d)), some (.int (nI (lcp L (k + 1) (k + 1 + d)))), some (.int (nI k)), some (.int (nI (k + d)))] [.int (nI x)] h z := by
        intro x hx
        subst hx
        refine g_istore_n dX5_rankPairs_43 (by decide) rfl ?_
        refine g_iload dX5_rankPairs_44 rfl ?_
        refine g_iload_n dX5_rankPairs_46 rfl ?_
        first | refine g_iaddN dX5_rankPairs_47 ?_ | refine g_iadd dX5_rankPairs_47 ?_
        refine g_aload_n dX5_rankPairs_48 rfl ?_
        refine g_getf fl5_27 hS.1 rfl dX5_rankPairs_49 ?_
        refine g_icmp_geN 75 dX5_rankPairs_52 (by decide) (by omega) (by omega) (fun c_52 => ?_) (fun c_52 => ?_)
        · exact p75 (pair_t hd (Or.inl c_52))
        · refine g_aload_n dX5_rankPairs_55 rfl ?_
          refine g_getf fl5_9 hS.1 rfl dX5_rankPairs_56 ?_
          refine g_iload dX5_rankPairs_59 rfl ?_
          refine g_iload_n dX5_rankPairs_61 rfl ?_
          first | refine g_iaddN dX5_rankPairs_62 ?_ | refine g_iadd dX5_rankPairs_62 ?_
          refine g_ialdN (hS.2 0 (by decide)) (by omega) (by decide) dX5_rankPairs_63 ?_
          refine g_aload_n dX5_rankPairs_64 rfl ?_
          refine g_getf fl5_9 hS.1 rfl dX5_rankPairs_65 ?_
          refine g_iload_n dX5_rankPairs_68 rfl ?_
          refine g_iload_n dX5_rankPairs_69 rfl ?_
          first | refine g_iaddN dX5_rankPairs_70 ?_ | refine g_iadd dX5_rankPairs_70 ?_
          refine g_ialdN (hS.2 0 (by decide)) (by omega) (by decide) dX5_rankPairs_71 ?_
          refine g_icmp_ge 88 dX5_rankPairs_72 (by decide) (fun c_72 => ?_) (fun c_72 => ?_)
          · exact p88 (pair_f hd (by omega) (fun x => by
              rw [vu_ne (by decide), hA _ (by omega), hA _ (by omega)] at c_72
              exact absurd c_72 (by simp only [Int32.lt_iff_toInt_lt, Int32.le_iff_toInt_le] at *; omega)))
          · exact p75 (pair_t hd (Or.inr (by
              rw [vu_ne (by decide), hA _ (by omega), hA _ (by omega)] at c_72
              simp only [Int32.lt_iff_toInt_lt, Int32.le_iff_toInt_le] at *; omega)))
      refine g_iload_n dX5_rankPairs_11 rfl ?_
      refine g_if_ltN 105 dX5_rankPairs_12 (by decide) (by omega) ?_
      refine g_iload_n dX5_rankPairs_15 rfl ?_
      refine g_iload_n dX5_rankPairs_16 rfl ?_
      first | refine g_iaddN dX5_rankPairs_17 ?_ | refine g_iadd dX5_rankPairs_17 ?_
      refine g_istore dX5_rankPairs_18 (by decide) rfl ?_
      refine g_aload_n dX5_rankPairs_20 rfl ?_
      refine g_getf fl5_9 hS.1 rfl dX5_rankPairs_21 ?_
      refine g_iload_n dX5_rankPairs_24 rfl ?_
      refine g_ialdN (hS.2 0 (by decide)) (by omega) (by decide) dX5_rankPairs_25 ?_
      refine g_aload_n dX5_rankPairs_26 rfl ?_
      refine g_getf fl5_9 hS.1 rfl dX5_rankPairs_27 ?_
      refine g_iload dX5_rankPairs_30 rfl ?_
      refine g_ialdN (hS.2 0 (by decide)) (by omega) (by decide) dX5_rankPairs_32 ?_
      refine g_icmp_ne 42 dX5_rankPairs_33 (by decide) (fun c_33 => ?_) (fun c_33 => ?_)
      · refine g_iconst (nI 0) dX5_rankPairs_42 (by decide) ?_
        exact p43 0 (by rw [lcp_step L k (k + d), if_neg (fun x => c_33 (by rw [vu_ne (by decide), hA _ (by omega), hA _ (by omega)]; exact x.2.2))])
      · refine g_iload_n dX5_rankPairs_36 rfl ?_
        refine g_iconst (nI 1) dX5_rankPairs_37 (by decide) ?_
        first | refine g_iaddN dX5_rankPairs_38 ?_ | refine g_iadd dX5_rankPairs_38 ?_
        refine g_goto 43 dX5_rankPairs_39 (by decide) ?_
        exact p43 _ (by rw [lcp_step L k (k + d), if_pos ⟨by omega, by omega, by rw [vu_ne (by decide), hA _ (by omega), hA _ (by omega)] at c_33; exact c_33⟩, show k + d + 1 = k + 1 + d by omega])
  refine g_iconst (nI 0) dX5_rankPairs_0 (by decide) ?_
  refine g_istore_n dX5_rankPairs_1 (by decide) rfl ?_
  refine g_aload_n dX5_rankPairs_2 rfl ?_
  refine g_getf fl5_27 hS.1 rfl dX5_rankPairs_3 ?_
  refine g_iconst (nI 1) dX5_rankPairs_6 (by decide) ?_
  first | refine g_isubN dX5_rankPairs_7 (by omega) ?_ | refine g_isub dX5_rankPairs_7 ?_
  refine g_iload_n dX5_rankPairs_8 rfl ?_
  first | refine g_isubN dX5_rankPairs_9 (by omega) ?_ | refine g_isub dX5_rankPairs_9 ?_
  refine g_istore_n dX5_rankPairs_10 (by decide) rfl ?_
  refine G.eql (lv' := [some (.ref a), some (.int (nI d)), some (.int (nI (lcp L (L.length - d) (L.length - d + d)))), some (.int (nI (L.length - d) + -1)), none]) ?_ ?_
  · rw [lcp_end (by omega), show L.length - d = (L.length - 1 - d) + 1 by omega, pk_m1]; rfl
  · exact loop (L.length - d) (A 1) h (by omega) (by rw [hA0]; exact hS) (fun p hp => by rw [hr p hp, mid_top hd (by omega) hp]) hO
theorem lonU_s (L : List Int32) (m : Nat) : lonU L (m + 1) = if lonU L m < shr L m then shr L m else lonU L m := rfl
/-- what the cache of a sorted Squawks says -/
def sqCa : sqC := fun L I A => (∀ p, p < L.length → A 1 p = nI (rk L p)) ∧ (∀ r, r < L.length → A 2 r = nI (plc L r)) ∧ (∀ r, r < L.length → A 3 r = nI (shr L r)) ∧ I 0 = nI (lon L) ∧ I 1 = nI (sms L)
theorem sqCa_k : sqCk sqCa := fun L I A A1 h q => ⟨fun p hp => by rw [h 1 (by decide)]; exact q.1 p hp, fun p hp => by rw [h 2 (by decide)]; exact q.2.1 p hp, fun p hp => by rw [h 3 (by decide)]; exact q.2.2.1 p hp, q.2.2.2⟩
/-- sorted, and what for -/
def SqS (X : gX) (h : gH) (a : Nat) (L : List Int32) : Prop := ∃ I A, SqB X h a L.length I A ∧ L.length ≤ 40 ∧ (∀ i, i < L.length → A 0 i = lt L i) ∧ I 2 = 1 ∧ sqCa L I A
theorem SqS.toL {X : gX} {h : gH} {a : Nat} {L : List Int32} (hS : SqS X h a L) : SqL sqCa X h a L := by
  obtain ⟨I, A, h1, h2, h3, h4, h5⟩ := hS
  exact ⟨_, I, A, h1, rfl, h2, h3, Or.inr ⟨h4, h5⟩⟩

set_option maxRecDepth 100000 in
set_option maxHeartbeats 4000000 in
theorem m5_sort {X : gX} {h : gH} {z a : Nat} {L : List Int32} (hL : SqL sqCa X h a L) : gM X yX5_sort cX5_sort 3 none (2, 0, 0) [.ref a] h z (fun r h' z' => r = none ∧ z' = z ∧ SqS X h' a L ∧ OffB h h' a 5) gNoX := by
  obtain ⟨n, I, A, hS, rfl, hn, hA, hC⟩ := hL
  refine gM.of px5 (Nat.le_of_ble_eq_true rfl) ?_
  intro F hE
  have hO : OffB h h a 5 := OffB.rf
  obtain ⟨h9, e9⟩ : ∃ x, x = h := ⟨_, rfl⟩
  rw [← e9] at hE
  have hO : OffB h9 h a 5 := by rw [e9]; exact OffB.rf
  clear e9
  have l4 : ∀ (m r : Nat), r + m = L.length → ∀ (h1 : gH) (I : Nat → Int32) (A : Nat → Nat → Int32), SqB X h1 a L.length I A → OffB h9 h1 a 5 → (∀ i, i < L.length → A 0 i = lt L i) → (∀ p, p < L.length → A 1 p = nI (rk L p)) → (∀ r, r < L.length → A 2 r = nI (plc L r)) → (∀ i, i < r → A 3 i = nI (shr L i)) → I 0 = nI (lonU L r) → I 1 = nI (smsU L r) → G X F cX5_sort 3 yX5_sort.cls (2, 0, 0) 0 0 106 [some (.ref a), some (.int (nI r)), none] [] h1 z := by
    intro m
    induction m with
    | zero =>
      intro r hr h I A hS hO hA h1 h2 h3 hl hs
      have hrn : r = L.length := by omega
      subst hrn
      refine g_iload_n dX5_sort_106 rfl ?_
      refine g_aload_n dX5_sort_107 rfl ?_
      refine g_getf fl5_27 hS.1 rfl dX5_sort_108 ?_
      refine g_icmp_geN 197 dX5_sort_111 (by decide) (by omega) (by omega) (fun c_111 => ?_) (fun c_111 => ?_)
      · refine g_aload_n dX5_sort_197 rfl ?_
        refine g_iconst (nI 1) dX5_sort_198 (by decide) ?_
        refine sq_put2 rfl rfl fl5_31 hS hO dX5_sort_199 (fun h hS hO => ?_)
        exact g_vret hE (⟨rfl, rfl, ⟨_, _, hS, hn, hA, rfl, h1, h2, h3, hl, hs⟩, hO⟩) dX5_sort_202
      · exact absurd c_111 (by omega)
    | succ m ih =>
      intro r hr h I A hS hO hA h1 h2 h3 hl hs
      have b1 := shr_le (L := L) (r := r) (by omega)
      have b2 := lonU_le (L := L) (m := r) (by omega)
      have p173 : ∀ (v : Int32) (h1 : gH) (A : Nat → Nat → Int32), v = nI (lonU L (r + 1)) → SqB X h1 a L.length I A → OffB h9 h1 a 5 → (∀ i, i < L.length → A 0 i = lt L i) → (∀ p, p < L.length → A 1 p = nI (rk L p)) → (∀ r, r < L.length → A 2 r = nI (plc L r)) → (∀ i, i < r + 1 → A 3 i = nI (shr L i)) → G X F cX5_sort 3 yX5_sort.cls (2, 0, 0) 0 0 173 [some (.ref a), some (.int (nI r)), none] [.int v, .ref a] h1 z := by
        intro v h A hv hS hO hA h1 h2 h3
        refine sq_put0 fl5_58 hS hO dX5_sort_173 (fun h hS hO => ?_)
        refine g_aload_n dX5_sort_176 rfl ?_
        refine g_dup dX5_sort_177 rfl ?_
        refine g_getf fl5_61 hS.1 rfl dX5_sort_178 ?_
        refine g_aload_n dX5_sort_181 rfl ?_
        refine g_getf fl5_21 hS.1 rfl dX5_sort_182 ?_
        refine g_iload_n dX5_sort_185 rfl ?_
        refine g_ialdN (hS.2 3 (by decide)) (by omega) (by decide) dX5_sort_186 ?_
        refine g_iadd dX5_sort_187 ?_
        refine sq_put1 fl5_61 hS hO dX5_sort_188 (fun h hS hO => ?_)
        refine g_iincN dX5_sort_191 rfl (by decide) rfl ?_
        refine g_goto 106 dX5_sort_194 (by decide) ?_
        refine ih (r + 1) (by omega) h _ _ hS hO hA h1 h2 h3 ?_ ?_
        · rw [upd_ne (by decide), upd_same]; exact hv
        · rw [upd_same, upd_ne (by decide), hs, h3 r (by omega), nI_add]; rfl
      have p145 : ∀ (v : Int32), v = nI (shr L r) → G X F cX5_sort 3 yX5_sort.cls (2, 0, 0) 0 0 145 [some (.ref a), some (.int (nI r)), none] [.int v, .int (nI r), .ref (a + 4)] h z := by
        intro v hv
        refine sq_ast (q := 3) ⟨by decide, by decide⟩ (by omega) hS hO dX5_sort_145 (fun h hS hO => ?_)
        have g3 : ∀ i, i < r + 1 → va_up A 3 (upd (A 3) r v) 3 i = nI (shr L i) := fun i hi => by
          rw [vu_same]
          by_cases e : i = r
          · subst e; rw [upd_same, hv]
          · rw [upd_ne e]; exact h3 i (by omega)
        refine g_aload_n dX5_sort_146 rfl ?_
        refine g_aload_n dX5_sort_147 rfl ?_
        refine g_getf fl5_21 hS.1 rfl dX5_sort_148 ?_
        refine g_iload_n dX5_sort_151 rfl ?_
        refine g_ialdN (hS.2 3 (by decide)) (by omega) (by decide) dX5_sort_152 ?_
        refine g_aload_n dX5_sort_153 rfl ?_
        refine g_getf fl5_58 hS.1 rfl dX5_sort_154 ?_
        rw [g3 r (by omega), hl]
        refine g_icmp_leN 169 dX5_sort_157 (by decide) (by omega) (by omega) (fun c_157 => ?_) (fun c_157 => ?_)
        · refine g_aload_n dX5_sort_169 rfl ?_
          refine g_getf fl5_58 hS.1 rfl dX5_sort_170 ?_
          exact p173 _ h _ (by rw [hl, lonU_s L r, if_neg (by omega)]) hS hO (fun i hi => by rw [vu_ne (by decide)]; exact hA i hi) (fun i hi => by rw [vu_ne (by decide)]; exact h1 i hi) (fun i hi => by rw [vu_ne (by decide)]; exact h2 i hi) g3
        · refine g_aload_n dX5_sort_160 rfl ?_
          refine g_getf fl5_21 hS.1 rfl dX5_sort_161 ?_
          refine g_iload_n dX5_sort_164 rfl ?_
          refine g_ialdN (hS.2 3 (by decide)) (by omega) (by decide) dX5_sort_165 ?_
          refine g_goto 173 dX5_sort_166 (by decide) ?_
          exact p173 _ h _ (by rw [g3 r (by omega), lonU_s L r, if_pos (by omega)]) hS hO (fun i hi => by rw [vu_ne (by decide)]; exact hA i hi) (fun i hi => by rw [vu_ne (by decide)]; exact h1 i hi) (fun i hi => by rw [vu_ne (by decide)]; exact h2 i hi) g3
      refine g_iload_n dX5_sort_106 rfl ?_
      refine g_aload_n dX5_sort_107 rfl ?_
      refine g_getf fl5_27 hS.1 rfl dX5_sort_108 ?_
      refine g_icmp_geN 197 dX5_sort_111 (by decide) (by omega) (by omega) (fun c_111 => ?_) (fun c_111 => ?_)
      · exact absurd c_111 (by omega)
      · refine g_aload_n dX5_sort_114 rfl ?_
        refine g_getf fl5_21 hS.1 rfl dX5_sort_115 ?_
        refine g_iload_n dX5_sort_118 rfl ?_
        refine g_iload_n dX5_sort_119 rfl ?_
        refine g_if_neN 127 dX5_sort_120 (by decide) (by omega) (fun c_120 => ?_) (fun c_120 => ?_)
        · refine g_aload_n dX5_sort_127 rfl ?_
          refine g_aload_n dX5_sort_128 rfl ?_
          refine g_getf fl5_18 hS.1 rfl dX5_sort_129 ?_
          refine g_iload_n dX5_sort_132 rfl ?_
          refine g_iconst (nI 1) dX5_sort_133 (by decide) ?_
          first | refine g_isubN dX5_sort_134 (by omega) ?_ | refine g_isub dX5_sort_134 ?_
          refine g_ialdN (hS.2 2 (by decide)) (by omega) (by decide) dX5_sort_135 ?_
          refine g_aload_n dX5_sort_136 rfl ?_
          refine g_getf fl5_18 hS.1 rfl dX5_sort_137 ?_
          refine g_iload_n dX5_sort_140 rfl ?_
          refine g_ialdN (hS.2 2 (by decide)) (by omega) (by decide) dX5_sort_141 ?_
          rw [h2 _ (by omega), h2 _ (by omega)]
          refine g_callV0 kX5_82 (m5_sharedFrom (plc L (r - 1)) (plc L r) hS hn hA (plc_spec (by omega)).1 (plc_spec (by omega)).1) hS.1 rfl rfl rfl (Nat.le_of_ble_eq_true rfl) (by decide) (by decide) (by decide) (by decide) dX5_sort_142 ?_
          rintro v h8 z9 ⟨rfl, rfl, rfl⟩
          exact p145 _ (by unfold shr; rw [if_neg c_120])
        · refine g_iconst (nI 0) dX5_sort_123 (by decide) ?_
          refine g_goto 145 dX5_sort_124 (by decide) ?_
          exact p145 _ (by unfold shr; rw [if_pos c_120])
  have l3 : ∀ (m j : Nat), j + m = L.length → ∀ (h1 : gH) (A : Nat → Nat → Int32), SqB X h1 a L.length I A → OffB h9 h1 a 5 → (∀ i, i < L.length → A 0 i = lt L i) → (∀ p, p < L.length → A 1 p = nI (rk L p)) → (∀ p, p < j → A 2 (rk L p) = nI p) → G X F cX5_sort 3 yX5_sort.cls (2, 0, 0) 0 0 54 [some (.ref a), some (.int (nI j)), none] [] h1 z := by
    intro m
    induction m with
    | zero =>
      intro j hj h A hS hO hA h1 h2
      refine g_iload_n dX5_sort_54 rfl ?_
      refine g_aload_n dX5_sort_55 rfl ?_
      refine g_getf fl5_27 hS.1 rfl dX5_sort_56 ?_
      refine g_icmp_geN 94 dX5_sort_59 (by decide) (by omega) (by omega) (fun c_59 => ?_) (fun c_59 => ?_)
      · refine g_aload_n dX5_sort_94 rfl ?_
        refine g_iconst (nI 0) dX5_sort_95 (by decide) ?_
        refine sq_put0 fl5_58 hS hO dX5_sort_96 (fun h hS hO => ?_)
        refine g_aload_n dX5_sort_99 rfl ?_
        refine g_iconst (nI 0) dX5_sort_100 (by decide) ?_
        refine sq_put1 fl5_61 hS hO dX5_sort_101 (fun h hS hO => ?_)
        refine g_iconst (nI 0) dX5_sort_104 (by decide) ?_
        refine g_istore_n dX5_sort_105 (by decide) rfl ?_
        exact l4 L.length 0 (by omega) h _ A hS hO hA h1 (fun r hr => by have := plc_spec hr; have q := h2 (plc L r) (by omega); rw [this.2] at q; exact q) (fun i hi => absurd hi (Nat.not_lt_zero _)) rfl rfl
      · exact absurd c_59 (by omega)
    | succ m ih =>
      intro j hj h A hS hO hA h1 h2
      have hlt := rk_lt (L := L) (p := j) (by omega)
      refine g_iload_n dX5_sort_54 rfl ?_
      refine g_aload_n dX5_sort_55 rfl ?_
      refine g_getf fl5_27 hS.1 rfl dX5_sort_56 ?_
      refine g_icmp_geN 94 dX5_sort_59 (by decide) (by omega) (by omega) (fun c_59 => ?_) (fun c_59 => ?_)
      · exact absurd c_59 (by omega)
      · refine g_aload_n dX5_sort_62 rfl ?_
        refine g_getf fl5_15 hS.1 rfl dX5_sort_63 ?_
        refine g_iload_n dX5_sort_66 rfl ?_
        refine g_ialdN (hS.2 1 (by decide)) (by omega) (by decide) dX5_sort_67 ?_
        rw [h1 j (by omega)]
        refine g_istore_n dX5_sort_68 (by decide) rfl ?_
        refine g_iload_n dX5_sort_69 rfl ?_
        refine g_if_ltN 88 dX5_sort_70 (by decide) (by omega) ?_
        refine g_iload_n dX5_sort_73 rfl ?_
        refine g_aload_n dX5_sort_74 rfl ?_
        refine g_getf fl5_27 hS.1 rfl dX5_sort_75 ?_
        refine g_icmp_geN 88 dX5_sort_78 (by decide) (by omega) (by omega) (fun c_78 => ?_) (fun c_78 => ?_)
        · exact absurd c_78 (by omega)
        · refine g_aload_n dX5_sort_81 rfl ?_
          refine g_getf fl5_18 hS.1 rfl dX5_sort_82 ?_
          refine g_iload_n dX5_sort_85 rfl ?_
          refine g_iload_n dX5_sort_86 rfl ?_
          refine sq_ast (q := 2) ⟨by decide, by decide⟩ (by omega) hS hO dX5_sort_87 (fun h hS hO => ?_)
          refine g_iincN dX5_sort_88 rfl (by decide) rfl ?_
          refine g_goto 54 dX5_sort_91 (by decide) ?_
          refine G.kill 2 ?_
          refine ih (j + 1) (by omega) h _ hS hO (fun i hi => by rw [vu_ne (by decide)]; exact hA i hi) (fun i hi => by rw [vu_ne (by decide)]; exact h1 i hi) (fun p hp => ?_)
          rw [vu_same]
          by_cases e : p = j
          · subst e; rw [upd_same]
          · rw [upd_ne (fun q => e (rk_inj (by omega) (by omega) q))]; exact h2 p (by omega)
  have l2 : ∀ (m d : Nat), d + m = L.length + 1 → 1 ≤ d → ∀ (h1 : gH) (A : Nat → Nat → Int32), SqB X h1 a L.length I A → OffB h9 h1 a 5 → (∀ i, i < L.length → A 0 i = lt L i) → (∀ p, p < L.length → A 1 p = nI (rkd L d p)) → G X F cX5_sort 3 yX5_sort.cls (2, 0, 0) 0 0 33 [some (.ref a), some (.int (nI d)), none] [] h1 z := by
    intro m
    induction m with
    | zero =>
      intro d hj hd h A hS hO hA h1
      refine g_iload_n dX5_sort_33 rfl ?_
      refine g_aload_n dX5_sort_34 rfl ?_
      refine g_getf fl5_27 hS.1 rfl dX5_sort_35 ?_
      refine g_icmp_geN 52 dX5_sort_38 (by decide) (by omega) (by omega) (fun c_38 => ?_) (fun c_38 => ?_)
      · refine g_iconst (nI 0) dX5_sort_52 (by decide) ?_
        refine g_istore_n dX5_sort_53 (by decide) rfl ?_
        exact l3 L.length 0 (by omega) h A hS hO hA (fun p hp => by rw [h1 p hp, rkd_all (by omega) hp]) (fun p hp => absurd hp (Nat.not_lt_zero _))
      · exact absurd c_38 (by omega)
    | succ m ih =>
      intro d hj hd h A hS hO hA h1
      refine g_iload_n dX5_sort_33 rfl ?_
      refine g_aload_n dX5_sort_34 rfl ?_
      refine g_getf fl5_27 hS.1 rfl dX5_sort_35 ?_
      refine g_icmp_geN 52 dX5_sort_38 (by decide) (by omega) (by omega) (fun c_38 => ?_) (fun c_38 => ?_)
      · refine g_iconst (nI 0) dX5_sort_52 (by decide) ?_
        refine g_istore_n dX5_sort_53 (by decide) rfl ?_
        exact l3 L.length 0 (by omega) h A hS hO hA (fun p hp => by rw [h1 p hp, rkd_all (by omega) hp]) (fun p hp => absurd hp (Nat.not_lt_zero _))
      · refine g_aload_n dX5_sort_41 rfl ?_
        refine g_iload_n dX5_sort_42 rfl ?_
        refine g_callV0 kX5_79 (r5_rankPairs d hS hn hA hd (by omega) h1) hS.1 rfl rfl rfl (Nat.le_of_ble_eq_true rfl) (by decide) (by decide) (by decide) (by decide) dX5_sort_43 ?_
        rintro v h2 z2 ⟨rfl, rfl, ⟨f2, hS2, hf2⟩, hO2⟩
        refine g_iincN dX5_sort_46 rfl (by decide) rfl ?_
        refine g_goto 33 dX5_sort_49 (by decide) ?_
        refine ih (d + 1) (by omega) (by omega) h2 _ hS2 (hO.trans hO2) (fun i hi => by rw [vu_ne (by decide)]; exact hA i hi) (fun i hi => by rw [vu_same]; exact hf2 i hi)
  have l1 : ∀ (m j : Nat), j + m = L.length → ∀ (h1 : gH) (A : Nat → Nat → Int32), SqB X h1 a L.length I A → OffB h9 h1 a 5 → (∀ i, i < L.length → A 0 i = lt L i) → (∀ p, p < j → A 1 p = 0) → G X F cX5_sort 3 yX5_sort.cls (2, 0, 0) 0 0 10 [some (.ref a), some (.int (nI j)), none] [] h1 z := by
    intro m
    induction m with
    | zero =>
      intro j hj h A hS hO hA h1
      refine g_iload_n dX5_sort_10 rfl ?_
      refine g_aload_n dX5_sort_11 rfl ?_
      refine g_getf fl5_27 hS.1 rfl dX5_sort_12 ?_
      refine g_icmp_geN 31 dX5_sort_15 (by decide) (by omega) (by omega) (fun c_15 => ?_) (fun c_15 => ?_)
      · refine g_iconst (nI 1) dX5_sort_31 (by decide) ?_
        refine g_istore_n dX5_sort_32 (by decide) rfl ?_
        exact l2 L.length 1 (by omega) (by omega) h A hS hO hA (fun p hp => by rw [h1 p (by omega), rkd_one]; rfl)
      · exact absurd c_15 (by omega)
    | succ m ih =>
      intro j hj h A hS hO hA h1
      refine g_iload_n dX5_sort_10 rfl ?_
      refine g_aload_n dX5_sort_11 rfl ?_
      refine g_getf fl5_27 hS.1 rfl dX5_sort_12 ?_
      refine g_icmp_geN 31 dX5_sort_15 (by decide) (by omega) (by omega) (fun c_15 => ?_) (fun c_15 => ?_)
      · exact absurd c_15 (by omega)
      · refine g_aload_n dX5_sort_18 rfl ?_
        refine g_getf fl5_15 hS.1 rfl dX5_sort_19 ?_
        refine g_iload_n dX5_sort_22 rfl ?_
        refine g_iconst (nI 0) dX5_sort_23 (by decide) ?_
        refine sq_ast (q := 1) ⟨by decide, by decide⟩ (by omega) hS hO dX5_sort_24 (fun h hS hO => ?_)
        refine g_iincN dX5_sort_25 rfl (by decide) rfl ?_
        refine g_goto 10 dX5_sort_28 (by decide) ?_
        refine ih (j + 1) (by omega) h _ hS hO (fun i hi => by rw [vu_ne (by decide)]; exact hA i hi) (fun p hp => ?_)
        rw [vu_same]
        by_cases e : p = j
        · subst e; rw [upd_same]; rfl
        · rw [upd_ne e]; exact h1 p (by omega)
  refine g_aload_n dX5_sort_0 rfl ?_
  refine g_getf fl5_31 hS.1 rfl dX5_sort_1 ?_
  refine g_if_eq 8 dX5_sort_4 (by decide) (fun c_4 => ?_) (fun c_4 => ?_)
  · refine g_iconst (nI 0) dX5_sort_8 (by decide) ?_
    refine g_istore_n dX5_sort_9 (by decide) rfl ?_
    exact l1 L.length 0 (by omega) h A hS hO hA (fun p hp => absurd hp (Nat.not_lt_zero _))
  · exact g_vret hE (⟨rfl, rfl, ⟨_, _, hS, hn, hA, (hC.resolve_left c_4).1, (hC.resolve_left c_4).2⟩, hO⟩) dX5_sort_7
