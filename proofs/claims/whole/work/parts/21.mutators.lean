/-! Squawks over lists of letters: what is heard, forgotten, echoed -/
theorem lt_lt {L : List Int32} {i : Nat} (h : i < L.length) : lt L i = L[i] := by unfold lt; rw [List.getD_eq_getElem?_getD, List.getElem?_eq_getElem h]; rfl
theorem lt_drop {L : List Int32} {i k : Nat} : lt (L.drop k) i = lt L (i + k) := by unfold lt; rw [List.getD_eq_getElem?_getD, List.getD_eq_getElem?_getD, List.getElem?_drop, Nat.add_comm]
theorem lt_app1 {L : List Int32} {i : Nat} {v : Int32} (h : i < L.length) : lt (L ++ [v]) i = lt L i := by unfold lt; rw [List.getD_eq_getElem?_getD, List.getD_eq_getElem?_getD, List.getElem?_append_left h]
theorem lt_app2 {L : List Int32} {v : Int32} : lt (L ++ [v]) L.length = v := by unfold lt; rw [List.getD_eq_getElem?_getD, List.getElem?_append_right (Nat.le_refl _)]; simp
theorem list_of_lt {L : List Int32} {n : Nat} (h : n = L.length) (f : Nat → Int32) (hf : ∀ i, i < n → f i = lt L i) : L = (List.range n).map f := by
  apply List.ext_getElem
  · simp [h]
  · intro i h1 h2
    rw [List.getElem_map, List.getElem_range, hf i (by simpa [h] using h1), lt_lt (by simpa using h1)]
/-- a letter is heard -/
def hearL (L : List Int32) (v : Int32) : List Int32 := (if L.length = 40 then L.drop 1 else L) ++ [v]
theorem hearL_len {L : List Int32} {v : Int32} (h : L.length ≤ 40) : (hearL L v).length ≤ 40 := by
  unfold hearL
  split <;> simp <;> omega
theorem foldl_hearL_len {W : List Int32} : ∀ {L : List Int32}, L.length ≤ 40 → (W.foldl hearL L).length ≤ 40 := by
  induction W with
  | nil => intro L h; exact h
  | cons v W ih => intro L h; exact ih (hearL_len h)
theorem fold_take {W L : List Int32} {j : Nat} (h : j < W.length) : (W.take (j + 1)).foldl hearL L = hearL ((W.take j).foldl hearL L) (lt W j) := by
  rw [← List.take_append_getElem h, List.foldl_append, lt_lt h]; rfl
/-- what the cache says when it is up: left to the part on sorting -/
def SqI (cache : List Int32 → (Nat → Int32) → (Nat → Nat → Int32) → Prop) (L : List Int32) (n : Nat) (I : Nat → Int32) (A : Nat → Nat → Int32) : Prop := n = L.length ∧ n ≤ 40 ∧ (∀ i, i < n → A 0 i = lt L i) ∧ (I 2 = 0 ∨ (I 2 = 1 ∧ cache L I A))
/-- the cache does not look at the row of what is echoed -/
abbrev sqCk (C : List Int32 → (Nat → Int32) → (Nat → Nat → Int32) → Prop) : Prop := ∀ L I A A1, (∀ k, k < 4 → A1 k = A k) → C L I A → C L I A1
abbrev sqC : Type := List Int32 → (Nat → Int32) → (Nat → Nat → Int32) → Prop
def SqL (C : sqC) (X : gX) (h : gH) (a : Nat) (L : List Int32) : Prop := ∃ n I A, SqB X h a n I A ∧ SqI C L n I A
theorem SqL.off {C : sqC} {X : gX} {h h' : gH} {a b m : Nat} {L : List Int32} (hS : SqL C X h a L) (hO : OffB h h' b m) (hd : a + 6 ≤ b ∨ b + m ≤ a) : SqL C X h' a L := by
  obtain ⟨n, I, A, h1, h2⟩ := hS
  exact ⟨n, I, A, h1.off hO hd, h2⟩
theorem SqL.len {C : sqC} {X : gX} {h : gH} {a : Nat} {L : List Int32} (hS : SqL C X h a L) : L.length ≤ 40 := by
  obtain ⟨n, I, A, h1, h2⟩ := hS
  exact h2.1 ▸ h2.2.1
/-- a word that can be heard -/
def WdL (X : gX) (h : gH) (a : Nat) (W : List Int32) : Prop := ∃ f, WdB X h a W.length f ∧ W.length ≤ 10 ∧ ∀ i, i < W.length → f i = lt W i
theorem WdL.off {X : gX} {h h' : gH} {a b m : Nat} {W : List Int32} (hS : WdL X h a W) (hO : OffB h h' b m) (hd : a + 2 ≤ b ∨ b + m ≤ a) : WdL X h' a W := by
  obtain ⟨f, h1, h2⟩ := hS
  exact ⟨f, h1.off hO hd, h2⟩
/-- a call on the Squawks at a that answers nothing: they hold L behind it -/
abbrev sqV (C : sqC) (X : gX) (h : gH) (z a : Nat) (L : List Int32) : Option Value → gH → Nat → Prop := fun r h' z' => r = none ∧ z' = z ∧ SqL C X h' a L ∧ OffB h h' a 5

set_option maxRecDepth 100000 in
set_option maxHeartbeats 4000000 in
theorem m5_forgetAll {C : sqC} {X : gX} {h : gH} {z a : Nat} {L : List Int32} (hL : SqL C X h a L) : gM X yX5_forgetAll cX5_forgetAll 1 none (1, 0, 0) [.ref a] h z (sqV C X h z a []) gNoX := by
  obtain ⟨c, I, A, hS, hI⟩ := hL
  refine gM.of px5 (Nat.le_of_ble_eq_true rfl) ?_
  intro F hE
  have hO : OffB h h a 5 := OffB.rf
  refine g_aload_n dX5_forgetAll_0 rfl ?_
  refine g_iconst (nI 0) dX5_forgetAll_1 (by decide) ?_
  refine sq_putn fl5_27 hS hO dX5_forgetAll_2 (fun h hS hO => ?_)
  refine g_aload_n dX5_forgetAll_5 rfl ?_
  refine g_iconst (nI 0) dX5_forgetAll_6 (by decide) ?_
  refine sq_put2 rfl rfl fl5_31 hS hO dX5_forgetAll_7 (fun h hS hO => ?_)
  exact g_vret hE (⟨rfl, rfl, ⟨_, _, _, hS, rfl, Nat.zero_le _, fun i hi => absurd hi (Nat.not_lt_zero _), Or.inl rfl⟩, hO⟩) dX5_forgetAll_10
set_option maxRecDepth 100000 in
set_option maxHeartbeats 4000000 in
theorem gM.mono {X : gX} {y : MethodName} {cc : ByteArray} {nL : Nat} {ret : Option FieldType} {R : Nat × Nat × Nat} {av : List Value} {h : gH} {z : Nat} {post post' : Option Value → gH → Nat → Prop} {px : String → gH → Nat → Prop} (M : gM X y cc nL ret R av h z post px) (hp : ∀ v h' z', post v h' z' → post' v h' z') : gM X y cc nL ret R av h z post' px := by
  intro p e g1 g2 g3 s m args below hf happ hP hK
  obtain ⟨n, o, a1, a2, a3, a4⟩ := M p e g1 g2 g3 s m args below hf happ hP hK
  refine ⟨n, o, a1, a2, a3, ?_⟩
  rcases a4 with ⟨⟨v, h', z', q1, q2, q3⟩, q4⟩ | q
  · exact Or.inl ⟨⟨v, h', z', q1, q2, hp _ _ _ q3⟩, q4⟩
  · exact Or.inr q
theorem m5_forgetFirst {C : sqC} {X : gX} {h : gH} {z a : Nat} {L : List Int32} (x : Int32) (hL : SqL C X h a L) : gM X yX5_forgetFirst cX5_forgetFirst 4 none (2, 0, 0) [.ref a, .int x] h z (sqV C X h z a (L.drop (clampN x L.length))) gNoX := by
  obtain ⟨c, I, A, hS, h1, h2, h3, h4⟩ := hL
  refine gM.mono (r5_forgetFirst x h2 hS) ?_
  rintro v h' z' ⟨rfl, rfl, ⟨f, hS, hf⟩, hO⟩
  subst h1
  refine ⟨rfl, rfl, ⟨_, _, _, hS, by simp, by omega, fun i hi => ?_, Or.inl rfl⟩, hO⟩
  rw [lt_drop, ← h3 _ (by omega), ← hf i hi]
  simp [va_up]
set_option maxRecDepth 100000 in
set_option maxHeartbeats 4000000 in
theorem m5_hearLetter {C : sqC} {X : gX} {h : gH} {z a : Nat} {L : List Int32} (x : Int32) (hL : SqL C X h a L) : gM X yX5_hearLetter cX5_hearLetter 2 none (3, 0, 0) [.ref a, .int x] h z (sqV C X h z a (hearL L x)) gNoX := by
  obtain ⟨c, I, A, hS, hI⟩ := hL
  have hc : c ≤ 40 := hI.2.1
  have hcL : c = L.length := hI.1
  refine gM.of px5 (Nat.le_of_ble_eq_true rfl) ?_
  intro F hE
  have hO : OffB h h a 5 := OffB.rf
  have join : ∀ (L1 : List Int32) (c1 : Nat) (I1 : Nat → Int32) (A1 : Nat → Nat → Int32) (h1 : gH), SqB X h1 a c1 I1 A1 → SqI C L1 c1 I1 A1 → c1 < 40 → hearL L x = L1 ++ [x] → OffB h h1 a 5 → G X F cX5_hearLetter 2 yX5_hearLetter.cls (3, 0, 0) 0 0 14 [some (.ref a), some (.int x)] [] h1 z := by
    intro L1 c1 I1 A1 h hS hI hc1 hx hO
    obtain ⟨e1, e2, e3, e4⟩ := hI
    refine g_aload_n dX5_hearLetter_14 rfl ?_
    refine g_getf fl5_9 hS.1 rfl dX5_hearLetter_15 ?_
    refine g_aload_n dX5_hearLetter_18 rfl ?_
    refine g_getf fl5_27 hS.1 rfl dX5_hearLetter_19 ?_
    refine g_iload_n dX5_hearLetter_22 rfl ?_
    refine sq_ast (q := 0) ⟨by decide, by decide⟩ (by omega) hS hO dX5_hearLetter_23 (fun h hS hO => ?_)
    refine g_aload_n dX5_hearLetter_24 rfl ?_
    refine g_dup dX5_hearLetter_25 rfl ?_
    refine g_getf fl5_27 hS.1 rfl dX5_hearLetter_26 ?_
    refine g_iconst (nI 1) dX5_hearLetter_29 (by decide) ?_
    first | refine g_iaddN dX5_hearLetter_30 ?_ | refine g_iadd dX5_hearLetter_30 ?_
    refine sq_putn fl5_27 hS hO dX5_hearLetter_31 (fun h hS hO => ?_)
    refine g_aload_n dX5_hearLetter_34 rfl ?_
    refine g_iconst (nI 0) dX5_hearLetter_35 (by decide) ?_
    refine sq_put2 rfl rfl fl5_31 hS hO dX5_hearLetter_36 (fun h hS hO => ?_)
    refine g_vret hE (⟨rfl, rfl, ?_, hO⟩) dX5_hearLetter_39
    rw [hx]
    refine ⟨_, _, _, hS, by simp [e1], by omega, fun i hi => ?_, Or.inl rfl⟩
    show (va_up A1 0 (upd (A1 0) c1 x)) 0 i = _
    simp only [va_up, if_pos, upd]
    by_cases e : i = c1
    · subst e; rw [if_pos rfl, e1, lt_app2]
    · rw [if_neg e, e3 i (by omega), lt_app1 (by omega)]
  refine g_aload_n dX5_hearLetter_0 rfl ?_
  refine g_getf fl5_27 hS.1 rfl dX5_hearLetter_1 ?_
  refine g_bipush (nI 40) dX5_hearLetter_4 (by decide) ?_
  refine g_icmp_ltN 14 dX5_hearLetter_6 (by decide) (by omega) (by omega) (fun c_6 => ?_) (fun c_6 => ?_)
  · exact join L c I A h hS hI c_6 (by unfold hearL; rw [if_neg (by omega)]) hO
  · refine g_aload_n dX5_hearLetter_9 rfl ?_
    refine g_iconst (nI 1) dX5_hearLetter_10 (by decide) ?_
    refine g_callV0 kX5_35 (m5_forgetFirst (nI 1) ⟨_, _, _, hS, hI⟩) hS.1 rfl rfl rfl (by decide) (by decide) (by decide) (by decide) (by decide) dX5_hearLetter_11 ?_
    rintro v h1 z1 ⟨rfl, rfl, ⟨c1, I1, A1, hS1, hI1⟩, hO1⟩
    have hc40 : L.length = 40 := by omega
    rw [clampN_nI (by decide) (by omega), show min 1 L.length = 1 by omega] at hI1
    exact join (L.drop 1) c1 I1 A1 h1 hS1 hI1 (by have := hI1.1; simp at this; omega) (by unfold hearL; rw [if_pos hc40]) hO1
set_option maxRecDepth 100000 in
set_option maxHeartbeats 4000000 in
theorem m5_hearWord {C : sqC} {X : gX} {h : gH} {z a w : Nat} {L W : List Int32} (hL : SqL C X h a L) (hW : WdL X h w W) (hd : w + 2 ≤ a ∨ a + 5 ≤ w) : gM X yX5_hearWord cX5_hearWord 3 none (4, 0, 0) [.ref a, .ref w] h z (sqV C X h z a (W.foldl hearL L)) gNoX := by
  obtain ⟨f, hWB, hw10, hf⟩ := hW
  refine gM.of px5 (Nat.le_of_ble_eq_true rfl) ?_
  intro F hE
  have hO : OffB h h a 5 := OffB.rf
  have loop : ∀ (m j : Nat), j + m = W.length → ∀ h1 : gH, SqL C X h1 a ((W.take j).foldl hearL L) → OffB h h1 a 5 → G X F cX5_hearWord 3 yX5_hearWord.cls (4, 0, 0) 0 0 2 [some (.ref a), some (.ref w), some (.int (nI j))] [] h1 z := by
    intro m
    induction m with
    | zero =>
      intro j hj h1 hL hO
      have hWB := hWB.off hO (by omega)
      refine g_iload_n dX5_hearWord_2 rfl ?_
      refine g_aload_n dX5_hearWord_3 rfl ?_
      refine g_getf fl5_39 hWB.1 rfl dX5_hearWord_4 ?_
      refine g_icmp_geN 26 dX5_hearWord_7 (by decide) (by omega) (by omega) (fun c_7 => ?_) (fun c_7 => ?_)
      · exact g_vret hE (⟨rfl, rfl, by rw [show j = W.length by omega, List.take_length] at hL; exact hL, hO⟩) dX5_hearWord_26
      · exact absurd c_7 (by omega)
    | succ m ih =>
      intro j hj h1 hL hO
      have hWB := hWB.off hO (by omega)
      obtain ⟨c, I, A, hS, hI⟩ := id hL
      refine g_iload_n dX5_hearWord_2 rfl ?_
      refine g_aload_n dX5_hearWord_3 rfl ?_
      refine g_getf fl5_39 hWB.1 rfl dX5_hearWord_4 ?_
      refine g_icmp_geN 26 dX5_hearWord_7 (by decide) (by omega) (by omega) (fun c_7 => ?_) (fun c_7 => ?_)
      · exact absurd c_7 (by omega)
      · refine g_aload_n dX5_hearWord_10 rfl ?_
        refine g_aload_n dX5_hearWord_11 rfl ?_
        refine g_getf fl5_42 hWB.1 rfl dX5_hearWord_12 ?_
        refine g_iload_n dX5_hearWord_15 rfl ?_
        refine g_ialdN (hWB.2) (by omega) (by decide) dX5_hearWord_16 ?_
        refine g_callV0 kX5_43 (m5_hearLetter _ hL) hS.1 rfl rfl rfl (by decide) (by decide) (by decide) (by decide) (by decide) dX5_hearWord_17 ?_
        rintro v h2 z1 ⟨rfl, rfl, hL2, hO2⟩
        refine g_iincN dX5_hearWord_20 rfl (by decide) rfl ?_
        refine g_goto 2 dX5_hearWord_23 (by decide) ?_
        refine ih (j + 1) (by omega) h2 ?_ (hO.trans hO2)
        rw [fold_take (by omega), ← hf j (by omega)]
        exact hL2
  refine g_iconst (nI 0) dX5_hearWord_0 (by decide) ?_
  refine g_istore_n dX5_hearWord_1 (by decide) rfl ?_
  exact loop W.length 0 (by omega) h hL hO
set_option maxRecDepth 100000 in
set_option maxHeartbeats 4000000 in
theorem m5_hearLastAgain {C : sqC} {X : gX} {h : gH} {z a : Nat} {L : List Int32} (x : Int32) (hCk : sqCk C) (hL : SqL C X h a L) : gM X yX5_hearLastAgain cX5_hearLastAgain 4 none (4, 0, 0) [.ref a, .int x] h z (fun r h' z' => r = none ∧ z' = z ∧ SqL C X h' a ((L.drop (L.length - clampN x L.length)).foldl hearL L) ∧ OffB h h' a 6) gNoX := by
  obtain ⟨c, I, A, hS, hI⟩ := id hL
  have hc : c ≤ 40 := hI.2.1
  have hcL : c = L.length := hI.1
  have hA0 : ∀ i, i < c → A 0 i = lt L i := hI.2.2.1
  rw [← hcL]
  have hgl : clampN x c ≤ c := clampN_le (by omega)
  generalize hg : clampN x c = g at hgl ⊢
  generalize hW : L.drop (c - g) = W
  have hWl : W.length = g := by rw [← hW]; simp; omega
  have hWi : ∀ i, lt W i = lt L (i + (c - g)) := fun i => by rw [← hW, lt_drop]
  refine gM.of px5 (Nat.le_of_ble_eq_true rfl) ?_
  intro F hE
  have hO : OffB h h a 6 := OffB.rf
  have loop2 : ∀ (m j : Nat), j + m = g → ∀ (h1 : gH) (f : Nat → Int32), (∀ i, i < g → f i = lt W i) → SqL C X h1 a ((W.take j).foldl hearL L) → h1 (a + 5) = some (gIA X 40 f) → OffB h h1 a 6 → G X F cX5_hearLastAgain 4 yX5_hearLastAgain.cls (4, 0, 0) 0 0 47 [some (.ref a), some (.int x), some (.int (nI g)), some (.int (nI j))] [] h1 z := by
    intro m
    induction m with
    | zero =>
      intro j hj h1 f hf hL h5 hO
      refine g_iload_n dX5_hearLastAgain_47 rfl ?_
      refine g_iload_n dX5_hearLastAgain_48 rfl ?_
      refine g_icmp_geN 68 dX5_hearLastAgain_49 (by decide) (by omega) (by omega) (fun c_49 => ?_) (fun c_49 => ?_)
      · exact g_vret hE (⟨rfl, rfl, by rw [show j = W.length by omega, List.take_length] at hL; exact hL, hO⟩) dX5_hearLastAgain_68
      · exact absurd c_49 (by omega)
    | succ m ih =>
      intro j hj h1 f hf hL h5 hO
      obtain ⟨c, I, A, hS, hI⟩ := id hL
      refine g_iload_n dX5_hearLastAgain_47 rfl ?_
      refine g_iload_n dX5_hearLastAgain_48 rfl ?_
      refine g_icmp_geN 68 dX5_hearLastAgain_49 (by decide) (by omega) (by omega) (fun c_49 => ?_) (fun c_49 => ?_)
      · exact absurd c_49 (by omega)
      · refine g_aload_n dX5_hearLastAgain_52 rfl ?_
        refine g_aload_n dX5_hearLastAgain_53 rfl ?_
        refine g_getf fl5_24 hS.1 rfl dX5_hearLastAgain_54 ?_
        refine g_iload_n dX5_hearLastAgain_57 rfl ?_
        refine g_ialdN (h5) (by omega) (by decide) dX5_hearLastAgain_58 ?_
        refine g_callV0 kX5_43 (m5_hearLetter _ hL) hS.1 rfl rfl rfl (by decide) (by decide) (by decide) (by decide) (by decide) dX5_hearLastAgain_59 ?_
        rintro v h2 z1 ⟨rfl, rfl, hL2, hO2⟩
        refine g_iincN dX5_hearLastAgain_62 rfl (by decide) rfl ?_
        refine g_goto 47 dX5_hearLastAgain_65 (by decide) ?_
        refine ih (j + 1) (by omega) h2 f hf ?_ ((hO2 _ (by omega)).trans h5) (hO.trans (hO2.wide (Nat.le_refl _) (by omega)))
        rw [fold_take (by omega), ← hf j (by omega)]
        exact hL2
  have loop1 : ∀ (m j : Nat), j + m = g → ∀ (h1 : gH) (A1 : Nat → Nat → Int32), SqB X h1 a c I A1 → (∀ k, k < 4 → A1 k = A k) → (∀ i, i < j → A1 4 i = lt W i) → OffB h h1 a 6 → G X F cX5_hearLastAgain 4 yX5_hearLastAgain.cls (4, 0, 0) 0 0 15 [some (.ref a), some (.int x), some (.int (nI g)), some (.int (nI j))] [] h1 z := by
    intro m
    induction m with
    | zero =>
      intro j hj h A1 hS hk hf hO
      refine g_iload_n dX5_hearLastAgain_15 rfl ?_
      refine g_iload_n dX5_hearLastAgain_16 rfl ?_
      refine g_icmp_geN 45 dX5_hearLastAgain_17 (by decide) (by omega) (by omega) (fun c_17 => ?_) (fun c_17 => ?_)
      · refine g_iconst (nI 0) dX5_hearLastAgain_45 (by decide) ?_
        refine g_istore_n dX5_hearLastAgain_46 (by decide) rfl ?_
        refine loop2 g 0 (by omega) h (A1 4) (fun i hi => hf i (by omega)) ⟨c, I, A1, hS, hI.1, hI.2.1, fun i hi => by rw [hk 0 (by decide)]; exact hA0 i hi, ?_⟩ (hS.2 4 (by decide)) hO
        exact hI.2.2.2.imp id (fun q => ⟨q.1, hCk L I A A1 hk q.2⟩)
      · exact absurd c_17 (by omega)
    | succ m ih =>
      intro j hj h A1 hS hk hf hO
      refine g_iload_n dX5_hearLastAgain_15 rfl ?_
      refine g_iload_n dX5_hearLastAgain_16 rfl ?_
      refine g_icmp_geN 45 dX5_hearLastAgain_17 (by decide) (by omega) (by omega) (fun c_17 => ?_) (fun c_17 => ?_)
      · exact absurd c_17 (by omega)
      · refine g_aload_n dX5_hearLastAgain_20 rfl ?_
        refine g_getf fl5_24 hS.1 rfl dX5_hearLastAgain_21 ?_
        refine g_iload_n dX5_hearLastAgain_24 rfl ?_
        refine g_aload_n dX5_hearLastAgain_25 rfl ?_
        refine g_getf fl5_9 hS.1 rfl dX5_hearLastAgain_26 ?_
        refine g_aload_n dX5_hearLastAgain_29 rfl ?_
        refine g_getf fl5_27 hS.1 rfl dX5_hearLastAgain_30 ?_
        refine g_iload_n dX5_hearLastAgain_33 rfl ?_
        first | refine g_isubN dX5_hearLastAgain_34 (by omega) ?_ | refine g_isub dX5_hearLastAgain_34 ?_
        refine g_iload_n dX5_hearLastAgain_35 rfl ?_
        first | refine g_iaddN dX5_hearLastAgain_36 ?_ | refine g_iadd dX5_hearLastAgain_36 ?_
        refine g_ialdN (hS.2 0 (by decide)) (by omega) (by decide) dX5_hearLastAgain_37 ?_
        refine sq_ast (q := 4) ⟨by decide, by decide⟩ (by omega) hS hO dX5_hearLastAgain_38 (fun h hS hO => ?_)
        refine g_iincN dX5_hearLastAgain_39 rfl (by decide) rfl ?_
        refine g_goto 15 dX5_hearLastAgain_42 (by decide) ?_
        refine ih (j + 1) (by omega) h _ hS (fun k hk4 => ?_) (fun i hi => ?_) hO
        · simp only [va_up]; rw [if_neg (by omega)]; exact hk k hk4
        · simp only [va_up, if_pos, upd]
          by_cases e : i = j
          · subst e; rw [if_pos rfl, hk 0 (by decide), hA0 _ (by omega), hWi, Nat.add_comm]
          · rw [if_neg e]; exact hf i (by omega)
  refine g_iconst (nI 0) dX5_hearLastAgain_0 (by decide) ?_
  refine g_iload_n dX5_hearLastAgain_1 rfl ?_
  refine g_aload_n dX5_hearLastAgain_2 rfl ?_
  refine g_getf fl5_27 hS.1 rfl dX5_hearLastAgain_3 ?_
  refine gmin wmath_min wlX5_46 (by decide) (by decide) (by decide) (by decide) dX5_hearLastAgain_6 ?_
  refine gmax wmath_max wlX5_52 (by decide) (by decide) (by decide) (by decide) dX5_hearLastAgain_9 ?_
  rw [clampN_eq (by omega), hg]
  refine g_istore_n dX5_hearLastAgain_12 (by decide) rfl ?_
  refine g_iconst (nI 0) dX5_hearLastAgain_13 (by decide) ?_
  refine g_istore_n dX5_hearLastAgain_14 (by decide) rfl ?_
  exact loop1 g 0 (by omega) h A hS (fun _ _ => rfl) (fun i hi => absurd hi (Nat.not_lt_zero _)) hO
