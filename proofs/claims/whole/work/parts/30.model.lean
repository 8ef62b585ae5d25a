/-! The reference (Model): its block, rows for its cells -/
def mo (k : Nat) : Nat := [1, 14, 15, 16, 18, 19, 20, 21, 22, 23, 24].getD k 0
def ml (k : Nat) : Nat := [2000, 401, 401, 401, 401, 40, 40, 40, 40, 800, 40].getD k 0
theorem mo_ne : ∀ i, i < 11 → ∀ k, k < 11 → i ≠ k → mo i ≠ mo k := by decide
theorem mo_in : ∀ i, i < 11 → mo i ≠ 0 ∧ mo i ≠ 17 ∧ (mo i = 1 ∨ 14 ≤ mo i) ∧ mo i < 25 := by decide
theorem ml_lt : ∀ i, i < 11 → ml i < 2 ^ 31 := by decide
abbrev mdF (m n pl : Nat) (I : Nat → Int32) : List Value := [.int (I 0), .ref (m + 1), .int (I 1), .int (I 2), .ref pl, .ref (m + 14), .ref (m + 15), .ref (m + 16), .ref (m + 17), .ref (m + 18), .int (I 3), .int (I 4), .int (I 5), .ref (m + 19), .int (nI n), .int (I 6), .int (I 7), .ref (m + 20), .int (I 8), .int (I 9), .int (I 10), .int (I 11), .ref (m + 21), .ref (m + 22), .ref (m + 23), .ref (m + 24)]
/-- the reference at m: n letters, the plan at pl; I: thrown, size, errorAt, token, depth, ordersRead, day, carried, keptMany, keptDay, keptCarried, isRanked; A: tape, kind, from, means, who, row, keptRow, rank, by, stack, said; V: value -/
def MdB (X : gX) (h : gH) (m n pl : Nat) (I : Nat → Int32) (A : Nat → Nat → Int32) (V : Nat → Int64) : Prop := h m = some (.inr (10, mdF m n pl I)) ∧ (∀ k, k < 11 → h (m + mo k) = some (gIA X (ml k) (A k))) ∧ h (m + 17) = some (gJA X 401 V)
/-- nothing but the reference's own cells has changed -/
def OffM (h h' : gH) (m : Nat) : Prop := ∀ q : Nat, q ≠ m → q ≠ m + 1 → (q < m + 14 ∨ m + 25 ≤ q) → h' q = h q
theorem OffM.rf {h : gH} {m : Nat} : OffM h h m := fun _ _ _ _ => rfl
theorem OffM.trans {h0 h1 h2 : gH} {m : Nat} (x : OffM h0 h1 m) (y : OffM h1 h2 m) : OffM h0 h2 m := fun q a b c => (y q a b c).trans (x q a b c)
theorem OffM.put0 {h0 h : gH} {m : Nat} {e : va_E} (hO : OffM h0 h m) : OffM h0 (gset h m e) m := fun q a b c => (gset_ne a).trans (hO q a b c)
theorem OffM.putk {h0 h : gH} {m k : Nat} {e : va_E} (hk : k < 11) (hO : OffM h0 h m) : OffM h0 (gset h (m + mo k) e) m := fun q a b c => (gset_ne (by have := mo_in k hk; omega)).trans (hO q a b c)
section MD
variable {X : gX} {F : gF} {cc : ByteArray} {nL : Nat} {own : String} {R : Nat × Nat × Nat} {k n pc : Nat} {lv : List (Option Value)} {st : List Value} {h h0 : gH} {z m c pl idx : Nat} {I : Nat → Int32} {A : Nat → Nat → Int32} {V : Nat → Int64}
theorem md_ast {q j : Nat} {x : Int32} (hq : q < 11) (hj : j < ml q) (hM : MdB X h m c pl I A V) (hO : OffM h0 h m) (d : decode cc pc = .ok (.iastore, 1)) (kk : ∀ h : gH, MdB X h m c pl I (va_up A q (upd (A q) j x)) V → OffM h0 h m → G X F cc nL own R k n (pc + 1) lv st h z) : G X F cc nL own R k n pc lv (.int x :: .int (nI j) :: .ref (m + mo q) :: st) h z := by
  have hi := mo_in q hq
  refine g_iastN (hM.2.1 q hq) hj (ml_lt q hq) d (kk _ ⟨(gset_ne (by omega)).trans hM.1, fun i hi2 => ?_, (gset_ne (by omega)).trans hM.2.2⟩ (hO.putk hq))
  by_cases e : i = q
  · subst e
    rw [gset_same]; simp [va_up]
  · have := mo_ne i hi2 q hq e
    rw [gset_ne (by omega), hM.2.1 i hi2]; simp [va_up, e]
theorem md_last {j : Nat} {x : Int64} (hj : j < 401) (hM : MdB X h m c pl I A V) (hO : OffM h0 h m) (d : decode cc pc = .ok (.lastore, 1)) (kk : ∀ h : gH, MdB X h m c pl I A (vp_updL V j x) → OffM h0 h m → G X F cc nL own R k n (pc + 1) lv st h z) : G X F cc nL own R k n pc lv (.long x :: .int (nI j) :: .ref (m + 17) :: st) h z := by
  refine g_lastN hM.2.2 hj (by decide) d (kk _ ⟨(gset_ne (by omega)).trans hM.1, fun i hi2 => (gset_ne (by have := mo_in i hi2; omega)).trans (hM.2.1 i hi2), gset_same⟩ (fun q a b c => (gset_ne (by omega)).trans (hO q a b c)))
theorem md_putn {x : Nat} (fl : gFl own idx 10 14 RX12 TX12 26 tyX12) (hM : MdB X h m c pl I A V) (hO : OffM h0 h m) (d : decode cc pc = .ok (.putfield idx, 3)) (kk : ∀ h : gH, MdB X h m x pl I A V → OffM h0 h m → G X F cc nL own R k n (pc + 3) lv st h z) : G X F cc nL own R k n pc lv (.int (nI x) :: .ref m :: st) h z :=
  g_putf fl hM.1 rfl rfl rfl (Nat.le_of_ble_eq_true rfl) d (kk _ ⟨gset_same, fun i hi => (gset_ne (by have := mo_in i hi; omega)).trans (hM.2.1 i hi), (gset_ne (by omega)).trans hM.2.2⟩ hO.put0)
theorem md_putp {x : Nat} (fl : gFl own idx 10 4 RX12 TX12 26 tyX12) (hM : MdB X h m c pl I A V) (hO : OffM h0 h m) (d : decode cc pc = .ok (.putfield idx, 3)) (kk : ∀ h : gH, MdB X h m c x I A V → OffM h0 h m → G X F cc nL own R k n (pc + 3) lv st h z) : G X F cc nL own R k n pc lv (.ref x :: .ref m :: st) h z :=
  g_putf fl hM.1 rfl rfl rfl (Nat.le_of_ble_eq_true rfl) d (kk _ ⟨gset_same, fun i hi => (gset_ne (by have := mo_in i hi; omega)).trans (hM.2.1 i hi), (gset_ne (by omega)).trans hM.2.2⟩ hO.put0)
theorem md_put0 {x : Int32} (fl : gFl own idx 10 0 RX12 TX12 26 tyX12) (hM : MdB X h m c pl I A V) (hO : OffM h0 h m) (d : decode cc pc = .ok (.putfield idx, 3)) (kk : ∀ h : gH, MdB X h m c pl (upd I 0 x) A V → OffM h0 h m → G X F cc nL own R k n (pc + 3) lv st h z) : G X F cc nL own R k n pc lv (.int x :: .ref m :: st) h z :=
  g_putf fl hM.1 rfl rfl rfl (Nat.le_of_ble_eq_true rfl) d (kk _ ⟨gset_same, fun i hi => (gset_ne (by have := mo_in i hi; omega)).trans (hM.2.1 i hi), (gset_ne (by omega)).trans hM.2.2⟩ hO.put0)
theorem md_put1 {x : Int32} (fl : gFl own idx 10 2 RX12 TX12 26 tyX12) (hM : MdB X h m c pl I A V) (hO : OffM h0 h m) (d : decode cc pc = .ok (.putfield idx, 3)) (kk : ∀ h : gH, MdB X h m c pl (upd I 1 x) A V → OffM h0 h m → G X F cc nL own R k n (pc + 3) lv st h z) : G X F cc nL own R k n pc lv (.int x :: .ref m :: st) h z :=
  g_putf fl hM.1 rfl rfl rfl (Nat.le_of_ble_eq_true rfl) d (kk _ ⟨gset_same, fun i hi => (gset_ne (by have := mo_in i hi; omega)).trans (hM.2.1 i hi), (gset_ne (by omega)).trans hM.2.2⟩ hO.put0)
theorem md_put2 {x : Int32} (fl : gFl own idx 10 3 RX12 TX12 26 tyX12) (hM : MdB X h m c pl I A V) (hO : OffM h0 h m) (d : decode cc pc = .ok (.putfield idx, 3)) (kk : ∀ h : gH, MdB X h m c pl (upd I 2 x) A V → OffM h0 h m → G X F cc nL own R k n (pc + 3) lv st h z) : G X F cc nL own R k n pc lv (.int x :: .ref m :: st) h z :=
  g_putf fl hM.1 rfl rfl rfl (Nat.le_of_ble_eq_true rfl) d (kk _ ⟨gset_same, fun i hi => (gset_ne (by have := mo_in i hi; omega)).trans (hM.2.1 i hi), (gset_ne (by omega)).trans hM.2.2⟩ hO.put0)
theorem md_put3 {x : Int32} (fl : gFl own idx 10 10 RX12 TX12 26 tyX12) (hM : MdB X h m c pl I A V) (hO : OffM h0 h m) (d : decode cc pc = .ok (.putfield idx, 3)) (kk : ∀ h : gH, MdB X h m c pl (upd I 3 x) A V → OffM h0 h m → G X F cc nL own R k n (pc + 3) lv st h z) : G X F cc nL own R k n pc lv (.int x :: .ref m :: st) h z :=
  g_putf fl hM.1 rfl rfl rfl (Nat.le_of_ble_eq_true rfl) d (kk _ ⟨gset_same, fun i hi => (gset_ne (by have := mo_in i hi; omega)).trans (hM.2.1 i hi), (gset_ne (by omega)).trans hM.2.2⟩ hO.put0)
theorem md_put4 {x : Int32} (fl : gFl own idx 10 11 RX12 TX12 26 tyX12) (hM : MdB X h m c pl I A V) (hO : OffM h0 h m) (d : decode cc pc = .ok (.putfield idx, 3)) (kk : ∀ h : gH, MdB X h m c pl (upd I 4 x) A V → OffM h0 h m → G X F cc nL own R k n (pc + 3) lv st h z) : G X F cc nL own R k n pc lv (.int x :: .ref m :: st) h z :=
  g_putf fl hM.1 rfl rfl rfl (Nat.le_of_ble_eq_true rfl) d (kk _ ⟨gset_same, fun i hi => (gset_ne (by have := mo_in i hi; omega)).trans (hM.2.1 i hi), (gset_ne (by omega)).trans hM.2.2⟩ hO.put0)
theorem md_put5 {x : Int32} (fl : gFl own idx 10 12 RX12 TX12 26 tyX12) (hM : MdB X h m c pl I A V) (hO : OffM h0 h m) (d : decode cc pc = .ok (.putfield idx, 3)) (kk : ∀ h : gH, MdB X h m c pl (upd I 5 x) A V → OffM h0 h m → G X F cc nL own R k n (pc + 3) lv st h z) : G X F cc nL own R k n pc lv (.int x :: .ref m :: st) h z :=
  g_putf fl hM.1 rfl rfl rfl (Nat.le_of_ble_eq_true rfl) d (kk _ ⟨gset_same, fun i hi => (gset_ne (by have := mo_in i hi; omega)).trans (hM.2.1 i hi), (gset_ne (by omega)).trans hM.2.2⟩ hO.put0)
theorem md_put6 {x : Int32} (fl : gFl own idx 10 15 RX12 TX12 26 tyX12) (hM : MdB X h m c pl I A V) (hO : OffM h0 h m) (d : decode cc pc = .ok (.putfield idx, 3)) (kk : ∀ h : gH, MdB X h m c pl (upd I 6 x) A V → OffM h0 h m → G X F cc nL own R k n (pc + 3) lv st h z) : G X F cc nL own R k n pc lv (.int x :: .ref m :: st) h z :=
  g_putf fl hM.1 rfl rfl rfl (Nat.le_of_ble_eq_true rfl) d (kk _ ⟨gset_same, fun i hi => (gset_ne (by have := mo_in i hi; omega)).trans (hM.2.1 i hi), (gset_ne (by omega)).trans hM.2.2⟩ hO.put0)
theorem md_put7 {x : Int32} (fl : gFl own idx 10 16 RX12 TX12 26 tyX12) (hM : MdB X h m c pl I A V) (hO : OffM h0 h m) (d : decode cc pc = .ok (.putfield idx, 3)) (kk : ∀ h : gH, MdB X h m c pl (upd I 7 x) A V → OffM h0 h m → G X F cc nL own R k n (pc + 3) lv st h z) : G X F cc nL own R k n pc lv (.int x :: .ref m :: st) h z :=
  g_putf fl hM.1 rfl rfl rfl (Nat.le_of_ble_eq_true rfl) d (kk _ ⟨gset_same, fun i hi => (gset_ne (by have := mo_in i hi; omega)).trans (hM.2.1 i hi), (gset_ne (by omega)).trans hM.2.2⟩ hO.put0)
theorem md_put8 {x : Int32} (fl : gFl own idx 10 18 RX12 TX12 26 tyX12) (hM : MdB X h m c pl I A V) (hO : OffM h0 h m) (d : decode cc pc = .ok (.putfield idx, 3)) (kk : ∀ h : gH, MdB X h m c pl (upd I 8 x) A V → OffM h0 h m → G X F cc nL own R k n (pc + 3) lv st h z) : G X F cc nL own R k n pc lv (.int x :: .ref m :: st) h z :=
  g_putf fl hM.1 rfl rfl rfl (Nat.le_of_ble_eq_true rfl) d (kk _ ⟨gset_same, fun i hi => (gset_ne (by have := mo_in i hi; omega)).trans (hM.2.1 i hi), (gset_ne (by omega)).trans hM.2.2⟩ hO.put0)
theorem md_put9 {x : Int32} (fl : gFl own idx 10 19 RX12 TX12 26 tyX12) (hM : MdB X h m c pl I A V) (hO : OffM h0 h m) (d : decode cc pc = .ok (.putfield idx, 3)) (kk : ∀ h : gH, MdB X h m c pl (upd I 9 x) A V → OffM h0 h m → G X F cc nL own R k n (pc + 3) lv st h z) : G X F cc nL own R k n pc lv (.int x :: .ref m :: st) h z :=
  g_putf fl hM.1 rfl rfl rfl (Nat.le_of_ble_eq_true rfl) d (kk _ ⟨gset_same, fun i hi => (gset_ne (by have := mo_in i hi; omega)).trans (hM.2.1 i hi), (gset_ne (by omega)).trans hM.2.2⟩ hO.put0)
theorem md_put10 {x : Int32} (fl : gFl own idx 10 20 RX12 TX12 26 tyX12) (hM : MdB X h m c pl I A V) (hO : OffM h0 h m) (d : decode cc pc = .ok (.putfield idx, 3)) (kk : ∀ h : gH, MdB X h m c pl (upd I 10 x) A V → OffM h0 h m → G X F cc nL own R k n (pc + 3) lv st h z) : G X F cc nL own R k n pc lv (.int x :: .ref m :: st) h z :=
  g_putf fl hM.1 rfl rfl rfl (Nat.le_of_ble_eq_true rfl) d (kk _ ⟨gset_same, fun i hi => (gset_ne (by have := mo_in i hi; omega)).trans (hM.2.1 i hi), (gset_ne (by omega)).trans hM.2.2⟩ hO.put0)
theorem md_put11 {x : Int32} (hx : narrow .boolean (.int x) = .int x) (hf : fits .boolean (.int x) = true) (fl : gFl own idx 10 21 RX12 TX12 26 tyX12) (hM : MdB X h m c pl I A V) (hO : OffM h0 h m) (d : decode cc pc = .ok (.putfield idx, 3)) (kk : ∀ h : gH, MdB X h m c pl (upd I 11 x) A V → OffM h0 h m → G X F cc nL own R k n (pc + 3) lv st h z) : G X F cc nL own R k n pc lv (.int x :: .ref m :: st) h z :=
  g_putf fl hM.1 rfl hx hf (Nat.le_of_ble_eq_true rfl) d (kk _ ⟨gset_same, fun i hi => (gset_ne (by have := mo_in i hi; omega)).trans (hM.2.1 i hi), (gset_ne (by omega)).trans hM.2.2⟩ hO.put0)
end MD
/-- the reference holds the letters L -/
abbrev MdL (L : List Int32) (n : Nat) (A : Nat → Nat → Int32) : Prop := n = L.length ∧ n ≤ 40 ∧ ∀ i, i < n → A 5 i = lt L i
set_option maxRecDepth 100000 in
set_option maxHeartbeats 4000000 in
theorem m12_same {X : gX} {h : gH} {z m pl : Nat} {I : Nat → Int32} {A : Nat → Nat → Int32} {V : Nat → Int64} {L : List Int32} (p q : Nat) (hp : p ≤ L.length) (hq : q ≤ L.length) (hM : MdB X h m L.length pl I A V) (hn : L.length ≤ 40) (hA : ∀ i, i < L.length → A 5 i = lt L i) : gM X yX12_same cX12_same 4 (some .int) (1, 0, 0) [.ref m, .int (nI p), .int (nI q)] h z (pR h z (nI (lcp L p q))) gNoX := by
  refine gM.of px12 (Nat.le_of_ble_eq_true rfl) ?_
  intro F hE
  have loop : ∀ (r j : Nat), j + r = L.length → (∀ i, i < j → mt L p q i) → G X F cX12_same 4 yX12_same.cls (1, 0, 0) 0 0 2 [some (.ref m), some (.int (nI p)), some (.int (nI q)), some (.int (nI j))] [] h z := by
    intro r
    induction r with
    | zero =>
      intro j hj hm
      refine g_iload_n dX12_same_2 rfl ?_
      refine g_iload_n dX12_same_3 rfl ?_
      first | refine g_iaddN dX12_same_4 ?_ | refine g_iadd dX12_same_4 ?_
      refine g_aload_n dX12_same_5 rfl ?_
      refine g_getf fl12_61 hM.1 rfl dX12_same_6 ?_
      refine g_icmp_geN 47 dX12_same_9 (by decide) (by omega) (by omega) (fun c_9 => ?_) (fun c_9 => ?_)
      · refine g_iload_n dX12_same_47 rfl ?_
        exact g_iret hE rfl (⟨by rw [lcp_uniq hm (fun x => by have := x.1; have := x.2.1; omega)], rfl, rfl⟩) dX12_same_48
      · exact absurd c_9 (by omega)
    | succ r ih =>
      intro j hj hm
      refine g_iload_n dX12_same_2 rfl ?_
      refine g_iload_n dX12_same_3 rfl ?_
      first | refine g_iaddN dX12_same_4 ?_ | refine g_iadd dX12_same_4 ?_
      refine g_aload_n dX12_same_5 rfl ?_
      refine g_getf fl12_61 hM.1 rfl dX12_same_6 ?_
      refine g_icmp_geN 47 dX12_same_9 (by decide) (by omega) (by omega) (fun c_9 => ?_) (fun c_9 => ?_)
      · refine g_iload_n dX12_same_47 rfl ?_
        exact g_iret hE rfl (⟨by rw [lcp_uniq hm (fun x => by have := x.1; have := x.2.1; omega)], rfl, rfl⟩) dX12_same_48
      · refine g_iload_n dX12_same_12 rfl ?_
        refine g_iload_n dX12_same_13 rfl ?_
        first | refine g_iaddN dX12_same_14 ?_ | refine g_iadd dX12_same_14 ?_
        refine g_aload_n dX12_same_15 rfl ?_
        refine g_getf fl12_61 hM.1 rfl dX12_same_16 ?_
        refine g_icmp_geN 47 dX12_same_19 (by decide) (by omega) (by omega) (fun c_19 => ?_) (fun c_19 => ?_)
        · refine g_iload_n dX12_same_47 rfl ?_
          exact g_iret hE rfl (⟨by rw [lcp_uniq hm (fun x => by have := x.1; have := x.2.1; omega)], rfl, rfl⟩) dX12_same_48
        · refine g_aload_n dX12_same_22 rfl ?_
          refine g_getf fl12_40 hM.1 rfl dX12_same_23 ?_
          refine g_iload_n dX12_same_26 rfl ?_
          refine g_iload_n dX12_same_27 rfl ?_
          first | refine g_iaddN dX12_same_28 ?_ | refine g_iadd dX12_same_28 ?_
          refine g_ialdN (hM.2.1 5 (by decide)) (by show _ < 40; omega) (by decide) dX12_same_29 ?_
          refine g_aload_n dX12_same_30 rfl ?_
          refine g_getf fl12_40 hM.1 rfl dX12_same_31 ?_
          refine g_iload_n dX12_same_34 rfl ?_
          refine g_iload_n dX12_same_35 rfl ?_
          first | refine g_iaddN dX12_same_36 ?_ | refine g_iadd dX12_same_36 ?_
          refine g_ialdN (hM.2.1 5 (by decide)) (by show _ < 40; omega) (by decide) dX12_same_37 ?_
          rw [hA _ (by omega), hA _ (by omega)]
          refine g_icmp_ne 47 dX12_same_38 (by decide) (fun c_38 => ?_) (fun c_38 => ?_)
          · refine g_iload_n dX12_same_47 rfl ?_
            exact g_iret hE rfl (⟨by rw [lcp_uniq hm (fun x => c_38 x.2.2)], rfl, rfl⟩) dX12_same_48
          · refine g_iincN dX12_same_41 rfl (by decide) rfl ?_
            refine g_goto 2 dX12_same_44 (by decide) ?_
            refine ih (j + 1) (by omega) (fun i hi => ?_)
            by_cases e : i = j
            · subst e; exact ⟨by omega, by omega, c_38⟩
            · exact hm i (by omega)
  refine g_iconst (nI 0) dX12_same_0 (by decide) ?_
  refine g_istore_n dX12_same_1 (by decide) rfl ?_
  exact loop L.length 0 (by omega) (fun i hi => absurd hi (Nat.not_lt_zero _))
set_option maxRecDepth 100000 in
set_option maxHeartbeats 4000000 in
theorem m12_goesAhead {X : gX} {h : gH} {z m pl : Nat} {I : Nat → Int32} {A : Nat → Nat → Int32} {V : Nat → Int64} {L : List Int32} (p q : Nat) (hp : p < L.length) (hq : q < L.length) (hM : MdB X h m L.length pl I A V) (hn : L.length ≤ 40) (hA : ∀ i, i < L.length → A 5 i = lt L i) : gM X yX12_goesAhead cX12_goesAhead 4 (some .boolean) (2, 0, 0) [.ref m, .int (nI p), .int (nI q)] h z (pR h z (b2i (ahd L p q))) gNoX := by
  have b1 := lcp_le (L := L) (p := p) (q := q) (by omega)
  have b2 := lcp_le' (L := L) (p := p) (q := q) (by omega)
  refine gM.of px12 (Nat.le_of_ble_eq_true rfl) ?_
  intro F hE
  refine g_aload_n dX12_goesAhead_0 rfl ?_
  refine g_iload_n dX12_goesAhead_1 rfl ?_
  refine g_iload_n dX12_goesAhead_2 rfl ?_
  refine g_callV0 kX12_109 (m12_same p q (by omega) (by omega) hM hn hA) hM.1 rfl rfl rfl (Nat.le_of_ble_eq_true rfl) (by decide) (by decide) (by decide) (by decide) dX12_goesAhead_3 ?_
  rintro v1 h1 z1 ⟨rfl, rfl, rfl⟩
  refine g_istore_n dX12_goesAhead_6 (by decide) rfl ?_
  refine g_iload_n dX12_goesAhead_7 rfl ?_
  refine g_iload_n dX12_goesAhead_8 rfl ?_
  first | refine g_iaddN dX12_goesAhead_9 ?_ | refine g_iadd dX12_goesAhead_9 ?_
  refine g_aload_n dX12_goesAhead_10 rfl ?_
  refine g_getf fl12_61 hM.1 rfl dX12_goesAhead_11 ?_
  refine g_icmp_eqN 27 dX12_goesAhead_14 (by decide) (by omega) (by omega) (fun c_14 => ?_) (fun c_14 => ?_)
  · refine g_iload_n dX12_goesAhead_27 rfl ?_
    refine g_iload_n dX12_goesAhead_28 rfl ?_
    refine g_icmp_leN 36 dX12_goesAhead_29 (by decide) (by omega) (by omega) (fun c_29 => ?_) (fun c_29 => ?_)
    · refine g_iconst (nI 0) dX12_goesAhead_36 (by decide) ?_
      exact g_iret hE rfl (⟨by first | (rw [b2i_t (show ahd L p q = true from by unfold ahd; rw [if_pos (by omega)]; exact decide_eq_true (by omega))]; rfl) | (rw [b2i_f (show ahd L p q = false from by unfold ahd; rw [if_pos (by omega)]; exact decide_eq_false (by omega))]; rfl) | (rw [b2i_t (show ahd L p q = true from by unfold ahd; rw [if_neg (by omega)]; exact decide_eq_true (by simp only [Int32.lt_iff_toInt_lt, Int32.le_iff_toInt_le] at *; omega))]; rfl) | (rw [b2i_f (show ahd L p q = false from by unfold ahd; rw [if_neg (by omega)]; exact decide_eq_false (by simp only [Int32.lt_iff_toInt_lt, Int32.le_iff_toInt_le] at *; omega))]; rfl), rfl, rfl⟩) dX12_goesAhead_37
    · refine g_iconst (nI 1) dX12_goesAhead_32 (by decide) ?_
      refine g_goto 37 dX12_goesAhead_33 (by decide) ?_
      exact g_iret hE rfl (⟨by first | (rw [b2i_t (show ahd L p q = true from by unfold ahd; rw [if_pos (by omega)]; exact decide_eq_true (by omega))]; rfl) | (rw [b2i_f (show ahd L p q = false from by unfold ahd; rw [if_pos (by omega)]; exact decide_eq_false (by omega))]; rfl) | (rw [b2i_t (show ahd L p q = true from by unfold ahd; rw [if_neg (by omega)]; exact decide_eq_true (by simp only [Int32.lt_iff_toInt_lt, Int32.le_iff_toInt_le] at *; omega))]; rfl) | (rw [b2i_f (show ahd L p q = false from by unfold ahd; rw [if_neg (by omega)]; exact decide_eq_false (by simp only [Int32.lt_iff_toInt_lt, Int32.le_iff_toInt_le] at *; omega))]; rfl), rfl, rfl⟩) dX12_goesAhead_37
  · refine g_iload_n dX12_goesAhead_17 rfl ?_
    refine g_iload_n dX12_goesAhead_18 rfl ?_
    first | refine g_iaddN dX12_goesAhead_19 ?_ | refine g_iadd dX12_goesAhead_19 ?_
    refine g_aload_n dX12_goesAhead_20 rfl ?_
    refine g_getf fl12_61 hM.1 rfl dX12_goesAhead_21 ?_
    refine g_icmp_neN 38 dX12_goesAhead_24 (by decide) (by omega) (by omega) (fun c_24 => ?_) (fun c_24 => ?_)
    · refine g_aload_n dX12_goesAhead_38 rfl ?_
      refine g_getf fl12_40 hM.1 rfl dX12_goesAhead_39 ?_
      refine g_iload_n dX12_goesAhead_42 rfl ?_
      refine g_iload_n dX12_goesAhead_43 rfl ?_
      first | refine g_iaddN dX12_goesAhead_44 ?_ | refine g_iadd dX12_goesAhead_44 ?_
      refine g_ialdN (hM.2.1 5 (by decide)) (by show _ < 40; omega) (by decide) dX12_goesAhead_45 ?_
      refine g_aload_n dX12_goesAhead_46 rfl ?_
      refine g_getf fl12_40 hM.1 rfl dX12_goesAhead_47 ?_
      refine g_iload_n dX12_goesAhead_50 rfl ?_
      refine g_iload_n dX12_goesAhead_51 rfl ?_
      first | refine g_iaddN dX12_goesAhead_52 ?_ | refine g_iadd dX12_goesAhead_52 ?_
      refine g_ialdN (hM.2.1 5 (by decide)) (by show _ < 40; omega) (by decide) dX12_goesAhead_53 ?_
      rw [hA _ (by omega), hA _ (by omega)]
      refine g_icmp_ge 61 dX12_goesAhead_54 (by decide) (fun c_54 => ?_) (fun c_54 => ?_)
      · refine g_iconst (nI 0) dX12_goesAhead_61 (by decide) ?_
        exact g_iret hE rfl (⟨by first | (rw [b2i_t (show ahd L p q = true from by unfold ahd; rw [if_pos (by omega)]; exact decide_eq_true (by omega))]; rfl) | (rw [b2i_f (show ahd L p q = false from by unfold ahd; rw [if_pos (by omega)]; exact decide_eq_false (by omega))]; rfl) | (rw [b2i_t (show ahd L p q = true from by unfold ahd; rw [if_neg (by omega)]; exact decide_eq_true (by simp only [Int32.lt_iff_toInt_lt, Int32.le_iff_toInt_le] at *; omega))]; rfl) | (rw [b2i_f (show ahd L p q = false from by unfold ahd; rw [if_neg (by omega)]; exact decide_eq_false (by simp only [Int32.lt_iff_toInt_lt, Int32.le_iff_toInt_le] at *; omega))]; rfl), rfl, rfl⟩) dX12_goesAhead_62
      · refine g_iconst (nI 1) dX12_goesAhead_57 (by decide) ?_
        refine g_goto 62 dX12_goesAhead_58 (by decide) ?_
        exact g_iret hE rfl (⟨by first | (rw [b2i_t (show ahd L p q = true from by unfold ahd; rw [if_pos (by omega)]; exact decide_eq_true (by omega))]; rfl) | (rw [b2i_f (show ahd L p q = false from by unfold ahd; rw [if_pos (by omega)]; exact decide_eq_false (by omega))]; rfl) | (rw [b2i_t (show ahd L p q = true from by unfold ahd; rw [if_neg (by omega)]; exact decide_eq_true (by simp only [Int32.lt_iff_toInt_lt, Int32.le_iff_toInt_le] at *; omega))]; rfl) | (rw [b2i_f (show ahd L p q = false from by unfold ahd; rw [if_neg (by omega)]; exact decide_eq_false (by simp only [Int32.lt_iff_toInt_lt, Int32.le_iff_toInt_le] at *; omega))]; rfl), rfl, rfl⟩) dX12_goesAhead_62
    · refine g_iload_n dX12_goesAhead_27 rfl ?_
      refine g_iload_n dX12_goesAhead_28 rfl ?_
      refine g_icmp_leN 36 dX12_goesAhead_29 (by decide) (by omega) (by omega) (fun c_29 => ?_) (fun c_29 => ?_)
      · refine g_iconst (nI 0) dX12_goesAhead_36 (by decide) ?_
        exact g_iret hE rfl (⟨by first | (rw [b2i_t (show ahd L p q = true from by unfold ahd; rw [if_pos (by omega)]; exact decide_eq_true (by omega))]; rfl) | (rw [b2i_f (show ahd L p q = false from by unfold ahd; rw [if_pos (by omega)]; exact decide_eq_false (by omega))]; rfl) | (rw [b2i_t (show ahd L p q = true from by unfold ahd; rw [if_neg (by omega)]; exact decide_eq_true (by simp only [Int32.lt_iff_toInt_lt, Int32.le_iff_toInt_le] at *; omega))]; rfl) | (rw [b2i_f (show ahd L p q = false from by unfold ahd; rw [if_neg (by omega)]; exact decide_eq_false (by simp only [Int32.lt_iff_toInt_lt, Int32.le_iff_toInt_le] at *; omega))]; rfl), rfl, rfl⟩) dX12_goesAhead_37
      · refine g_iconst (nI 1) dX12_goesAhead_32 (by decide) ?_
        refine g_goto 37 dX12_goesAhead_33 (by decide) ?_
        exact g_iret hE rfl (⟨by first | (rw [b2i_t (show ahd L p q = true from by unfold ahd; rw [if_pos (by omega)]; exact decide_eq_true (by omega))]; rfl) | (rw [b2i_f (show ahd L p q = false from by unfold ahd; rw [if_pos (by omega)]; exact decide_eq_false (by omega))]; rfl) | (rw [b2i_t (show ahd L p q = true from by unfold ahd; rw [if_neg (by omega)]; exact decide_eq_true (by simp only [Int32.lt_iff_toInt_lt, Int32.le_iff_toInt_le] at *; omega))]; rfl) | (rw [b2i_f (show ahd L p q = false from by unfold ahd; rw [if_neg (by omega)]; exact decide_eq_false (by simp only [Int32.lt_iff_toInt_lt, Int32.le_iff_toInt_le] at *; omega))]; rfl), rfl, rfl⟩) dX12_goesAhead_37
