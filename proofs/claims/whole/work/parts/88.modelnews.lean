/-! the reference: what each piece of news does -/
theorem oI_m1 {o : Option Nat} (h : ∀ i, o = some i → i < 100) : oI o = -1 ↔ ¬ o.isSome = true := by
  cases o with
  | none => exact ⟨fun _ => by simp, fun _ => rfl⟩
  | some i =>
    have := h i rfl
    refine ⟨fun q => absurd ((nI_toInt (show i < 2 ^ 31 by omega)).symm.trans (congrArg Int32.toInt q)) (by show ¬ (i : Int) = -1; omega), fun q => absurd rfl q⟩
set_option maxRecDepth 100000 in
set_option maxHeartbeats 4000000 in
theorem m12_anInsult {X : gX} {h : gH} {z m c pl q : Nat} {I : Nat → Int32} {A : Nat → Nat → Int32} {V : Nat → Int64} {J : Nat → Int32} {B : Nat → Nat → Int32} {U W : Nat → Int64} (k : Nat) (Ws : List (List Nat)) (D : List Nat) (hk : k < 401) (hq : m + 25 ≤ q) (hok : WsOk Ws) (hd : dg D) (h10 : D.length ≤ 10) (hM : MdB X h m c pl I A V) (hV : V k = lN (nm D)) (hP : MpB X h q J B U W) (hJ : J 0 = nI Ws.length) (hU : ∀ i, i < Ws.length → U i = lN (nm (Ws.getD i []))) : gM X yX12_anInsult cX12_anInsult 3 (some .int) (1, 0, 0) [.ref m, .ref q, .int (nI k)] h z (fun r h' z' => r = some (.int (nI (if (fnd Ws D).isSome = true then 0 else 3))) ∧ z' = z ∧ MdB X h' m c pl I (va_up A 4 (upd (A 4) k (oI (fnd Ws D)))) V ∧ OffM h h' m) gNoX := by
  have hl8 := hok.1
  have hfl : ∀ i, fnd Ws D = some i → i < 100 := fun i w => by have := (fnd_some.mp w).1; omega
  have hr : (va_up A 4 (upd (A 4) k (oI (fnd Ws D)))) 4 k = oI (fnd Ws D) := by rw [vu_same, upd_same]
  refine gM.of px12 (Nat.le_of_ble_eq_true rfl) ?_
  intro F hE
  refine g_aload_n dX12_anInsult_0 rfl ?_
  refine g_getf fl12_37 hM.1 rfl dX12_anInsult_1 ?_
  refine g_iload_n dX12_anInsult_4 rfl ?_
  refine g_aload_n dX12_anInsult_5 rfl ?_
  refine g_aload_n dX12_anInsult_6 rfl ?_
  refine g_getf fl12_33 hM.1 rfl dX12_anInsult_7 ?_
  refine g_iload_n dX12_anInsult_10 rfl ?_
  refine g_laldN (hM.2.2) (by omega) (by decide) dX12_anInsult_11 ?_
  rw [hV]
  refine g_callS0 kX12_334 (m12_find Ws D hok hd h10 hP hJ hU) rfl rfl (Nat.le_of_ble_eq_true rfl) (by decide) (by decide) (by decide) (by decide) dX12_anInsult_12 ?_
  rintro v1 h2 z1 ⟨rfl, rfl, rfl⟩
  refine md_ast (q := 4) (by decide) (by show k < 401; omega) hM OffM.rf dX12_anInsult_15 (fun h2 hM2 hO2 => ?_)
  refine g_aload_n dX12_anInsult_16 rfl ?_
  refine g_getf fl12_37 hM2.1 rfl dX12_anInsult_17 ?_
  refine g_iload_n dX12_anInsult_20 rfl ?_
  refine g_ialdN (hM2.2.1 4 (by decide)) (by show k < 401; omega) (by decide) dX12_anInsult_21 ?_
  refine g_iconst (-1) dX12_anInsult_22 (by decide) ?_
  rw [hr]
  refine g_icmp_ne 30 dX12_anInsult_23 (by decide) (fun c_23 => ?_) (fun c_23 => ?_)
  · refine g_iconst (nI 0) dX12_anInsult_30 (by decide) ?_
    exact g_iret hE rfl (⟨by rw [if_pos (Classical.not_not.mp (fun w => c_23 ((oI_m1 hfl).mpr w)))], rfl, hM2, hO2⟩) dX12_anInsult_31
  · refine g_iconst (nI 3) dX12_anInsult_26 (by decide) ?_
    refine g_goto 31 dX12_anInsult_27 (by decide) ?_
    exact g_iret hE rfl (⟨by rw [if_neg ((oI_m1 hfl).mp c_23)], rfl, hM2, hO2⟩) dX12_anInsult_31
/-- the news P was heeded -/
def EvS (X : gX) (h : gH) (m c pl q n : Nat) (f : Nat → Int32) (I : Nat → Int32) (A0 : Nat → Nat → Int32) (V : Nat → Int64) (J2 : Int32) (B0 : Nat → Nat → Int32) (ol : List OrT) (P : List (Nat × Nat)) : Prop := ∃ (A : Nat → Nat → Int32) (J : Nat → Int32) (B : Nat → Nat → Int32) (U W : Nat → Int64), MdB X h m c pl I A V ∧ MpB X h q J B U W ∧ (∀ k, k ≠ 4 → A k = A0 k) ∧ J 0 = nI (seF n f P).1.length ∧ J 1 = nI (seF n f P).2.1 ∧ J 2 = J2 ∧ (∀ i, i < (seF n f P).1.length → U i = lN (nm ((seF n f P).1.getD i [])) ∧ MpW B i (wl ((seF n f P).1.getD i []))) ∧ (∀ k, k = 2 ∨ 4 ≤ k → B k = B0 k) ∧ (∀ e, e ∈ P → e.1 = 4 ∨ e.1 = 5 → A 4 e.2 = oI (fnd (seF n f P).1 (tkn n f e.2))) ∧ ∀ i o, ol[i]? = some o → (o.1 = 6 → (3, o.2.1) ∈ P → W i = lN (nm (tkn n f o.2.1))) ∧ (o.1 = 7 → (4, o.2.1) ∈ P → B 3 i = oI (fnd (seF n f P).1 (tkn n f o.2.1)))
/-- what is known of the book's tokens and news -/
def EvK (n : Nat) (f : Nat → Int32) (A0 : Nat → Nat → Int32) (V : Nat → Int64) (s : PLt) : Prop := BkOk n f s ∧ BkN s ∧ (∀ i, i ≤ tkl n f → A0 3 i = nI (mnV s.1.2.2 i)) ∧ ∀ i, i ≤ tkl n f → tkk n f i = 2 → V i = lN (nm (tkn n f i))
theorem mnV_at {K : Nat → Nat} {a b : Nat} {V P S : List (Nat × Nat)} {m k : Nat} (h : VS K a b V) (e : V = P ++ (m, k) :: S) : mnV V k = m := by
  have hp := h.1
  rw [e, List.pairwise_append] at hp
  unfold mnV
  rw [e, List.find?_append, List.find?_eq_none.mpr (fun x hx => by
    have := hp.2.2 x hx (m, k) List.mem_cons_self
    have h2 : x.2 < k := this
    simp; omega)]
  simp
theorem mnV_no {V : List (Nat × Nat)} {k : Nat} (h : ∀ e, e ∈ V → e.2 ≠ k) : mnV V k = 0 := by
  unfold mnV
  rw [List.find?_eq_none.mpr (fun x hx => by simpa using h x hx)]
  rfl
/-- an error among the first news -/
theorem seF_er {n : Nat} {f : Nat → Int32} {P : List (Nat × Nat)} {e : Nat × Nat} (h : (seF n f P).2.2.1 = 0) : (seF n f (P ++ [e])).2.2 = ((se1 n f e.1 e.2 (seF n f P).1 (seF n f P).2.1).1, e.2) := by
  rw [seF_app]; unfold seS; rw [if_pos h]
theorem seF_st {n : Nat} {f : Nat → Int32} {P S : List (Nat × Nat)} {e : Nat × Nat} (h : (seF n f P).2.2.1 = 0) (h2 : (se1 n f e.1 e.2 (seF n f P).1 (seF n f P).2.1).1 ≠ 0) : (seF n f (P ++ e :: S)).2.2 = ((se1 n f e.1 e.2 (seF n f P).1 (seF n f P).2.1).1, e.2) := by
  have key : ∀ (S : List (Nat × Nat)) (a : SeM), a.2.2.1 ≠ 0 → (S.foldl (seS n f) a).2.2 = a.2.2 := by
    intro S
    induction S with
    | nil => intro a _; rfl
    | cons x S ih =>
      intro a ha
      have e1 : (seS n f a x).2.2 = a.2.2 := if_neg ha
      show (S.foldl (seS n f) (seS n f a x)).2.2 = _
      rw [ih _ (by rw [e1]; exact ha), e1]
  have e1 : seF n f (P ++ e :: S) = S.foldl (seS n f) (seF n f (P ++ [e])) := by
    unfold seF; rw [show P ++ e :: S = (P ++ [e]) ++ S by simp, List.foldl_append]
  have e2 := seF_er (e := e) h
  rw [e1, key S _ (by rw [e2]; exact h2), e2]
