/-! a row for System.arraycopy from place 0 to place 0; the reference keeps and brings back -/
theorem g_copy {X : gX} {F : gF} {cc : ByteArray} {nL : Nat} {own : String} {R : Nat × Nat × Nat} {k n pc : Nat} {lv : List (Option Value)} {st : List Value} {h : gH} {z : Nat} {a0 a N0 N1 j idx : Nat} {f g : Nat → Int32} (w : Cond.methodLink own idx arraycopyName ∈ lw_tbl ∧ Cond.native arraycopyName ∈ lw_tbl ∧ Cond.static arraycopyName ∈ lw_tbl ∧ Cond.initialized "java/lang/System" ∈ lw_tbl) (h0 : h a0 = some (gIA X N0 f)) (h1 : h a = some (gIA X N1 g)) (j0 : j ≤ N0) (j1 : j ≤ N1) (hj : j < 2 ^ 31) (hd : 1 ≤ R.1) (hc : (st.map fun v => v.category).sum ≤ 8) (d : decode cc pc = .ok (.invokestatic idx, 3)) (kk : G X F cc nL own R k n (pc + 3) lv st (gset h a (gIA X N1 (fun i => if i < j then f i else g i))) z) : G X F cc nL own R k n pc lv (.int (nI j) :: .int (nI 0) :: .ref a :: .int (nI 0) :: .ref a0 :: st) h z := by
  obtain ⟨p, e, Rm, s, m, args, below, meth, c, Q⟩ := F
  intro ok H locs ls hA hq hl
  have hX := ok.2.1
  have hW := ok.2.2.1
  have hR := ok.2.2.2
  have hK := gK hX hW
  have hlive := (hA.2.2.2 a _ h1).1
  intro T hT Z
  have hc0 : H[a0]? = some (vp_cell (X.2.2.1 0) (N0, .inl f)) := hA.one h0 0 _ rfl
  have hc1 : H[a]? = some (vp_cell (X.2.2.1 0) (N1, .inl g)) := hA.one h1 0 _ rfl
  obtain ⟨-, k0, hk0, cm0, hkk0⟩ := (hK.2 0 _ rfl).1 N0 (fun i => .int (f i))
  obtain ⟨-, k1, hk1, cm1, hkk1⟩ := (hK.2 0 _ rfl).1 N1 (fun i => .int (g i))
  have cj : (nI j).toNatClampNeg = j := nI_clamp hj
  have ij : (nI j).toInt = (j : Int) := nI_toInt hj
  have c0 : (nI 0).toNatClampNeg = 0 := rfl
  have i0 : (nI 0).toInt = 0 := rfl
  obtain ⟨vm', Z', step⟩ := Z.arraycopy ok.1.1 ok.1.2.2.2 (gword hX hW w.1 rfl args) (gword hX hW w.2.1 rfl args) (gword hX hW w.2.2.1 rfl args) (gword hX hW w.2.2.2 rfl args) (src := a0) (dst := a) (cs := vp_cell (X.2.2.1 0) (N0, .inl f)) (cd := vp_cell (X.2.2.1 0) (N1, .inl g)) (srcPos := nI 0) (destPos := nI 0) (n := nI j) (by rw [hT]; exact hc0) (by rw [hT]; exact hc1)
    (fun _ h => by cases h) (fun _ h => by cases h) (fun h => by cases h) (fun h => by cases h) hk0 hk1 hkk0 hkk1 (by simp [refKind]) (by decide) (by decide) (nI_pos hj)
    (by rw [i0, ij]; show ¬ _ > ((arrV (X.2.2.1 0) N0 (fun i => .int (f i))).slots.size : Int); rw [arrV_size]; omega)
    (by rw [i0, ij]; show ¬ _ > ((arrV (X.2.2.1 0) N1 (fun i => .int (g i))).slots.size : Int); rw [arrV_size]; omega)
    (fun vm₁ _ i hi => by
      rw [cj] at hi
      have e : (vp_cell (X.2.2.1 0) (N0, .inl f)).slots.getD ((nI 0).toNatClampNeg + i) .null = .int (f ((nI 0).toNatClampNeg + i)) := by
        show (arrV (X.2.2.1 0) N0 (fun i => .int (f i))).slots.getD _ _ = _
        rw [Array.getD_eq_getD_getElem?, arrV_read _ _ (by rw [c0]; omega)]
        rfl
      exact ⟨by rw [e]; rfl, by rw [e]; exact trivial⟩)
    (g := F0 m pc ls (.int (nI j) :: .int (nI 0) :: .ref a :: .int (nI 0) :: .ref a0 :: st)) rfl (by rw [ok.1.2.2.1]; exact hl.1) (rest := st) rfl (by rw [ok.1.2.1]; exact d) (by omega) (by
      have hn : nativeFrameWords "java/lang/System" "arraycopy" 5 + 11 ≤ 33 := by decide
      show 2 * 0 + _ + _ ≤ _
      omega)
  have e1 : copied (vp_cell (X.2.2.1 0) (N0, .inl f)) (vp_cell (X.2.2.1 0) (N1, .inl g)) (nI 0) (nI 0) (nI j) = vp_cell (X.2.2.1 0) (N1, .inl (fun i => if i < j then f i else g i)) := by
    have e2 : copied (vp_cell (X.2.2.1 0) (N0, .inl f)) (vp_cell (X.2.2.1 0) (N1, .inl g)) (nI 0) (nI 0) (nI j) = vp_cell (X.2.2.1 0) (N1, .inl (va_cpy f g (nI 0).toNatClampNeg (nI 0).toNatClampNeg (nI j).toNatClampNeg)) := va_copied (fun z => .int z) (X.2.2.1 0) (X.2.2.1 0) f g (by rw [c0, cj]; omega)
    rw [e2, c0, cj]
    congr 3
    funext i
    unfold va_cpy
    by_cases hi : i < j
    · rw [if_pos ⟨Nat.zero_le _, by omega⟩, if_pos hi, Nat.zero_add, Nat.sub_zero]
    · rw [if_neg (by omega), if_neg hi]
  rw [e1] at Z' step
  have hlt : a < H.size := (Array.getElem?_eq_some_iff.mp hc1).1
  have hheap : ((T.setVm vm').setCell a (vp_cell (X.2.2.1 0) (N1, .inl (fun i => if i < j then f i else g i)))).heap = H.setIfInBounds a (vp_cell (X.2.2.1 0) (N1, .inl (fun i => if i < j then f i else g i))) := by rw [← hT]; rfl
  have oq : ∀ q : Nat, q ≠ a → (H.setIfInBounds a (vp_cell (X.2.2.1 0) (N1, .inl (fun i => if i < j then f i else g i))))[q]? = H[q]? := fun q hq => by simp [Array.getElem?_setIfInBounds, Ne.symm hq]
  obtain ⟨t, a1, b1⟩ := kk ok _ _ ls (hA.put h1 (by simp) oq (show (H.setIfInBounds a _)[a]? = some _ by simp [Array.getElem?_setIfInBounds, hlt])) (fun q hq2 => by
      rcases List.mem_append.mp hq2 with h | h
      · exact hq q h
      · obtain ⟨y, -, hy⟩ := List.mem_map.mp h
        rw [← hy]
        exact hlive) hl _ hheap Z'
  exact ⟨t, step t a1, b1⟩
theorem wcopy : Cond.methodLink RX12 88 arraycopyName ∈ lw_tbl ∧ Cond.native arraycopyName ∈ lw_tbl ∧ Cond.static arraycopyName ∈ lw_tbl ∧ Cond.initialized "java/lang/System" ∈ lw_tbl := ⟨gm8 66 (by decide +kernel), gm8 68 (by decide +kernel), gm8 67 (by decide +kernel), gm1 26 (by decide +kernel)⟩
theorem md_copy {X : gX} {F : gF} {cc : ByteArray} {nL : Nat} {own : String} {R : Nat × Nat × Nat} {k n pc : Nat} {lv : List (Option Value)} {st : List Value} {h h0 : gH} {z m c pl idx q r j : Nat} {I : Nat → Int32} {A : Nat → Nat → Int32} {V : Nat → Int64} (hq : q < 11) (hr : r < 11) (jq : j ≤ ml q) (jr : j ≤ ml r) (hM : MdB X h m c pl I A V) (hO : OffM h0 h m) (w : Cond.methodLink own idx arraycopyName ∈ lw_tbl ∧ Cond.native arraycopyName ∈ lw_tbl ∧ Cond.static arraycopyName ∈ lw_tbl ∧ Cond.initialized "java/lang/System" ∈ lw_tbl) (hd : 1 ≤ R.1) (hc : (st.map fun v => v.category).sum ≤ 8) (d : decode cc pc = .ok (.invokestatic idx, 3)) (kk : ∀ h : gH, MdB X h m c pl I (va_up A r (fun i => if i < j then A q i else A r i)) V → OffM h0 h m → G X F cc nL own R k n (pc + 3) lv st h z) : G X F cc nL own R k n pc lv (.int (nI j) :: .int (nI 0) :: .ref (m + mo r) :: .int (nI 0) :: .ref (m + mo q) :: st) h z := by
  have hi := mo_in r hr
  have hlt := ml_lt q hq
  refine g_copy w (hM.2.1 q hq) (hM.2.1 r hr) jq jr (by omega) hd hc d (kk _ ⟨(gset_ne (by omega)).trans hM.1, fun i hi2 => ?_, (gset_ne (by omega)).trans hM.2.2⟩ (hO.putk hr))
  by_cases e : i = r
  · subst e
    rw [gset_same]; simp [va_up]
  · have := mo_ne i hi2 r hr e
    rw [gset_ne (by omega), hM.2.1 i hi2]; simp [va_up, e]
/-- what is kept: letters L, a day, what was carried out -/
def MdK (L : List Int32) (day car : Int32) (I : Nat → Int32) (A : Nat → Nat → Int32) : Prop := L.length ≤ 40 ∧ I 8 = nI L.length ∧ I 9 = day ∧ I 10 = car ∧ ∀ i, i < L.length → A 6 i = lt L i
theorem MdK.of {L : List Int32} {day car : Int32} {I I' : Nat → Int32} {A A' : Nat → Nat → Int32} (hK : MdK L day car I A) (hH : MdP I I' A A') : MdK L day car I' A' :=
  ⟨hK.1, (hH.1 8 (by decide) (by decide) (by decide)).trans hK.2.1, (hH.1 9 (by decide) (by decide) (by decide)).trans hK.2.2.1, (hH.1 10 (by decide) (by decide) (by decide)).trans hK.2.2.2.1, fun i hi => by rw [hH.2 6 (by decide) (by decide) (by decide) (by decide) (by decide)]; exact hK.2.2.2.2 i hi⟩
/-- the tape, the tokens and what was thrown stay -/
def MdQ (I I' : Nat → Int32) (A A' : Nat → Nat → Int32) : Prop := (∀ j, j < 6 → I' j = I j) ∧ ∀ k, k < 5 → A' k = A k
theorem MdQ.rf {I : Nat → Int32} {A : Nat → Nat → Int32} : MdQ I I A A := ⟨fun _ _ => rfl, fun _ _ => rfl⟩
theorem MdQ.trans {I I1 I2 : Nat → Int32} {A A1 A2 : Nat → Nat → Int32} (x : MdQ I I1 A A1) (y : MdQ I1 I2 A1 A2) : MdQ I I2 A A2 := ⟨fun j a => (y.1 j a).trans (x.1 j a), fun k a => (y.2 k a).trans (x.2 k a)⟩
theorem MdP.toQ {I I' : Nat → Int32} {A A' : Nat → Nat → Int32} (x : MdP I I' A A') : MdQ I I' A A' := ⟨fun j a => x.1 j (by omega) (by omega) (by omega), fun k a => x.2 k (by omega) (by omega) (by omega) (by omega) (by omega)⟩
set_option maxRecDepth 100000 in
set_option maxHeartbeats 4000000 in
theorem m12_keep {X : gX} {h : gH} {z m pl : Nat} {I : Nat → Int32} {A : Nat → Nat → Int32} {V : Nat → Int64} {L : List Int32} (hV : MdV X h m pl L I A V) : gM X yX12_keep cX12_keep 1 none (1, 0, 0) [.ref m] h z (fun r h' z' => r = none ∧ z' = z ∧ (∃ I' A', MdV X h' m pl L I' A' V ∧ MdK L (I 6) (I 7) I' A' ∧ I' 6 = I 6 ∧ I' 7 = I 7 ∧ MdQ I I' A A') ∧ OffM h h' m) gNoX := by
  obtain ⟨hM, hn, hA, hC⟩ := hV
  have hO : OffM h h m := OffM.rf
  refine gM.of px12 (Nat.le_of_ble_eq_true rfl) ?_
  intro F hE
  refine g_aload_n dX12_keep_0 rfl ?_
  refine g_getf fl12_40 hM.1 rfl dX12_keep_1 ?_
  refine g_iconst (nI 0) dX12_keep_4 (by decide) ?_
  refine g_aload_n dX12_keep_5 rfl ?_
  refine g_getf fl12_43 hM.1 rfl dX12_keep_6 ?_
  refine g_iconst (nI 0) dX12_keep_9 (by decide) ?_
  refine g_bipush (nI 40) dX12_keep_10 (by decide) ?_
  refine md_copy (q := 5) (r := 6) (by decide) (by decide) (by decide) (by decide) hM hO wcopy (by decide) (by decide) dX12_keep_12 (fun h hM hO => ?_)
  refine g_aload_n dX12_keep_15 rfl ?_
  refine g_aload_n dX12_keep_16 rfl ?_
  refine g_getf fl12_61 hM.1 rfl dX12_keep_17 ?_
  refine md_put8 fl12_94 hM hO dX12_keep_20 (fun h hM hO => ?_)
  refine g_aload_n dX12_keep_23 rfl ?_
  refine g_aload_n dX12_keep_24 rfl ?_
  refine g_getf fl12_97 hM.1 rfl dX12_keep_25 ?_
  refine md_put9 fl12_100 hM hO dX12_keep_28 (fun h hM hO => ?_)
  refine g_aload_n dX12_keep_31 rfl ?_
  refine g_aload_n dX12_keep_32 rfl ?_
  refine g_getf fl12_103 hM.1 rfl dX12_keep_33 ?_
  refine md_put10 fl12_106 hM hO dX12_keep_36 (fun h hM hO => ?_)
  exact g_vret hE (⟨rfl, rfl, ⟨_, _, ⟨hM, hn, fun i hi => (by rw [vu_ne (by decide)]; exact hA i hi), hC.elim Or.inl (fun q => Or.inr ⟨q.1, fun p hp => (by rw [vu_ne (by decide)]; exact q.2.1 p hp), fun p hp => (by rw [vu_ne (by decide)]; exact q.2.2 p hp)⟩)⟩, ⟨hn, rfl, rfl, rfl, fun i hi => (by rw [vu_same, if_pos (show i < 40 by omega)]; exact hA i hi)⟩, rfl, rfl, fun j hj => (by rw [upd_ne (by omega), upd_ne (by omega), upd_ne (by omega)]), fun k hk => vu_ne (by omega)⟩, hO⟩) dX12_keep_39
set_option maxRecDepth 100000 in
set_option maxHeartbeats 4000000 in
theorem m12_bringBack {X : gX} {h : gH} {z m pl : Nat} {I : Nat → Int32} {A : Nat → Nat → Int32} {V : Nat → Int64} {L : List Int32} {L1 : List Int32} {day car : Int32} (hV : MdV X h m pl L1 I A V) (hK : MdK L day car I A) : gM X yX12_bringBack cX12_bringBack 1 none (1, 0, 0) [.ref m] h z (fun r h' z' => r = none ∧ z' = z ∧ (∃ I' A', MdV X h' m pl L I' A' V ∧ I' 6 = day ∧ I' 7 = car ∧ MdK L day car I' A' ∧ MdQ I I' A A') ∧ OffM h h' m) gNoX := by
  obtain ⟨hM, hn, hA, -⟩ := hV
  obtain ⟨k1, k2, k3, k4, k5⟩ := hK
  have hO : OffM h h m := OffM.rf
  refine gM.of px12 (Nat.le_of_ble_eq_true rfl) ?_
  intro F hE
  refine g_aload_n dX12_bringBack_0 rfl ?_
  refine g_iconst (nI 0) dX12_bringBack_1 (by decide) ?_
  refine md_put11 rfl rfl fl12_71 hM hO dX12_bringBack_2 (fun h hM hO => ?_)
  refine g_aload_n dX12_bringBack_5 rfl ?_
  refine g_getf fl12_43 hM.1 rfl dX12_bringBack_6 ?_
  refine g_iconst (nI 0) dX12_bringBack_9 (by decide) ?_
  refine g_aload_n dX12_bringBack_10 rfl ?_
  refine g_getf fl12_40 hM.1 rfl dX12_bringBack_11 ?_
  refine g_iconst (nI 0) dX12_bringBack_14 (by decide) ?_
  refine g_bipush (nI 40) dX12_bringBack_15 (by decide) ?_
  refine md_copy (q := 6) (r := 5) (by decide) (by decide) (by decide) (by decide) hM hO wcopy (by decide) (by decide) dX12_bringBack_17 (fun h hM hO => ?_)
  refine g_aload_n dX12_bringBack_20 rfl ?_
  refine g_aload_n dX12_bringBack_21 rfl ?_
  refine g_getf fl12_94 hM.1 rfl dX12_bringBack_22 ?_
  rw [show upd I 11 (nI 0) 8 = nI L.length from k2]
  refine md_putn fl12_61 hM hO dX12_bringBack_25 (fun h hM hO => ?_)
  refine g_aload_n dX12_bringBack_28 rfl ?_
  refine g_aload_n dX12_bringBack_29 rfl ?_
  refine g_getf fl12_100 hM.1 rfl dX12_bringBack_30 ?_
  refine md_put6 fl12_97 hM hO dX12_bringBack_33 (fun h hM hO => ?_)
  refine g_aload_n dX12_bringBack_36 rfl ?_
  refine g_aload_n dX12_bringBack_37 rfl ?_
  refine g_getf fl12_106 hM.1 rfl dX12_bringBack_38 ?_
  refine md_put7 fl12_103 hM hO dX12_bringBack_41 (fun h hM hO => ?_)
  exact g_vret hE (⟨rfl, rfl, ⟨_, _, ⟨hM, k1, fun i hi => (by rw [vu_same, if_pos (show i < 40 by omega)]; exact k5 i hi), Or.inl rfl⟩, k3, k4, ⟨k1, k2, k3, k4, fun i hi => (by rw [vu_ne (by decide)]; exact k5 i hi)⟩, fun j hj => (by rw [upd_ne (by omega), upd_ne (by omega), upd_ne (by omega)]), fun k hk => vu_ne (by omega)⟩, hO⟩) dX12_bringBack_44
