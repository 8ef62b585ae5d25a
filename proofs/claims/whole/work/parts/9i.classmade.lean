/-! the class is made: orders, plans, tokens, parrots, the grammar, the whole; the tape grows; plans are exchanged -/
section GR
variable {X : gX} {F : gF} {cc : ByteArray} {nL : Nat} {own : String} {R : Nat × Nat × Nat} {k n pc : Nat} {lv : List (Option Value)} {st : List Value} {h : gH} {z : Nat}
theorem g_newR {t idx N : Nat} {C : String} (ht : (gT X)[t]? = some (X.2.2.1 t, .object C)) (w1 : Cond.classLink own idx C ∈ lw_tbl) (w2 : Cond.arrayOver (.object C) ∈ lw_tbl) (hN : N < 2 ^ 20) (hk : k + 1 ≤ R.2.1) (hn : n + N ≤ R.2.2) (d : decode cc pc = .ok (.anewarray idx, 3)) (kk : G X F cc nL own R (k + 1) (n + N) (pc + 3) lv (.ref z :: st) (gset h z (gRA X t N (fun _ => none))) (z + 1)) : G X F cc nL own R k n pc lv (.int (nI N) :: st) h z := by
  obtain ⟨p, e, Rm, s, m, args, below, meth, c, Q⟩ := F
  intro ok H locs ls hA hq hl
  have hK := gK ok.2.1 ok.2.2.1
  have hc : (nI N).toNatClampNeg = N := nI_clamp (by omega)
  obtain ⟨⟨A0, h0⟩, -⟩ := id ok.2.1
  have hov : va_AO C s := (va_AO.of (h0 _ w2)).moved ok.2.2.1.alike
  obtain ⟨kA, comp, k1, k2, k3, k4⟩ := (hK.2 t _ ht).2
  refine W.anew ok.1.1 ok.1.2.1 ok.1.2.2.2 (gword ok.2.1 ok.2.2.1 w1 rfl args) hov.use rfl d rfl (nI_pos (by omega)) (by rw [hc]; omega) (Nat.le_trans hk ok.2.2.2.2.1) (by rw [hc]; exact Nat.le_trans hn ok.2.2.2.2.2.1) fun cA kA2 comp2 f1 f2 f3 f4 => ?_
  have h3 : cA = X.2.2.1 t := Option.some.inj (f1.symm.trans k4)
  subst h3
  rw [hc]
  generalize hH1 : H.push ({ cls := X.2.2.1 t, slots := Array.replicate N .null, vm := .none } : Cell) = H1
  have z1 : H1.size = H.size + 1 := by rw [← hH1, Array.size_push]
  have e1 : H1[H.size]? = some (arrV (X.2.2.1 t) N (fun _ => .null)) := by rw [← hH1, Array.getElem?_push_size, ← arrV_new]
  have o1 : ∀ q : Nat, q < H.size → H1[q]? = H[q]? := fun q hq => by rw [← hH1, Array.getElem?_push, if_neg (Nat.ne_of_lt hq)]
  rw [hA.1] at z1 e1 o1 ⊢
  refine kk ok H1 locs ls (hA.new (by rw [z1]) o1 ?_) hq hl
  show H1[z]? = some (vp_cell _ _)
  rw [vp_cell_q]
  exact e1
end GR
theorem G.eqz {X : gX} {F : gF} {cc : ByteArray} {nL : Nat} {own : String} {R : Nat × Nat × Nat} {k n pc k2 n2 z2 : Nat} {lv : List (Option Value)} {st : List Value} {h : gH} {z : Nat} (e1 : z = z2) (e2 : k = k2) (e3 : n = n2) (kk : G X F cc nL own R k2 n2 pc lv st h z2) : G X F cc nL own R k n pc lv st h z := by subst e1 e2 e3; exact kk
theorem NewB.rf {h : gH} {a z : Nat} : NewB h h a z := fun _ _ _ => rfl
theorem NewB.put {h0 h : gH} {a z b : Nat} {e : va_E} (x : NewB h0 h a z) (hb : b = a ∨ z ≤ b) : NewB h0 (gset h b e) a z := fun q h1 h2 => (gset_ne (by omega)).trans (x q h1 h2)
theorem NewB.trans {h0 h1 h2 : gH} {a z b w : Nat} (x : NewB h0 h1 a z) (y : NewB h1 h2 b w) (hb : b = a ∨ z ≤ b) (hw : z ≤ w) : NewB h0 h2 a z := fun q q1 q2 => (y q (by omega) (by omega)).trans (x q q1 q2)
theorem WdB.putp {X : gX} {h : gH} {a b n : Nat} {f : Nat → Int32} {e : va_E} (hW : WdB X h a n f) (hd : b < a ∨ a + 2 ≤ b) : WdB X (gset h b e) a n f := hW.off (b := b) (m := 1) (fun q hq => gset_ne (by omega)) (by omega)
theorem WdB.newb {X : gX} {h h' : gH} {a b z n : Nat} {f : Nat → Int32} (hW : WdB X h a n f) (hN : NewB h h' b z) (h1 : a + 1 < z) (h2 : b < a ∨ a + 2 ≤ b) : WdB X h' a n f := ⟨(hN a (by omega) (by omega)).trans hW.1, (hN _ (by omega) (by omega)).trans hW.2⟩
theorem wao0 : Cond.arrayOver (.object RX7) ∈ lw_tbl := gm1 64 (by decide +kernel)
theorem wao1 : Cond.arrayOver (.object RX2) ∈ lw_tbl := gm1 105 (by decide +kernel)
theorem wao2 : Cond.arrayOver (.object RX9) ∈ lw_tbl := gm1 108 (by decide +kernel)
set_option maxRecDepth 100000 in
set_option maxHeartbeats 4000000 in
theorem m2_init {X : gX} {h : gH} {z a : Nat} {K : gKo} (hK : gCo X K) (ha : h a = some (.inr (1, [.null, .null, .int 0, .int 0, .int 0, .int 0]))) (hz : z = a + 1) : gMc X yX2_init cX2_init 1 (3, 2, 12) [.ref a] h z (fun r h' z' => r = none ∧ z' = z + 2 ∧ h' a = some (.inr (1, [.ref (a + 1), .ref (K.1 0), .int 0, .int 0, .int 0, .int 0])) ∧ WdB X h' (a + 1) 0 (fun _ => 0) ∧ NewB h h' a z) := by
  subst hz
  refine gMc.of px2 rfl (Nat.le_of_ble_eq_true rfl) ?_
  intro F hE hin
  refine g_aload_n dX2_init_0 rfl ?_
  refine g_obj woX2 wob.1 wob.2 (by decide) (Nat.le_of_ble_eq_true rfl) dX2_init_1 ?_
  refine g_aload_n dX2_init_4 rfl ?_
  refine g_new [.null, .int 0] cl7 (gm1 130 (by decide +kernel)) (gm1 109 (by decide +kernel)) (gm1 8 (by decide +kernel)) (by decide) (by decide) (by decide) dX2_init_5 ?_
  refine g_dup dX2_init_8 rfl ?_
  refine g_callN kX2_9 (m9_init gset_same rfl) rfl rfl (Nat.le_of_ble_eq_true rfl) (by decide) (by decide) (by decide) (by decide) dX2_init_9 ?_
  rintro v1 h4 z1 ⟨rfl, rfl, hW4, hN4⟩
  have k0 := (hN4 a (by omega) (by omega)).trans ((gset_ne (by omega)).trans ha)
  refine g_putF fl2_10 hin rfl (k0) rfl rfl rfl (Nat.le_of_ble_eq_true rfl) dX2_init_12 ?_
  refine g_aload_n dX2_init_15 rfl ?_
  refine g_gets (hK.1 0 (by decide)).1 wgX2_16 dX2_init_16 ?_
  refine g_putf fl2_22 (gset_same) rfl rfl rfl (Nat.le_of_ble_eq_true rfl) dX2_init_19 ?_
  exact g_cret hE ⟨rfl, rfl, gset_same, (hW4.putp (by omega)).putp (by omega), ((((NewB.rf.put (Or.inr (Nat.le_refl _))).trans hN4 (Or.inr (Nat.le_refl _)) (by omega)).put (Or.inl rfl)).put (Or.inl rfl))⟩ dX2_init_22 (by decide) (by decide)
set_option maxRecDepth 100000 in
set_option maxHeartbeats 4000000 in
theorem m4_init {X : gX} {h : gH} {z a : Nat} {K : gKo} (hK : gCo X K) (ha : h a = some (.inr (3, [.null, .null, .null, .int 0, .int 0, .int 0, .null]))) (hz : z = a + 1) : gMc X yX4_init cX4_init 2 (4, 68, 1208) [.ref a] h z (fun r h' z' => r = none ∧ z' = z + 68 ∧ PlB X h' a 0 0 0 (fun j => if j < 400 then some (K.1 0) else none) (fun _ => 0) (fun _ => 0) (fun _ _ => 0) (fun _ => K.1 0) (fun _ _ => 0) ∧ NewB h h' a z) := by
  subst hz
  refine gMc.of px4 rfl (Nat.le_of_ble_eq_true rfl) ?_
  intro F hE hin
  have lp3 : ∀ (N i : Nat) (h1 : gH) (f0 S f4 : Nat → Option Nat), i + N = 400 → h1 a = some (.inr (3, [.ref (a + 1), .ref (a + 2), .ref (a + 3), .int 0, .int 0, .int 0, .ref (a + 4)])) → h1 (a + 1) = some (gRA X 4 16 (f0)) → h1 (a + 2) = some (gRA X 2 400 (S)) → h1 (a + 3) = some (gIA X 400 (fun _ => 0)) → h1 (a + 4) = some (gRA X 3 8 (f4)) → (∀ j, j < 16 → f0 j = some (a + 21 + 3 * j)) → (∀ j, S j = if j < i then some (K.1 0) else none) → (∀ j, j < 8 → f4 j = some (a + 5 + 2 * j)) → (∀ j, j < 8 → WdB X h1 (a + 5 + 2 * j) 0 (fun _ => 0)) → (∀ j, j < 16 → h1 (a + 21 + 3 * j) = some (.inr (1, [.ref (a + 22 + 3 * j), .ref (K.1 0), .int 0, .int 0, .int 0, .int 0])) ∧ WdB X h1 (a + 22 + 3 * j) 0 (fun _ => 0)) → NewB h h1 a (a + 1) → G X F cX4_init 2 yX4_init.cls (4, 68, 1208) (68) (1208) 97 [some (.ref a), some (.int (nI i))] [] h1 (a + 69) := by
    intro N
    induction N with
    | zero =>
      intro i h1 f0 S f4 hi ha1 g0 g2 g3 g4 q0 qS q4 qW qO hN1
      have hiL : i = 400 := by omega
      subst hiL
      have hS : S = fun j => if j < 400 then some (K.1 0) else none := funext qS
      subst hS
      refine g_iload_n dX4_init_97 rfl ?_
      refine g_sipush (nI 400) dX4_init_98 (by decide) ?_
      refine g_icmp_geN 119 dX4_init_101 (by decide) (by omega) (by omega) (fun c_101 => ?_) (fun c_101 => ?_)
      · exact g_cret hE ⟨rfl, rfl, ⟨ha1, ⟨f0, g0, q0⟩, g2, g3, ⟨f4, g4, q4⟩, qW, qO⟩, hN1⟩ dX4_init_119 (by decide) (by decide)
      · exact absurd c_101 (by omega)
    | succ N ih =>
      intro i h1 f0 S f4 hi ha1 g0 g2 g3 g4 q0 qS q4 qW qO hN1
      refine g_iload_n dX4_init_97 rfl ?_
      refine g_sipush (nI 400) dX4_init_98 (by decide) ?_
      refine g_icmp_geN 119 dX4_init_101 (by decide) (by omega) (by omega) (fun c_101 => ?_) (fun c_101 => ?_)
      · exact absurd c_101 (by omega)
      · refine g_aload_n dX4_init_104 rfl ?_
        refine g_getf fl4_19 ha1 rfl dX4_init_105 ?_
        refine g_iload_n dX4_init_108 rfl ?_
        refine g_gets (hK.1 0 (by decide)).1 wgX4_35 dX4_init_109 ?_
        refine g_aastO g2 rfl (hK.1 0 (by decide)).2.1 (by omega) (by decide) dX4_init_112 ?_
        refine g_iincN dX4_init_113 rfl (by decide) rfl ?_
        refine g_goto 97 dX4_init_116 (by decide) ?_
        refine ih (i + 1) _ f0 _ f4 (by omega) ((gset_ne (by omega)).trans ha1) ((gset_ne (by omega)).trans g0) gset_same ((gset_ne (by omega)).trans g3) ((gset_ne (by omega)).trans g4) q0 (fun j => ?_) q4 (fun j hj => (qW j hj).putp (by omega)) (fun j hj => ⟨(gset_ne (by omega)).trans (qO j hj).1, (qO j hj).2.putp (by omega)⟩) (hN1.put (Or.inr (by omega)))
        by_cases hji : j = i
        · subst hji; rw [vu_same, if_pos (by omega)]
        · rw [vu_ne hji, qS j]
          by_cases hlt : j < i
          · rw [if_pos hlt, if_pos (by omega)]
          · rw [if_neg hlt, if_neg (by omega)]
  have lp2 : ∀ (N i : Nat) (h1 : gH) (f0 f4 : Nat → Option Nat), i + N = 16 → h1 a = some (.inr (3, [.ref (a + 1), .ref (a + 2), .ref (a + 3), .int 0, .int 0, .int 0, .ref (a + 4)])) → h1 (a + 1) = some (gRA X 4 16 (f0)) → h1 (a + 2) = some (gRA X 2 400 (fun _ => none)) → h1 (a + 3) = some (gIA X 400 (fun _ => 0)) → h1 (a + 4) = some (gRA X 3 8 (f4)) → (∀ j, j < i → f0 j = some (a + 21 + 3 * j)) → (∀ j, j < 8 → f4 j = some (a + 5 + 2 * j)) → (∀ j, j < 8 → WdB X h1 (a + 5 + 2 * j) 0 (fun _ => 0)) → (∀ j, j < i → h1 (a + 21 + 3 * j) = some (.inr (1, [.ref (a + 22 + 3 * j), .ref (K.1 0), .int 0, .int 0, .int 0, .int 0])) ∧ WdB X h1 (a + 22 + 3 * j) 0 (fun _ => 0)) → NewB h h1 a (a + 1) → G X F cX4_init 2 yX4_init.cls (4, 68, 1208) (20 + 3 * i) (920 + 18 * i) 70 [some (.ref a), some (.int (nI i))] [] h1 (a + 21 + 3 * i) := by
    intro N
    induction N with
    | zero =>
      intro i h1 f0 f4 hi ha1 g0 g2 g3 g4 q0 q4 qW qO hN1
      have hiL : i = 16 := by omega
      subst hiL
      refine g_iload_n dX4_init_70 rfl ?_
      refine g_bipush (nI 16) dX4_init_71 (by decide) ?_
      refine g_icmp_geN 95 dX4_init_73 (by decide) (by omega) (by omega) (fun c_73 => ?_) (fun c_73 => ?_)
      · refine g_iconst (nI 0) dX4_init_95 (by decide) ?_
        refine g_istore_n dX4_init_96 (by decide) rfl ?_
        exact lp3 400 0 h1 f0 _ f4 (by omega) ha1 g0 g2 g3 g4 q0 (fun j => by rw [if_neg (by omega)]) q4 qW qO hN1
      · exact absurd c_73 (by omega)
    | succ N ih =>
      intro i h1 f0 f4 hi ha1 g0 g2 g3 g4 q0 q4 qW qO hN1
      refine g_iload_n dX4_init_70 rfl ?_
      refine g_bipush (nI 16) dX4_init_71 (by decide) ?_
      refine g_icmp_geN 95 dX4_init_73 (by decide) (by omega) (by omega) (fun c_73 => ?_) (fun c_73 => ?_)
      · exact absurd c_73 (by omega)
      · refine g_aload_n dX4_init_76 rfl ?_
        refine g_getf fl4_11 ha1 rfl dX4_init_77 ?_
        refine g_iload_n dX4_init_80 rfl ?_
        refine g_new [.null, .null, .int 0, .int 0, .int 0, .int 0] cl1 (gm1 104 (by decide +kernel)) (gm1 125 (by decide +kernel)) (gm1 9 (by decide +kernel)) (by decide) (by dsimp only; omega) (by dsimp only; omega) dX4_init_81 ?_
        refine g_dup dX4_init_84 rfl ?_
        refine g_callN kX4_34 (m2_init hK gset_same rfl) rfl rfl (Nat.le_of_ble_eq_true rfl) (by decide) (by decide) (by dsimp only; omega) (by dsimp only; omega) dX4_init_85 ?_
        rintro v1 h4 z1 ⟨rfl, rfl, hO4, hW4, hN4⟩
        rw [show a + 21 + 3 * i + 1 = a + 22 + 3 * i by omega] at hO4 hW4
        have hNx : NewB h1 h4 (a + 21 + 3 * i) (a + 21 + 3 * i) := (NewB.rf.put (Or.inl rfl)).trans hN4 (Or.inl rfl) (by omega)
        refine g_aastN (v := a + 21 + 3 * i) ((hNx (a + 1) (by omega) (by omega)).trans g0) rfl hO4 rfl (by omega) (by decide) dX4_init_88 ?_
        refine g_iincN dX4_init_89 rfl (by decide) rfl ?_
        refine g_goto 70 dX4_init_92 (by decide) ?_
        refine G.eqz (show a + 21 + 3 * i + 1 + 2 = a + 21 + 3 * (i + 1) by omega) (show 20 + 3 * i + 1 + 2 = 20 + 3 * (i + 1) by omega) (show 920 + 18 * i + 6 + 12 = 920 + 18 * (i + 1) by omega) ?_
        refine ih (i + 1) _ _ f4 (by omega) ((gset_ne (by omega)).trans ((hNx a (by omega) (by omega)).trans ha1)) gset_same ((gset_ne (by omega)).trans ((hNx _ (by omega) (by omega)).trans g2)) ((gset_ne (by omega)).trans ((hNx _ (by omega) (by omega)).trans g3)) ((gset_ne (by omega)).trans ((hNx _ (by omega) (by omega)).trans g4)) (fun j hj => ?_) q4 (fun j hj => ((qW j hj).newb hNx (by omega) (by omega)).putp (by omega)) (fun j hj => ?_) ((hN1.trans hNx (Or.inr (by omega)) (by omega)).put (Or.inr (by omega)))
        · by_cases hji : j = i
          · subst hji; exact vu_same
          · rw [vu_ne hji]; exact q0 j (by omega)
        · by_cases hji : j = i
          · subst hji; exact ⟨(gset_ne (by omega)).trans hO4, hW4.putp (by omega)⟩
          · obtain ⟨b1, b2⟩ := qO j (by omega)
            exact ⟨(gset_ne (by omega)).trans ((hNx _ (by omega) (by omega)).trans b1), (b2.newb hNx (by omega) (by omega)).putp (by omega)⟩
  have lp1 : ∀ (N i : Nat) (h1 : gH) (f4 : Nat → Option Nat), i + N = 8 → h1 a = some (.inr (3, [.ref (a + 1), .ref (a + 2), .ref (a + 3), .int 0, .int 0, .int 0, .ref (a + 4)])) → h1 (a + 1) = some (gRA X 4 16 (fun _ => none)) → h1 (a + 2) = some (gRA X 2 400 (fun _ => none)) → h1 (a + 3) = some (gIA X 400 (fun _ => 0)) → h1 (a + 4) = some (gRA X 3 8 (f4)) → (∀ j, j < i → f4 j = some (a + 5 + 2 * j)) → (∀ j, j < i → WdB X h1 (a + 5 + 2 * j) 0 (fun _ => 0)) → NewB h h1 a (a + 1) → G X F cX4_init 2 yX4_init.cls (4, 68, 1208) (4 + 2 * i) (824 + 12 * i) 43 [some (.ref a), some (.int (nI i))] [] h1 (a + 5 + 2 * i) := by
    intro N
    induction N with
    | zero =>
      intro i h1 f4 hi ha1 g0 g2 g3 g4 q4 qW hN1
      have hiL : i = 8 := by omega
      subst hiL
      refine g_iload_n dX4_init_43 rfl ?_
      refine g_bipush (nI 8) dX4_init_44 (by decide) ?_
      refine g_icmp_geN 68 dX4_init_46 (by decide) (by omega) (by omega) (fun c_46 => ?_) (fun c_46 => ?_)
      · refine g_iconst (nI 0) dX4_init_68 (by decide) ?_
        refine g_istore_n dX4_init_69 (by decide) rfl ?_
        exact lp2 16 0 h1 _ f4 (by omega) ha1 g0 g2 g3 g4 (fun j hj => absurd hj (Nat.not_lt_zero _)) q4 qW (fun j hj => absurd hj (Nat.not_lt_zero _)) hN1
      · exact absurd c_46 (by omega)
    | succ N ih =>
      intro i h1 f4 hi ha1 g0 g2 g3 g4 q4 qW hN1
      refine g_iload_n dX4_init_43 rfl ?_
      refine g_bipush (nI 8) dX4_init_44 (by decide) ?_
      refine g_icmp_geN 68 dX4_init_46 (by decide) (by omega) (by omega) (fun c_46 => ?_) (fun c_46 => ?_)
      · exact absurd c_46 (by omega)
      · refine g_aload_n dX4_init_49 rfl ?_
        refine g_getf fl4_29 ha1 rfl dX4_init_50 ?_
        refine g_iload_n dX4_init_53 rfl ?_
        refine g_new [.null, .int 0] cl7 (gm1 107 (by decide +kernel)) (gm1 109 (by decide +kernel)) (gm1 8 (by decide +kernel)) (by decide) (by dsimp only; omega) (by dsimp only; omega) dX4_init_54 ?_
        refine g_dup dX4_init_57 rfl ?_
        refine g_callN kX4_33 (m9_init gset_same rfl) rfl rfl (Nat.le_of_ble_eq_true rfl) (by decide) (by decide) (by dsimp only; omega) (by dsimp only; omega) dX4_init_58 ?_
        rintro v1 h4 z1 ⟨rfl, rfl, hW4, hN4⟩
        have hNx : NewB h1 h4 (a + 5 + 2 * i) (a + 5 + 2 * i) := (NewB.rf.put (Or.inl rfl)).trans hN4 (Or.inl rfl) (by omega)
        refine g_aastN (v := a + 5 + 2 * i) ((hNx (a + 4) (by omega) (by omega)).trans g4) rfl hW4.1 rfl (by omega) (by decide) dX4_init_61 ?_
        refine g_iincN dX4_init_62 rfl (by decide) rfl ?_
        refine g_goto 43 dX4_init_65 (by decide) ?_
        refine G.eqz (show a + 5 + 2 * i + 1 + 1 = a + 5 + 2 * (i + 1) by omega) (show 4 + 2 * i + 1 + 1 = 4 + 2 * (i + 1) by omega) (show 824 + 12 * i + 2 + 10 = 824 + 12 * (i + 1) by omega) ?_
        refine ih (i + 1) _ _ (by omega) ((gset_ne (by omega)).trans ((hNx a (by omega) (by omega)).trans ha1)) ((gset_ne (by omega)).trans ((hNx _ (by omega) (by omega)).trans g0)) ((gset_ne (by omega)).trans ((hNx _ (by omega) (by omega)).trans g2)) ((gset_ne (by omega)).trans ((hNx _ (by omega) (by omega)).trans g3)) gset_same (fun j hj => ?_) (fun j hj => ?_) ((hN1.trans hNx (Or.inr (by omega)) (by omega)).put (Or.inr (by omega)))
        · by_cases hji : j = i
          · subst hji; exact vu_same
          · rw [vu_ne hji]; exact q4 j (by omega)
        · by_cases hji : j = i
          · subst hji; exact hW4.putp (by omega)
          · exact ((qW j (by omega)).newb hNx (by omega) (by omega)).putp (by omega)
  refine g_aload_n dX4_init_0 rfl ?_
  refine g_obj woX4 wob.1 wob.2 (by decide) (Nat.le_of_ble_eq_true rfl) dX4_init_1 ?_
  refine g_aload_n dX4_init_4 rfl ?_
  refine g_bipush (nI 16) dX4_init_5 (by decide) ?_
  refine g_newR (t := 4) rfl (gm1 104 (by decide +kernel)) wao1 (by decide) (by decide) (by decide) dX4_init_7 ?_
  refine g_putF fl4_11 hin rfl ((gset_ne (by omega)).trans ha) rfl rfl rfl (Nat.le_of_ble_eq_true rfl) dX4_init_10 ?_
  refine g_aload_n dX4_init_13 rfl ?_
  refine g_sipush (nI 400) dX4_init_14 (by decide) ?_
  refine g_newR (t := 2) rfl (gm1 106 (by decide +kernel)) wao0 (by decide) (by decide) (by decide) dX4_init_17 ?_
  refine g_putF fl4_19 hin rfl ((gset_ne (by omega)).trans gset_same) rfl rfl rfl (Nat.le_of_ble_eq_true rfl) dX4_init_20 ?_
  refine g_aload_n dX4_init_23 rfl ?_
  refine g_sipush (nI 400) dX4_init_24 (by decide) ?_
  refine g_newI wai (by decide) (by decide) (by decide) dX4_init_27 ?_
  refine g_putF fl4_23 hin rfl ((gset_ne (by omega)).trans gset_same) rfl rfl rfl (Nat.le_of_ble_eq_true rfl) dX4_init_29 ?_
  refine g_aload_n dX4_init_32 rfl ?_
  refine g_bipush (nI 8) dX4_init_33 (by decide) ?_
  refine g_newR (t := 3) rfl (gm1 107 (by decide +kernel)) wao2 (by decide) (by decide) (by decide) dX4_init_35 ?_
  refine g_putF fl4_29 hin rfl ((gset_ne (by omega)).trans gset_same) rfl rfl rfl (Nat.le_of_ble_eq_true rfl) dX4_init_38 ?_
  refine g_iconst (nI 0) dX4_init_41 (by decide) ?_
  refine g_istore_n dX4_init_42 (by decide) rfl ?_
  refine lp1 8 0 _ (fun _ => none) (by omega) gset_same ?_ ?_ ?_ ?_ (fun j hj => absurd hj (Nat.not_lt_zero _)) (fun j hj => absurd hj (Nat.not_lt_zero _)) ?_
  · repeat (first | exact gset_same | refine (gset_ne (by omega)).trans ?_)
  · repeat (first | exact gset_same | refine (gset_ne (by omega)).trans ?_)
  · repeat (first | exact gset_same | refine (gset_ne (by omega)).trans ?_)
  · repeat (first | exact gset_same | refine (gset_ne (by omega)).trans ?_)
  · exact (((((((NewB.rf.put (Or.inr (by omega))).put (Or.inl rfl)).put (Or.inr (by omega))).put (Or.inl rfl)).put (Or.inr (by omega))).put (Or.inl rfl)).put (Or.inr (by omega))).put (Or.inl rfl)
set_option maxRecDepth 100000 in
set_option maxHeartbeats 4000000 in
theorem m8_init {X : gX} {h : gH} {z a : Nat} {K : gKo} (hK : gCo X K) (ha : h a = some (.inr (6, [.null, .null, .null, .null, .int 0, .int 0, .null, .int 0, .int 0]))) (hz : z = a + 1) : gMc X yX8_init cX8_init 2 (3, 5, 3205) [.ref a] h z (fun r h' z' => r = none ∧ z' = z + 5 ∧ (∃ kf, TkT X h' a 0 (fun _ => 0) kf (fun _ => 0) (fun _ => 0) 0 0 (K.1 0) 0 0) ∧ NewB h h' a z) := by
  subst hz
  refine gMc.of px8 rfl (Nat.le_of_ble_eq_true rfl) ?_
  intro F hE hin
  have lp : ∀ (N i : Nat) (h1 : gH) (kf : Nat → Option Nat), i + N = 401 → TkT X h1 a 0 (fun _ => 0) kf (fun _ => 0) (fun _ => 0) 0 0 (K.1 0) 0 0 → NewB h h1 a (a + 1) → G X F cX8_init 2 yX8_init.cls (3, 5, 3205) 5 3205 52 [some (.ref a), some (.int (nI i))] [] h1 (a + 6) := by
    intro N
    induction N with
    | zero =>
      intro i h1 kf hi hT hN1
      have hiL : i = 401 := by omega
      subst hiL
      refine g_iload_n dX8_init_52 rfl ?_
      refine g_sipush (nI 400) dX8_init_53 (by decide) ?_
      refine g_icmp_gtN 74 dX8_init_56 (by decide) (by omega) (by omega) (fun c_56 => ?_) (fun c_56 => ?_)
      · exact g_cret hE ⟨rfl, rfl, ⟨kf, hT⟩, hN1⟩ dX8_init_74 (by decide) (by decide)
      · exact absurd c_56 (by omega)
    | succ N ih =>
      intro i h1 kf hi hT hN1
      refine g_iload_n dX8_init_52 rfl ?_
      refine g_sipush (nI 400) dX8_init_53 (by decide) ?_
      refine g_icmp_gtN 74 dX8_init_56 (by decide) (by omega) (by omega) (fun c_56 => ?_) (fun c_56 => ?_)
      · exact absurd c_56 (by omega)
      · refine g_aload_n dX8_init_59 rfl ?_
        refine g_getf fl8_20 hT.1.1 rfl dX8_init_60 ?_
        refine g_iload_n dX8_init_63 rfl ?_
        refine g_gets (hK.1 0 (by decide)).1 wgX8_31 dX8_init_64 ?_
        refine g_aastO hT.1.2.1 rfl (hK.1 0 (by decide)).2.1 (by omega) (by decide) dX8_init_67 ?_
        refine g_iincN dX8_init_68 rfl (by decide) rfl ?_
        refine g_goto 52 dX8_init_71 (by decide) ?_
        exact ih (i + 1) _ _ (by omega) ⟨⟨(gset_ne (by omega)).trans hT.1.1, gset_same, (gset_ne (by omega)).trans hT.1.2.2.1, (gset_ne (by omega)).trans hT.1.2.2.2⟩, hT.2.off (b := a + 3) (m := 1) (fun q hq => gset_ne (by omega)) (by omega)⟩ (hN1.put (Or.inr (by omega)))
  refine g_aload_n dX8_init_0 rfl ?_
  refine g_obj woX8 wob.1 wob.2 (by decide) (Nat.le_of_ble_eq_true rfl) dX8_init_1 ?_
  refine g_aload_n dX8_init_4 rfl ?_
  refine g_new [.null, .int 0] cl5 (gm1 47 (by decide +kernel)) (gm1 48 (by decide +kernel)) (gm1 4 (by decide +kernel)) (by decide) (by decide) (by decide) dX8_init_5 ?_
  refine g_dup dX8_init_8 rfl ?_
  refine g_callN kX8_11 (m6_init gset_same rfl) rfl rfl (Nat.le_of_ble_eq_true rfl) (by decide) (by decide) (by decide) (by decide) dX8_init_9 ?_
  rintro v1 h4 z1 ⟨rfl, rfl, hT4, hN4⟩
  have k0 := (hN4 a (by omega) (by omega)).trans ((gset_ne (by omega)).trans ha)
  have hNx : NewB h h4 a (a + 1) := (NewB.rf.put (Or.inr (Nat.le_refl _))).trans hN4 (Or.inr (Nat.le_refl _)) (by omega)
  refine g_putF fl8_12 hin rfl (k0) rfl rfl rfl (Nat.le_of_ble_eq_true rfl) dX8_init_12 ?_
  refine g_aload_n dX8_init_15 rfl ?_
  refine g_sipush (nI 401) dX8_init_16 (by decide) ?_
  refine g_newR (t := 2) rfl (gm1 63 (by decide +kernel)) wao0 (by decide) (by decide) (by decide) dX8_init_19 ?_
  refine g_putF fl8_20 hin rfl ((gset_ne (by omega)).trans gset_same) rfl rfl rfl (Nat.le_of_ble_eq_true rfl) dX8_init_22 ?_
  refine g_aload_n dX8_init_25 rfl ?_
  refine g_sipush (nI 401) dX8_init_26 (by decide) ?_
  refine g_newI wai (by decide) (by decide) (by decide) dX8_init_29 ?_
  refine g_putF fl8_24 hin rfl ((gset_ne (by omega)).trans gset_same) rfl rfl rfl (Nat.le_of_ble_eq_true rfl) dX8_init_31 ?_
  refine g_aload_n dX8_init_34 rfl ?_
  refine g_sipush (nI 401) dX8_init_35 (by decide) ?_
  refine g_newI wai (by decide) (by decide) (by decide) dX8_init_38 ?_
  refine g_putF fl8_28 hin rfl ((gset_ne (by omega)).trans gset_same) rfl rfl rfl (Nat.le_of_ble_eq_true rfl) dX8_init_40 ?_
  refine g_aload_n dX8_init_43 rfl ?_
  refine g_gets (hK.1 0 (by decide)).1 wgX8_31 dX8_init_44 ?_
  refine g_putf fl8_35 (gset_same) rfl rfl rfl (Nat.le_of_ble_eq_true rfl) dX8_init_47 ?_
  refine g_iconst (nI 0) dX8_init_50 (by decide) ?_
  refine g_istore_n dX8_init_51 (by decide) rfl ?_
  refine lp 401 0 _ (fun _ => none) (by omega) ⟨⟨gset_same, ?_, ?_, ?_⟩, ?_, ?_⟩ ?_
  · repeat (first | exact gset_same | refine (gset_ne (by omega)).trans ?_)
  · repeat (first | exact gset_same | refine (gset_ne (by omega)).trans ?_)
  · repeat (first | exact gset_same | refine (gset_ne (by omega)).trans ?_)
  · repeat (first | exact hT4.1 | refine (gset_ne (by omega)).trans ?_)
  · repeat (first | exact hT4.2 | refine (gset_ne (by omega)).trans ?_)
  · exact (((((((hNx.put (Or.inl rfl)).put (Or.inr (by omega))).put (Or.inl rfl)).put (Or.inr (by omega))).put (Or.inl rfl)).put (Or.inr (by omega))).put (Or.inl rfl)).put (Or.inl rfl)
set_option maxRecDepth 100000 in
set_option maxHeartbeats 4000000 in
theorem m3_init {X : gX} {h : gH} {z a : Nat} (ha : h a = some (.inr (2, [.null, .int 0, .int 0, .null, .int 0]))) (hz : z = a + 1) : gMc X yX3_init cX3_init 1 (3, 7, 273) [.ref a] h z (fun r h' z' => r = none ∧ z' = z + 7 ∧ PaT X h' a [] 0 0 ∧ NewB h h' a z) := by
  subst hz
  refine gMc.of px3 rfl (Nat.le_of_ble_eq_true rfl) ?_
  intro F hE hin
  refine g_aload_n dX3_init_0 rfl ?_
  refine g_obj woX3 wob.1 wob.2 (by decide) (Nat.le_of_ble_eq_true rfl) dX3_init_1 ?_
  refine g_aload_n dX3_init_4 rfl ?_
  refine g_new [.null, .int 0, .null, .null, .null, .null, .int 0, .int 0, .int 0] cl4 (gm1 218 (by decide +kernel)) (gm1 219 (by decide +kernel)) (gm1 11 (by decide +kernel)) (by decide) (by decide) (by decide) dX3_init_5 ?_
  refine g_dup dX3_init_8 rfl ?_
  refine g_callN kX3_11 (m5_init gset_same rfl) rfl rfl (Nat.le_of_ble_eq_true rfl) (by decide) (by decide) (by decide) (by decide) dX3_init_9 ?_
  rintro v1 h4 z1 ⟨rfl, rfl, hS4, hN4⟩
  have k0 := (hN4 a (by omega) (by omega)).trans ((gset_ne (by omega)).trans ha)
  have hNx : NewB h h4 a (a + 1) := (NewB.rf.put (Or.inr (Nat.le_refl _))).trans hN4 (Or.inr (Nat.le_refl _)) (by omega)
  refine g_putF fl3_12 hin rfl (k0) rfl rfl rfl (Nat.le_of_ble_eq_true rfl) dX3_init_12 ?_
  refine g_aload_n dX3_init_15 rfl ?_
  refine g_bipush (nI 64) dX3_init_16 (by decide) ?_
  refine g_newI wai (by decide) (by decide) (by decide) dX3_init_18 ?_
  refine g_putF fl3_18 hin rfl ((gset_ne (by omega)).trans gset_same) rfl rfl rfl (Nat.le_of_ble_eq_true rfl) dX3_init_20 ?_
  exact g_cret hE ⟨rfl, rfl, ⟨[], fun _ => 0, ⟨gset_same, (gset_ne (by omega)).trans gset_same⟩, trivial, Nat.zero_le _, ((hS4.putp (by omega)).putp (by omega)).putp (by omega)⟩, ((hNx.put (Or.inl rfl)).put (Or.inr (by omega))).put (Or.inl rfl)⟩ dX3_init_23 (by decide) (by decide)
