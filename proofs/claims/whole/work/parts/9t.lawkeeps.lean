/-! the law: what its loop keeps, and what its calls keep of it -/
theorem PlB.eqb {X : gX} {h h' : gH} {p nw no ns : Nat} {S : Nat → Option Nat} {g : Nat → Int32} {wn : Nat → Nat} {wf : Nat → Nat → Int32} {oA : Nat → Nat} {oJ : Nat → Nat → Int32} (hP : PlB X h p nw no ns S g wn wf oA oJ) (hq : ∀ x, p ≤ x → x < p + 69 → h' x = h x) : PlB X h' p nw no ns S g wn wf oA oJ := by
  obtain ⟨h1, ⟨f2, h2, g2⟩, h3, h4, ⟨f5, h5, g5⟩, h6, h7⟩ := hP
  exact ⟨(hq _ (by omega) (by omega)).trans h1, ⟨f2, (hq _ (by omega) (by omega)).trans h2, g2⟩, (hq _ (by omega) (by omega)).trans h3, (hq _ (by omega) (by omega)).trans h4, ⟨f5, (hq _ (by omega) (by omega)).trans h5, g5⟩, fun i hi => ⟨(hq _ (by omega) (by omega)).trans (h6 i hi).1, (hq _ (by omega) (by omega)).trans (h6 i hi).2⟩, fun k hk => ⟨(hq _ (by omega) (by omega)).trans (h7 k hk).1, (hq _ (by omega) (by omega)).trans (h7 k hk).2.1, (hq _ (by omega) (by omega)).trans (h7 k hk).2.2⟩⟩
theorem ClsS.eqo {X : gX} {K : gKo} {h h' : gH} {o n : Nat} {f : Nat → Int32} {P : PlM} {L : List Int32} {day car err : Int32} (hC : ClsS X K h o n f P L day car err) (hq : ∀ x, o ≤ x → x < o + 162 → h' x = h x) : ClsS X K h' o n f P L day car err := by
  obtain ⟨pp, sp, ep, dp, er, ir, h0, hpp, hg, ⟨kf, S, T, la, kt, kd, st, en, hT⟩, hP, ⟨nw, no, ns, S2, g2, wn, wf, oA, oJ, hSp⟩, hPa, ⟨L1, d1, c1, hTr⟩, hok, hn⟩ := hC
  exact ⟨pp, sp, ep, dp, er, ir, (hq _ (by omega) (by omega)).trans h0, hpp, (hq _ (by omega) (by omega)).trans hg, ⟨kf, S, T, la, kt, kd, st, en, ⟨(hq _ (by omega) (by omega)).trans hT.1.1, (hq _ (by omega) (by omega)).trans hT.1.2.1, (hq _ (by omega) (by omega)).trans hT.1.2.2.1, (hq _ (by omega) (by omega)).trans hT.1.2.2.2⟩, (hq _ (by omega) (by omega)).trans hT.2.1, (hq _ (by omega) (by omega)).trans hT.2.2⟩, hP.eqb (fun x a b => hq x (by omega) (by omega)), ⟨nw, no, ns, S2, g2, wn, wf, oA, oJ, hSp.eqb (fun x a b => hq x (by omega) (by omega))⟩, hPa.eqb (fun x a b => hq x (by omega) (by omega)), ⟨L1, d1, c1, hTr.eqb (fun x a b => hq x (by omega) (by omega))⟩, hok, hn⟩
theorem RefS.eqm {X : gX} {h h' : gH} {m pl n : Nat} {f : Nat → Int32} {P : PlM} {L : List Int32} {day car err t : Int32} (hR : RefS X h m pl n f P L day car err t) (h1 : ∀ x, m ≤ x → x < m + 25 → h' x = h x) (h2 : ∀ x, pl ≤ x → x < pl + 12 → h' x = h x) : RefS X h' m pl n f P L day car err t := by
  obtain ⟨I, A, V, hV, hi, ha, ⟨J, B, U, W, hQ, hr⟩, hok, hpl⟩ := hR
  refine ⟨I, A, V, ⟨⟨(h1 _ (by omega) (by omega)).trans hV.1.1, fun k hk => ?_, (h1 _ (by omega) (by omega)).trans hV.1.2.2⟩, hV.2⟩, hi, ha, ⟨J, B, U, W, ⟨(h2 _ (by omega) (by omega)).trans hQ.1, fun k hk => ?_, (h2 _ (by omega) (by omega)).trans hQ.2.2.1, (h2 _ (by omega) (by omega)).trans hQ.2.2.2⟩, hr⟩, hok, hpl⟩
  · have := mo_in k hk
    exact (h1 _ (by omega) (by omega)).trans (hV.1.2.1 k hk)
  · have := po_in k hk
    exact (h2 _ (by omega) (by omega)).trans (hQ.2.1 k hk)
theorem RefS.at {X : gX} {h : gH} {m pl n : Nat} {f : Nat → Int32} {P : PlM} {L : List Int32} {day car err t : Int32} (hR : RefS X h m pl n f P L day car err t) : ∃ fs, h m = some (.inr (10, fs)) := by
  obtain ⟨I, A, V, hV, hr⟩ := hR
  exact ⟨_, hV.1.1⟩
/-- class and reference side by side, out behind them -/
def LwS (X : gX) (K : gKo) (o : Nat) (h : gH) (z pl n : Nat) (f : Nat → Int32) (P : PlM) (L : List Int32) (day car err t : Int32) (g : Nat → Int64) : Prop := ClsS X K h o n f P L day car err ∧ RefS X h (o + 162) pl n f P L day car err t ∧ h (o + 187) = some (gJA X 1 g) ∧ o + 188 ≤ z ∧ pl + 12 ≤ z ∧ (pl = o + 164 ∨ o + 187 < pl)
def LwI (X : gX) (K : gKo) (o : Nat) (h : gH) (z : Nat) : Prop := ∃ pl n f P L day car err t g, LwS X K o h z pl n f P L day car err t g
abbrev lwR : Nat × Nat × Nat := (60, 601024, 7293034)
theorem and63 (x : Int32) : ∃ j, j < 64 ∧ x &&& nI 63 = nI j := by
  refine ⟨(x.toBitVec &&& 63#32).toNat, ?_, ?_⟩
  · rw [BitVec.toNat_and]
    exact Nat.lt_of_le_of_lt Nat.and_le_right (by decide)
  · apply Int32.toBitVec_inj.mp
    apply BitVec.eq_of_toNat_eq
    have e : (nI (x.toBitVec &&& 63#32).toNat).toBitVec = BitVec.ofNat 32 (x.toBitVec &&& 63#32).toNat := rfl
    rw [e, BitVec.ofNat_toNat, BitVec.setWidth_eq]
    rfl
theorem sub6_int {c : Nat} (hc : c ≤ 3072) : (nI c - nI 6).toInt = (c : Int) - 6 := by
  by_cases h : 6 ≤ c
  · rw [pk_sub h, nI_toInt (by omega)]; omega
  · have h9 : ∀ c, c < 6 → (nI c - nI 6).toInt = (c : Int) - 6 := by decide
    exact h9 c (by omega)
theorem lcmp_self (x : Int64) : lg_cmp x x = 0 := by
  unfold lg_cmp
  have h : ¬ x < x := fun w => by rw [Int64.lt_iff_toInt_lt] at w; omega
  simp [h]
theorem G.room {X : gX} {F : gF} {cc : ByteArray} {nL : Nat} {own : String} {R : Nat × Nat × Nat} {k n pc k2 n2 : Nat} {lv : List (Option Value)} {st : List Value} {h : gH} {z : Nat} (e1 : k ≤ k2) (e2 : n ≤ n2) (kk : G X F cc nL own R k2 n2 pc lv st h z) : G X F cc nL own R k n pc lv st h z := by
  obtain ⟨p, e, Rm, s, m, args, below, meth, c, Q⟩ := F
  intro ok H locs ls hA hq hl
  exact W.widen e1 e2 (kk ok H locs ls hA hq hl)
theorem brV_26 (c : Nat → Nat) : brV 1 (msU c 26) = brV 0 (msU c 26) := by
  have hu : msU c 26 = match msU c 25 with
    | none => some 25
    | some b => if c b < c 25 then some 25 else some b := rfl
  rw [hu]
  cases msU c 25 with
  | none => rfl
  | some b =>
    show brV 1 (if c b < c 25 then some 25 else some b) = brV 0 (if c b < c 25 then some 25 else some b)
    split <;> rfl
