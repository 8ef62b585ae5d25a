/-! the reference: the mean of what is shared, the checksum -/
theorem w1069m : Cond.constantLong RX12 423 1069 ∈ lw_tbl := gm8 93 (by decide +kernel)
theorem w31m : Cond.constantLong RX12 425 31 ∈ lw_tbl := gm8 94 (by decide +kernel)
theorem fp_ok1 : ∀ n, n < 41 → ∀ s, s < n * n + 1 → n = 0 ∨ (FP.ddiv (FP.i2d (nI s)) (FP.i2d (nI n))) &&& 0x7fffffffffffffff ≤ 0x7ff0000000000000 := by decide +kernel
theorem fp_ok {n s : Nat} (h : n ≠ 0) (hn : n ≤ 40) (hs : s ≤ n * n) : vf_n64 (FP.ddiv (FP.i2d (nI s)) (FP.i2d (nI n))) := by
  rcases fp_ok1 n (by omega) s (by omega) with e | e
  · exact absurd e h
  · exact e
/-- the mean -/
def meD (L : List Int32) : UInt64 := if L.length = 0 then FP.dconst0 else FP.ddiv (FP.i2d (nI (sms L))) (FP.i2d (nI L.length))
theorem MdV.re {X : gX} {h h' : gH} {m pl : Nat} {L : List Int32} {I I' : Nat → Int32} {A A' : Nat → Nat → Int32} {V : Nat → Int64} (hV : MdV X h m pl L I A V) (hM : MdB X h' m L.length pl I' A' V) (hE : MdE I I' A A') (h11 : I' 11 = 1) (hC : MdC L A') : MdV X h' m pl L I' A' V :=
  ⟨hM, hV.2.1, fun i hi => by rw [hE.2 5 (by decide) (by decide)]; exact hV.2.2.1 i hi, Or.inr ⟨h11, hC⟩⟩
/-- nothing below z but the reference's own cells has changed -/
def OffZ (h h' : gH) (m z : Nat) : Prop := ∀ q : Nat, q < z → q ≠ m → q ≠ m + 1 → (q < m + 14 ∨ m + 25 ≤ q) → h' q = h q
theorem OffM.toZ {h h' : gH} {m z : Nat} (x : OffM h h' m) : OffZ h h' m z := fun q _ a b c => x q a b c
theorem OffZ.trans {h0 h1 h2 : gH} {m z : Nat} (x : OffZ h0 h1 m z) (y : OffZ h1 h2 m z) : OffZ h0 h2 m z := fun q d a b c => (y q d a b c).trans (x q d a b c)
theorem OffZ.new {h : gH} {m z : Nat} {e : va_E} : OffZ h (gset h z e) m z := fun q d _ _ _ => gset_ne (by omega)
theorem MdB.putz {X : gX} {h : gH} {m n pl b : Nat} {I : Nat → Int32} {A : Nat → Nat → Int32} {V : Nat → Int64} {e : va_E} (hM : MdB X h m n pl I A V) (hb : m + 25 ≤ b) : MdB X (gset h b e) m n pl I A V :=
  ⟨(gset_ne (by omega)).trans hM.1, fun k hk => (gset_ne (by have := mo_in k hk; omega)).trans (hM.2.1 k hk), (gset_ne (by omega)).trans hM.2.2⟩
theorem MpP.putz {X : gX} {h : gH} {q b : Nat} {P : PlM} {e : va_E} (hP : MpP X h q P) (hb : q + 12 ≤ b) : MpP X (gset h b e) q P :=
  hP.off (m := b) (fun x a _ _ => gset_ne a) (Or.inl hb)
/-- one more number for a checksum -/
def jn (d : Int64) (x : Int32) : Int64 := d * 31 + x.toInt64
def dgF (g : Nat → Int32) : Nat → Int64
  | 0 => 1069
  | k + 1 => jn (dgF g k) (g k)
def dgA (L : List Int32) (d : Int64) : Nat → Int64
  | 0 => d
  | k + 1 => jn (jn (dgA L d k) (lt L k)) (nI (rk L k))
def dgB (L : List Int32) (d : Int64) : Nat → Int64
  | 0 => d
  | k + 1 => jn (dgB L d k) (nI (shr L k))
def dgC (L : List Int32) (Ws : Nat → List Int32) (d : Int64) : Nat → Int64
  | 0 => d
  | k + 1 => jn (jn (jn (jn (dgC L Ws d k) (nI (cnt (stands L (Ws k)) L.length))) (oI (fstA (stands L (Ws k)) L.length 0))) (oI (lstA (stands L (Ws k)) L.length))) (nI (hv L (Ws k)))
/-- the first ten numbers -/
def dgG (P : PlM) (L : List Int32) (day car : Int32) (k : Nat) : Int32 := [nI L.length, nI P.1.1, day, car, nI (akU L L.length), nI (lon L), rpI L, nI (rcI L), nI (ese L), oI (msU (fun i => cnt (stands L (wl (P.1.2 i))) L.length) P.1.1)].getD k 0
def dgV (P : PlM) (L : List Int32) (day car : Int32) : Int64 := dgC L (fun i => wl (P.1.2 i)) (dgB L (dgA L (dgF (dgG P L day car) 10) L.length) L.length) P.1.1
theorem dgF_congr {f g : Nat → Int32} : ∀ {k : Nat}, (∀ i, i < k → f i = g i) → dgF f k = dgF g k := by
  intro k
  induction k with
  | zero => intro _; rfl
  | succ k ih => intro h; show jn (dgF f k) (f k) = jn (dgF g k) (g k); rw [ih (fun i hi => h i (by omega)), h k (by omega)]
set_option maxRecDepth 100000 in
set_option maxHeartbeats 4000000 in
theorem mR_meanShared {X : gX} {h : gH} {z m pl n : Nat} {f : Nat → Int32} {P : PlM} {L : List Int32} {day car err t : Int32} (hR : RefS X h m pl n f P L day car err t) : gM X yX12_meanShared cX12_meanShared 3 (some .double) (6, 0, 0) [.ref m] h z (fun r h' z' => r = some (.double (meD L)) ∧ z' = z ∧ RefS X h' m pl n f P L day car err 0 ∧ OffM h h' m) gNoX := by
  obtain ⟨I, A, V, hV, ⟨i0, i1, i2, i6, i7⟩, ha, hP, hok, hpl⟩ := hR
  have hl := hV.2.1
  have hpx : pl + 12 ≤ m ∨ pl = m + 2 ∨ m + 25 ≤ pl := Or.inr hpl
  have hi : I 1 = nI n ∧ I 2 = err := ⟨i1, i2⟩
  refine gM.of px12 (Nat.le_of_ble_eq_true rfl) ?_
  intro F hE
  have loop : ∀ (N i : Nat) (h1 : gH) (I1 : Nat → Int32) (A1 : Nat → Nat → Int32), i + N = L.length → MdV X h1 m pl L I1 A1 V → MdE (upd I 0 (nI 0)) I1 A A1 → OffM h h1 m → G X F cX12_meanShared 3 yX12_meanShared.cls (6, 0, 0) 0 0 9 [some (.ref m), some (.int (nI (smsU L i))), some (.int (nI i))] [] h1 z := by
    intro N
    induction N with
    | zero =>
      intro i h1 I1 A1 hi1 hV1 hE1 hO1
      have hiL : i = L.length := by omega
      subst hiL
      have hs2 := smsU_le (L := L) (m := L.length) (Nat.le_refl _)
      have h6 := (hE1.1 6 (by decide)).trans ((upd_ne (by decide)).trans i6)
      have h7 := (hE1.1 7 (by decide)).trans ((upd_ne (by decide)).trans i7)
      refine g_iload_n dX12_meanShared_9 rfl ?_
      refine g_aload_n dX12_meanShared_10 rfl ?_
      refine g_getf fl12_61 hV1.1.1 rfl dX12_meanShared_11 ?_
      refine g_icmp_geN 31 dX12_meanShared_14 (by decide) (by omega) (by omega) (fun c_14 => ?_) (fun c_14 => ?_)
      · refine g_aload_n dX12_meanShared_31 rfl ?_
        refine g_getf fl12_61 hV1.1.1 rfl dX12_meanShared_32 ?_
        refine g_if_neN 42 dX12_meanShared_35 (by decide) (by omega) (fun c_35 => ?_) (fun c_35 => ?_)
        · refine g_iload_n dX12_meanShared_42 rfl ?_
          refine g_i2d dX12_meanShared_43 ?_
          refine g_aload_n dX12_meanShared_44 rfl ?_
          refine g_getf fl12_61 hV1.1.1 rfl dX12_meanShared_45 ?_
          refine g_i2d dX12_meanShared_48 ?_
          refine g_ddiv dX12_meanShared_49 (fp_ok c_35 hl hs2) ?_
          exact g_dret hE (⟨by unfold meD sms; rw [if_neg c_35], rfl, RefS.fin hi ha hP hok hpl hV1 hE1.toQ h6 h7 hO1, hO1⟩) dX12_meanShared_50
        · refine g_dconst0 dX12_meanShared_38 ?_
          refine g_goto 50 dX12_meanShared_39 (by decide) ?_
          exact g_dret hE (⟨by unfold meD; rw [if_pos c_35], rfl, RefS.fin hi ha hP hok hpl hV1 hE1.toQ h6 h7 hO1, hO1⟩) dX12_meanShared_50
      · exact absurd c_14 (by omega)
    | succ N ih =>
      intro i h1 I1 A1 hi1 hV1 hE1 hO1
      refine g_iload_n dX12_meanShared_9 rfl ?_
      refine g_aload_n dX12_meanShared_10 rfl ?_
      refine g_getf fl12_61 hV1.1.1 rfl dX12_meanShared_11 ?_
      refine g_icmp_geN 31 dX12_meanShared_14 (by decide) (by omega) (by omega) (fun c_14 => ?_) (fun c_14 => ?_)
      · exact absurd c_14 (by omega)
      · refine g_iload_n dX12_meanShared_17 rfl ?_
        refine g_aload_n dX12_meanShared_18 rfl ?_
        refine g_iload_n dX12_meanShared_19 rfl ?_
        refine g_callV0 kX12_384 (m12_sharedNow i (by omega) hV1.1 hl hV1.2.2.1 hV1.2.2.2) hV1.1.1 rfl rfl rfl (Nat.le_of_ble_eq_true rfl) (by decide) (by decide) (by decide) (by decide) dX12_meanShared_20 ?_
        rintro v1 h3 z1 ⟨rfl, rfl, ⟨I3, A3, hM3, hE3, h11, hC3⟩, hO3⟩
        have hV3 := hV1.re hM3 hE3 h11 hC3
        first | refine g_iaddN dX12_meanShared_23 ?_ | refine g_iadd dX12_meanShared_23 ?_
        refine g_istore_n dX12_meanShared_24 (by decide) rfl ?_
        refine g_iincN dX12_meanShared_25 rfl (by decide) rfl ?_
        refine g_goto 9 dX12_meanShared_28 (by decide) ?_
        exact ih (i + 1) h3 I3 A3 (by omega) hV3 (hE1.trans hE3) (hO1.trans hO3)
  refine g_aload_n dX12_meanShared_0 rfl ?_
  refine g_iconst (nI 0) dX12_meanShared_1 (by decide) ?_
  refine md_put0 fl12_58 hV.1 OffM.rf dX12_meanShared_2 (fun h2 hM2 hO2 => ?_)
  have hV2 := hV.put (by decide) hM2
  have hP2 := hP.off hO2 hpx
  refine g_iconst (nI 0) dX12_meanShared_5 (by decide) ?_
  refine g_istore_n dX12_meanShared_6 (by decide) rfl ?_
  refine g_iconst (nI 0) dX12_meanShared_7 (by decide) ?_
  refine g_istore_n dX12_meanShared_8 (by decide) rfl ?_
  exact loop L.length 0 h2 _ A (by omega) hV2 MdE.rf hO2
set_option maxRecDepth 100000 in
set_option maxHeartbeats 4000000 in
theorem mR_digest {X : gX} {h : gH} {z m pl n : Nat} {f : Nat → Int32} {P : PlM} {L : List Int32} {day car err t : Int32} (hz : m + 25 ≤ z) (hzp : pl + 12 ≤ z) (hR : RefS X h m pl n f P L day car err t) : gM X yX12_digest cX12_digest 8 (some .long) (6, 1, 10) [.ref m] h z (fun r h' z' => r = some (.long (dgV P L day car)) ∧ z' = z + 1 ∧ RefS X h' m pl n f P L day car err 0 ∧ OffZ h h' m z) gNoX := by
  obtain ⟨I, A, V, hV, ⟨i0, i1, i2, i6, i7⟩, ha, hP, hok, hpl⟩ := hR
  have hl := hV.2.1
  have hpx : pl + 12 ≤ m ∨ pl = m + 2 ∨ m + 25 ≤ pl := Or.inr hpl
  have hi : I 1 = nI n ∧ I 2 = err := ⟨i1, i2⟩
  have hp8 := hok.1.1
  refine gM.of px12 (Nat.le_of_ble_eq_true rfl) ?_
  intro F hE
  have lp4 : ∀ (N i : Nat) (x5 x6 x7 : Option Value) (d : Int64) (hb h1 : gH) (I1 : Nat → Int32) (A1 : Nat → Nat → Int32), i + N = P.1.1 → dgV P L day car = dgC L (fun i => wl (P.1.2 i)) d P.1.1 → MdV X h1 m pl L I1 A1 V → MdE (upd I 0 (nI 0)) I1 A A1 → MpP X hb pl P → OffM hb h1 m → OffZ h h1 m z → G X F cX12_digest 8 yX12_digest.cls (6, 1, 10) 1 10 212 [some (.ref m), some (.ref z), some (.long (dgC L (fun i => wl (P.1.2 i)) d i)), none, some (.int (nI i)), x5, x6, x7] [] h1 (z + 1) := by
    intro N
    induction N with
    | zero =>
      intro i x5 x6 x7 d hb h1 I1 A1 hi1 hd hV1 hE1 hPb hOb hO1
      obtain ⟨J, B, U, W, hQ, ⟨j0, -⟩, jw, -⟩ := id (hPb.off hOb hpx)
      have hiL : i = P.1.1 := by omega
      subst hiL
      have h6 := (hE1.1 6 (by decide)).trans ((upd_ne (by decide)).trans i6)
      have h7 := (hE1.1 7 (by decide)).trans ((upd_ne (by decide)).trans i7)
      rw [hd] at hE
      refine g_iload dX12_digest_212 rfl ?_
      refine g_aload_n dX12_digest_214 rfl ?_
      refine g_getf fl12_20 hV1.1.1 rfl dX12_digest_215 ?_
      refine g_getfN fl12_68 hQ.1 rfl dX12_digest_218 ?_
      rw [j0]
      refine g_icmp_geN 280 dX12_digest_221 (by decide) (by omega) (by omega) (fun c_221 => ?_) (fun c_221 => ?_)
      · refine g_lload_n dX12_digest_280 rfl ?_
        exact g_lret hE (⟨rfl, rfl, RefS.fin hi ha hPb hok hpl hV1 hE1.toQ h6 h7 hOb, hO1⟩) dX12_digest_281 (by decide) (by decide)
      · exact absurd c_221 (by omega)
    | succ N ih =>
      intro i x5 x6 x7 d hb h1 I1 A1 hi1 hd hV1 hE1 hPb hOb hO1
      obtain ⟨J, B, U, W, hQ, ⟨j0, -⟩, jw, -⟩ := id (hPb.off hOb hpx)
      refine g_iload dX12_digest_212 rfl ?_
      refine g_aload_n dX12_digest_214 rfl ?_
      refine g_getf fl12_20 hV1.1.1 rfl dX12_digest_215 ?_
      refine g_getfN fl12_68 hQ.1 rfl dX12_digest_218 ?_
      rw [j0]
      refine g_icmp_geN 280 dX12_digest_221 (by decide) (by omega) (by omega) (fun c_221 => ?_) (fun c_221 => ?_)
      · exact absurd c_221 (by omega)
      · refine g_lload_n dX12_digest_224 rfl ?_
        refine g_ldc2 31 dX12_digest_225 w31m ?_
        refine g_lmul dX12_digest_228 ?_
        refine g_aload_n dX12_digest_229 rfl ?_
        refine g_iload dX12_digest_230 rfl ?_
        refine g_callV0 kX12_148 (m12_count i hQ (jw i (by omega)) hV1.1 hl hV1.2.2.1) hV1.1.1 rfl rfl rfl (Nat.le_of_ble_eq_true rfl) (by decide) (by decide) (by decide) (by decide) dX12_digest_232 ?_
        rintro v1 h2 z1 ⟨rfl, rfl, rfl⟩
        refine g_i2l dX12_digest_235 ?_
        refine g_ladd dX12_digest_236 ?_
        refine g_ldc2 31 dX12_digest_237 w31m ?_
        refine g_lmul dX12_digest_240 ?_
        refine g_aload_n dX12_digest_241 rfl ?_
        refine g_iload dX12_digest_242 rfl ?_
        refine g_callV0 kX12_198 (m12_first i hQ (jw i (by omega)) hV1.1 hl hV1.2.2.1) hV1.1.1 rfl rfl rfl (Nat.le_of_ble_eq_true rfl) (by decide) (by decide) (by decide) (by decide) dX12_digest_244 ?_
        rintro v1 h2 z1 ⟨rfl, rfl, rfl⟩
        refine g_i2l dX12_digest_247 ?_
        refine g_ladd dX12_digest_248 ?_
        refine g_ldc2 31 dX12_digest_249 w31m ?_
        refine g_lmul dX12_digest_252 ?_
        refine g_aload_n dX12_digest_253 rfl ?_
        refine g_iload dX12_digest_254 rfl ?_
        refine g_callV0 kX12_402 (m12_last i hQ (jw i (by omega)) hV1.1 hl hV1.2.2.1) hV1.1.1 rfl rfl rfl (Nat.le_of_ble_eq_true rfl) (by decide) (by decide) (by decide) (by decide) dX12_digest_256 ?_
        rintro v1 h2 z1 ⟨rfl, rfl, rfl⟩
        refine g_i2l dX12_digest_259 ?_
        refine g_ladd dX12_digest_260 ?_
        refine g_ldc2 31 dX12_digest_261 w31m ?_
        refine g_lmul dX12_digest_264 ?_
        refine g_aload_n dX12_digest_265 rfl ?_
        refine g_iload dX12_digest_266 rfl ?_
        refine g_callV0 kX12_405 (m12_steps i hQ (jw i (by omega)) hV1.1 hl hV1.2.2.1 hV1.2.2.2 hpx) hV1.1.1 rfl rfl rfl (Nat.le_of_ble_eq_true rfl) (by decide) (by decide) (by decide) (by decide) dX12_digest_268 ?_
        rintro v1 h3 z1 ⟨rfl, rfl, ⟨I3, A3, hM3, hE3, h11, hC3⟩, hO3⟩
        have hV3 := hV1.re hM3 hE3 h11 hC3
        refine g_i2l dX12_digest_271 ?_
        refine g_ladd dX12_digest_272 ?_
        refine g_lstore_n dX12_digest_273 (by decide) rfl ?_
        refine g_iincN dX12_digest_274 rfl (by decide) rfl ?_
        refine g_goto 212 dX12_digest_277 (by decide) ?_
        exact ih (i + 1) _ _ _ d hb h3 I3 A3 (by omega) hd hV3 (hE1.trans hE3) hPb (hOb.trans hO3) (hO1.trans hO3.toZ)
  have lp3 : ∀ (N i : Nat) (x5 x6 x7 : Option Value) (d : Int64) (hb h1 : gH) (I1 : Nat → Int32) (A1 : Nat → Nat → Int32), i + N = L.length → dgV P L day car = dgC L (fun i => wl (P.1.2 i)) (dgB L d L.length) P.1.1 → MdV X h1 m pl L I1 A1 V → MdE (upd I 0 (nI 0)) I1 A A1 → MpP X hb pl P → OffM hb h1 m → OffZ h h1 m z → G X F cX12_digest 8 yX12_digest.cls (6, 1, 10) 1 10 180 [some (.ref m), some (.ref z), some (.long (dgB L d i)), none, some (.int (nI i)), x5, x6, x7] [] h1 (z + 1) := by
    intro N
    induction N with
    | zero =>
      intro i x5 x6 x7 d hb h1 I1 A1 hi1 hd hV1 hE1 hPb hOb hO1
      have hiL : i = L.length := by omega
      subst hiL
      refine g_iload dX12_digest_180 rfl ?_
      refine g_aload_n dX12_digest_182 rfl ?_
      refine g_getf fl12_61 hV1.1.1 rfl dX12_digest_183 ?_
      refine g_icmp_geN 209 dX12_digest_186 (by decide) (by omega) (by omega) (fun c_186 => ?_) (fun c_186 => ?_)
      · refine g_iconst (nI 0) dX12_digest_209 (by decide) ?_
        refine g_istore dX12_digest_210 (by decide) rfl ?_
        exact lp4 P.1.1 0 _ _ _ (dgB L d L.length) hb h1 I1 A1 (by omega) hd hV1 hE1 hPb hOb hO1
      · exact absurd c_186 (by omega)
    | succ N ih =>
      intro i x5 x6 x7 d hb h1 I1 A1 hi1 hd hV1 hE1 hPb hOb hO1
      refine g_iload dX12_digest_180 rfl ?_
      refine g_aload_n dX12_digest_182 rfl ?_
      refine g_getf fl12_61 hV1.1.1 rfl dX12_digest_183 ?_
      refine g_icmp_geN 209 dX12_digest_186 (by decide) (by omega) (by omega) (fun c_186 => ?_) (fun c_186 => ?_)
      · exact absurd c_186 (by omega)
      · refine g_lload_n dX12_digest_189 rfl ?_
        refine g_ldc2 31 dX12_digest_190 w31m ?_
        refine g_lmul dX12_digest_193 ?_
        refine g_aload_n dX12_digest_194 rfl ?_
        refine g_iload dX12_digest_195 rfl ?_
        refine g_callV0 kX12_384 (m12_sharedNow i (by omega) hV1.1 hl hV1.2.2.1 hV1.2.2.2) hV1.1.1 rfl rfl rfl (Nat.le_of_ble_eq_true rfl) (by decide) (by decide) (by decide) (by decide) dX12_digest_197 ?_
        rintro v1 h3 z1 ⟨rfl, rfl, ⟨I3, A3, hM3, hE3, h11, hC3⟩, hO3⟩
        have hV3 := hV1.re hM3 hE3 h11 hC3
        refine g_i2l dX12_digest_200 ?_
        refine g_ladd dX12_digest_201 ?_
        refine g_lstore_n dX12_digest_202 (by decide) rfl ?_
        refine g_iincN dX12_digest_203 rfl (by decide) rfl ?_
        refine g_goto 180 dX12_digest_206 (by decide) ?_
        exact ih (i + 1) _ _ _ d hb h3 I3 A3 (by omega) hd hV3 (hE1.trans hE3) hPb (hOb.trans hO3) (hO1.trans hO3.toZ)
  have lp2 : ∀ (N i : Nat) (x5 x6 x7 : Option Value) (d : Int64) (hb h1 : gH) (I1 : Nat → Int32) (A1 : Nat → Nat → Int32), i + N = L.length → dgV P L day car = dgC L (fun i => wl (P.1.2 i)) (dgB L (dgA L d L.length) L.length) P.1.1 → MdV X h1 m pl L I1 A1 V → MdE (upd I 0 (nI 0)) I1 A A1 → MpP X hb pl P → OffM hb h1 m → OffZ h h1 m z → G X F cX12_digest 8 yX12_digest.cls (6, 1, 10) 1 10 135 [some (.ref m), some (.ref z), some (.long (dgA L d i)), none, some (.int (nI i)), x5, x6, x7] [] h1 (z + 1) := by
    intro N
    induction N with
    | zero =>
      intro i x5 x6 x7 d hb h1 I1 A1 hi1 hd hV1 hE1 hPb hOb hO1
      have hiL : i = L.length := by omega
      subst hiL
      refine g_iload dX12_digest_135 rfl ?_
      refine g_aload_n dX12_digest_137 rfl ?_
      refine g_getf fl12_61 hV1.1.1 rfl dX12_digest_138 ?_
      refine g_icmp_geN 177 dX12_digest_141 (by decide) (by omega) (by omega) (fun c_141 => ?_) (fun c_141 => ?_)
      · refine g_iconst (nI 0) dX12_digest_177 (by decide) ?_
        refine g_istore dX12_digest_178 (by decide) rfl ?_
        exact lp3 L.length 0 _ _ _ (dgA L d L.length) hb h1 I1 A1 (by omega) hd hV1 hE1 hPb hOb hO1
      · exact absurd c_141 (by omega)
    | succ N ih =>
      intro i x5 x6 x7 d hb h1 I1 A1 hi1 hd hV1 hE1 hPb hOb hO1
      refine g_iload dX12_digest_135 rfl ?_
      refine g_aload_n dX12_digest_137 rfl ?_
      refine g_getf fl12_61 hV1.1.1 rfl dX12_digest_138 ?_
      refine g_icmp_geN 177 dX12_digest_141 (by decide) (by omega) (by omega) (fun c_141 => ?_) (fun c_141 => ?_)
      · exact absurd c_141 (by omega)
      · refine g_lload_n dX12_digest_144 rfl ?_
        refine g_ldc2 31 dX12_digest_145 w31m ?_
        refine g_lmul dX12_digest_148 ?_
        refine g_aload_n dX12_digest_149 rfl ?_
        refine g_getf fl12_40 hV1.1.1 rfl dX12_digest_150 ?_
        refine g_iload dX12_digest_153 rfl ?_
        refine g_ialdN (hV1.1.2.1 5 (by decide)) (by show i < 40; omega) (by decide) dX12_digest_155 ?_
        rw [hV1.2.2.1 i (by omega)]
        refine g_i2l dX12_digest_156 ?_
        refine g_ladd dX12_digest_157 ?_
        refine g_ldc2 31 dX12_digest_158 w31m ?_
        refine g_lmul dX12_digest_161 ?_
        refine g_aload_n dX12_digest_162 rfl ?_
        refine g_iload dX12_digest_163 rfl ?_
        refine g_callV0 kX12_378 (m12_rankNow i (by omega) hV1.1 hl hV1.2.2.1 hV1.2.2.2) hV1.1.1 rfl rfl rfl (Nat.le_of_ble_eq_true rfl) (by decide) (by decide) (by decide) (by decide) dX12_digest_165 ?_
        rintro v1 h3 z1 ⟨rfl, rfl, ⟨I3, A3, hM3, hE3, h11, hC3⟩, hO3⟩
        have hV3 := hV1.re hM3 hE3 h11 hC3
        refine g_i2l dX12_digest_168 ?_
        refine g_ladd dX12_digest_169 ?_
        refine g_lstore_n dX12_digest_170 (by decide) rfl ?_
        refine g_iincN dX12_digest_171 rfl (by decide) rfl ?_
        refine g_goto 135 dX12_digest_174 (by decide) ?_
        exact ih (i + 1) _ _ _ d hb h3 I3 A3 (by omega) hd hV3 (hE1.trans hE3) hPb (hOb.trans hO3) (hO1.trans hO3.toZ)
  have lp1 : ∀ (N i : Nat) (x7 : Option Value) (g : Nat → Int32) (h1 : gH), i + N = 10 → h1 z = some (gIA X 10 g) → dgF g 10 = dgF (dgG P L day car) 10 → MdV X h1 m pl L (upd I 0 (nI 0)) A V → MpP X h1 pl P → OffZ h h1 m z → G X F cX12_digest 8 yX12_digest.cls (6, 1, 10) 1 10 102 [some (.ref m), some (.ref z), some (.long (dgF g i)), none, some (.ref z), some (.int (nI 10)), some (.int (nI i)), x7] [] h1 (z + 1) := by
    intro N
    induction N with
    | zero =>
      intro i x7 g h1 hi1 hg hd hV1 hP1 hO1
      have hiL : i = 10 := by omega
      subst hiL
      refine g_iload dX12_digest_102 rfl ?_
      refine g_iload dX12_digest_104 rfl ?_
      refine g_icmp_geN 132 dX12_digest_106 (by decide) (by omega) (by omega) (fun c_106 => ?_) (fun c_106 => ?_)
      · refine g_iconst (nI 0) dX12_digest_132 (by decide) ?_
        refine g_istore dX12_digest_133 (by decide) rfl ?_
        rw [hd]
        exact lp2 L.length 0 _ _ _ _ h1 h1 _ A (by omega) rfl hV1 MdE.rf hP1 OffM.rf hO1
      · exact absurd c_106 (by omega)
    | succ N ih =>
      intro i x7 g h1 hi1 hg hd hV1 hP1 hO1
      refine g_iload dX12_digest_102 rfl ?_
      refine g_iload dX12_digest_104 rfl ?_
      refine g_icmp_geN 132 dX12_digest_106 (by decide) (by omega) (by omega) (fun c_106 => ?_) (fun c_106 => ?_)
      · exact absurd c_106 (by omega)
      · refine g_aload dX12_digest_109 rfl ?_
        refine g_iload dX12_digest_111 rfl ?_
        refine g_ialdN (hg) (by omega) (by decide) dX12_digest_113 ?_
        refine g_istore dX12_digest_114 (by decide) rfl ?_
        refine g_lload_n dX12_digest_116 rfl ?_
        refine g_ldc2 31 dX12_digest_117 w31m ?_
        refine g_lmul dX12_digest_120 ?_
        refine g_iload dX12_digest_121 rfl ?_
        refine g_i2l dX12_digest_123 ?_
        refine g_ladd dX12_digest_124 ?_
        refine g_lstore_n dX12_digest_125 (by decide) rfl ?_
        refine g_iincN dX12_digest_126 rfl (by decide) rfl ?_
        refine g_goto 102 dX12_digest_129 (by decide) ?_
        exact ih (i + 1) _ g h1 (by omega) hg hd hV1 hP1 hO1
  refine g_aload_n dX12_digest_0 rfl ?_
  refine g_iconst (nI 0) dX12_digest_1 (by decide) ?_
  refine md_put0 fl12_58 hV.1 OffM.rf dX12_digest_2 (fun h2 hM2 hO2 => ?_)
  have hV2 := hV.put (by decide) hM2
  have hP2 := hP.off hO2 hpx
  refine g_bipush (nI 10) dX12_digest_5 (by decide) ?_
  refine g_newI wai (by decide) (by decide) (by decide) dX12_digest_7 ?_
  have hVz : ∀ e, MdV X (gset h2 z e) m pl L (upd I 0 (nI 0)) A V := fun e => ⟨hV2.1.putz hz, hV2.2⟩
  have hPz : ∀ e, MpP X (gset h2 z e) pl P := fun e => hP2.putz hzp
  have hOz : ∀ e, OffZ h (gset h2 z e) m z := fun e => hO2.toZ.trans OffZ.new
  refine g_dup dX12_digest_9 rfl ?_
  refine g_iconst (nI 0) dX12_digest_10 (by decide) ?_
  refine g_aload_n dX12_digest_11 rfl ?_
  refine g_getf fl12_61 (hVz _).1.1 rfl dX12_digest_12 ?_
  refine g_iastN (N := 10) (j := 0) gset_same (by decide) (by decide) dX12_digest_15 ?_
  refine G.eqh gset_gset ?_
  refine g_dup dX12_digest_16 rfl ?_
  refine g_iconst (nI 1) dX12_digest_17 (by decide) ?_
  refine g_aload_n dX12_digest_18 rfl ?_
  refine g_getf fl12_20 (hVz _).1.1 rfl dX12_digest_19 ?_
  obtain ⟨J, B, U, W, hQ, ⟨j0, -⟩, jw, -⟩ := id (hPz _)
  refine g_getfN fl12_68 hQ.1 rfl dX12_digest_22 ?_
  rw [j0]
  refine g_iastN (N := 10) (j := 1) gset_same (by decide) (by decide) dX12_digest_25 ?_
  refine G.eqh gset_gset ?_
  refine g_dup dX12_digest_26 rfl ?_
  refine g_iconst (nI 2) dX12_digest_27 (by decide) ?_
  refine g_aload_n dX12_digest_28 rfl ?_
  refine g_getf fl12_97 (hVz _).1.1 rfl dX12_digest_29 ?_
  rw [show upd I 0 (nI 0) 6 = day from (upd_ne (by decide)).trans i6]
  refine g_iastN (N := 10) (j := 2) gset_same (by decide) (by decide) dX12_digest_32 ?_
  refine G.eqh gset_gset ?_
  refine g_dup dX12_digest_33 rfl ?_
  refine g_iconst (nI 3) dX12_digest_34 (by decide) ?_
  refine g_aload_n dX12_digest_35 rfl ?_
  refine g_getf fl12_103 (hVz _).1.1 rfl dX12_digest_36 ?_
  rw [show upd I 0 (nI 0) 7 = car from (upd_ne (by decide)).trans i7]
  refine g_iastN (N := 10) (j := 3) gset_same (by decide) (by decide) dX12_digest_39 ?_
  refine G.eqh gset_gset ?_
  refine g_dup dX12_digest_40 rfl ?_
  refine g_iconst (nI 4) dX12_digest_41 (by decide) ?_
  refine g_aload_n dX12_digest_42 rfl ?_
  refine g_callV0 kX12_195 (m12_allKinds (hVz _).1 hl (hVz (.inr (0, []))).2.2.1) (hVz _).1.1 rfl rfl rfl (Nat.le_of_ble_eq_true rfl) (by decide) (by decide) (by decide) (by decide) dX12_digest_43 ?_
  rintro v1 h9 z9 ⟨rfl, rfl, rfl⟩
  refine g_iastN (N := 10) (j := 4) gset_same (by decide) (by decide) dX12_digest_46 ?_
  refine G.eqh gset_gset ?_
  refine g_dup dX12_digest_47 rfl ?_
  refine g_iconst (nI 5) dX12_digest_48 (by decide) ?_
  refine g_aload_n dX12_digest_49 rfl ?_
  refine g_callV0 kX12_125 (m12_longest (hVz _).1 hl (hVz (.inr (0, []))).2.2.1) (hVz _).1.1 rfl rfl rfl (Nat.le_of_ble_eq_true rfl) (by decide) (by decide) (by decide) (by decide) dX12_digest_50 ?_
  rintro v1 h9 z9 ⟨rfl, rfl, rfl⟩
  rw [loU_lon]
  refine g_iastN (N := 10) (j := 5) gset_same (by decide) (by decide) dX12_digest_53 ?_
  refine G.eqh gset_gset ?_
  refine g_dup dX12_digest_54 rfl ?_
  refine g_bipush (nI 6) dX12_digest_55 (by decide) ?_
  refine g_aload_n dX12_digest_57 rfl ?_
  refine g_callV0 kX12_135 (m12_repeat (hVz _).1 hl (hVz (.inr (0, []))).2.2.1) (hVz _).1.1 rfl rfl rfl (Nat.le_of_ble_eq_true rfl) (by decide) (by decide) (by decide) (by decide) dX12_digest_58 ?_
  rintro v1 h9 z9 ⟨rfl, rfl, rfl⟩
  rw [rpB_rpI]
  refine g_iastN (N := 10) (j := 6) gset_same (by decide) (by decide) dX12_digest_61 ?_
  refine G.eqh gset_gset ?_
  refine g_dup dX12_digest_62 rfl ?_
  refine g_bipush (nI 7) dX12_digest_63 (by decide) ?_
  refine g_aload_n dX12_digest_65 rfl ?_
  refine g_callV0 kX12_390 (m12_repeatsR (hVz _).1 hl (hVz (.inr (0, []))).2.2.1) (hVz _).1.1 rfl rfl rfl (Nat.le_of_ble_eq_true rfl) (by decide) (by decide) (by decide) (by decide) dX12_digest_66 ?_
  rintro v1 h9 z9 ⟨rfl, rfl, rfl⟩
  refine g_iastN (N := 10) (j := 7) gset_same (by decide) (by decide) dX12_digest_69 ?_
  refine G.eqh gset_gset ?_
  refine g_dup dX12_digest_70 rfl ?_
  refine g_bipush (nI 8) dX12_digest_71 (by decide) ?_
  refine g_aload_n dX12_digest_73 rfl ?_
  refine g_callV0 kX12_396 (m12_atEnd (hVz _).1 hl (hVz (.inr (0, []))).2.2.1) (hVz _).1.1 rfl rfl rfl (Nat.le_of_ble_eq_true rfl) (by decide) (by decide) (by decide) (by decide) dX12_digest_74 ?_
  rintro v1 h9 z9 ⟨rfl, rfl, rfl⟩
  refine g_iastN (N := 10) (j := 8) gset_same (by decide) (by decide) dX12_digest_77 ?_
  refine G.eqh gset_gset ?_
  refine g_dup dX12_digest_78 rfl ?_
  refine g_bipush (nI 9) dX12_digest_79 (by decide) ?_
  refine g_aload_n dX12_digest_81 rfl ?_
  obtain ⟨J2, B2, U2, W2, hQ2, ⟨j02, -⟩, jw2, -⟩ := id (hPz _)
  refine g_callV0 kX12_408 (m12_most (fun i => wl (P.1.2 i)) P.1.1 hQ2 j02 hp8 jw2 (hVz _).1 hl (hVz (.inr (0, []))).2.2.1) (hVz _).1.1 rfl rfl rfl (Nat.le_of_ble_eq_true rfl) (by decide) (by decide) (by decide) (by decide) dX12_digest_82 ?_
  rintro v1 h9 z9 ⟨rfl, rfl, rfl⟩
  refine g_iastN (N := 10) (j := 9) gset_same (by decide) (by decide) dX12_digest_85 ?_
  refine G.eqh gset_gset ?_
  refine g_astore_n dX12_digest_86 (by decide) rfl ?_
  refine g_ldc2 1069 dX12_digest_87 w1069m ?_
  refine g_lstore_n dX12_digest_90 (by decide) rfl ?_
  refine g_aload_n dX12_digest_91 rfl ?_
  refine g_astore dX12_digest_92 (by decide) rfl ?_
  refine g_aload dX12_digest_94 rfl ?_
  refine g_alen gset_same dX12_digest_96 ?_
  refine g_istore dX12_digest_97 (by decide) rfl ?_
  refine g_iconst (nI 0) dX12_digest_99 (by decide) ?_
  refine g_istore dX12_digest_100 (by decide) rfl ?_
  refine lp1 10 0 _ _ (gset h2 z _) rfl gset_same ?_ (hVz _) (hPz _) (hOz _)
  refine dgF_congr (fun i hi => ?_)
  rcases (show i = 0 ∨ i = 1 ∨ i = 2 ∨ i = 3 ∨ i = 4 ∨ i = 5 ∨ i = 6 ∨ i = 7 ∨ i = 8 ∨ i = 9 by omega) with rfl | rfl | rfl | rfl | rfl | rfl | rfl | rfl | rfl | rfl <;> rfl
