/-! the constants of the start; the start as the judgement's fixed part -/
theorem free_old {X : gX} : ∀ a : Nat, a < X.1.heap.size → ¬ gFree X a := fun _ h g => absurd h (Nat.not_lt.mpr g)
set_option maxRecDepth 100000 in
set_option maxHeartbeats 4000000 in
theorem gCo_start {X : gX} {args : Array Value} (h : (Jvm.Cond.and given_1 narrow_1).before args X.1 = true) (hts : ∀ w ∈ lw_tbl, w.before args X.1 = true) : ∃ K : gKo, gCo X K := by
  have hi7 : (Cond.initialized RX7).before args X.1 = true := hts _ (gm1 6 (by decide +kernel))
  have eC : ∀ c, c < 39 → (tmC c).eval args X.1 none [] X.1 = some (.ref (adr ((tmC c).eval args X.1 none [] X.1))) := fun c hc => exR (nwB h _ (nwE_ok ⟨c, hc⟩))
  have eS : ∀ c, c < 39 → (tmS c).eval args X.1 none [] X.1 = some (.ref (adr ((tmS c).eval args X.1 none [] X.1))) := fun c hc => exR (nwB h _ (nwS_ok ⟨c, hc⟩))
  have eX : ∀ c, c < 39 → (Term.string RX7 (nwI.getD c 0)).eval args X.1 none [] X.1 = some (.ref (adr ((tmS c).eval args X.1 none [] X.1))) := by
    intro c hc
    rcases nwT_ok ⟨c, hc⟩ with q | q
    · have q : tmS c = .string RX7 (nwI.getD c 0) := q
      rw [← q]
      exact eS c hc
    · exact eqR (nwB h _ q) (eS c hc)
  have eW : ∀ j, j < 19 → (Term.string RX12 (nwW.getD j 0)).eval args X.1 none [] X.1 = some (.ref (adr ((tmS (j + 5)).eval args X.1 none [] X.1))) := by
    intro j hj
    rcases nwQ_ok ⟨j, hj⟩ with q | q
    · have q : tmS (j + 5) = .string RX12 (nwW.getD j 0) := q
      rw [← q]
      exact eS (j + 5) (by omega)
    · exact eqR (nwB h _ q) (eS (j + 5) (by omega))
  obtain ⟨t1, ht1, hT1⟩ := va_Tof (tm := tmAll) (N := 39) (f := fun j => .ref (adr ((tmC j).eval args X.1 none [] X.1))) (by decide) (nwB h _ nwA1_ok.1) (va_eqt (nwB h _ nwA1_ok.2)) (fun j hj => eqR (nwB h _ (nwA_ok ⟨j, hj⟩)) (eC j hj)) (free_old (X := X))
  obtain ⟨t2, ht2, hT2⟩ := va_Tof (tm := tmSw) (N := 39) (f := fun j => .int (nI (swL.getD j 0))) (by decide) (nwB h _ nwM1_ok.1) (va_eqt (nwB h _ nwM1_ok.2)) (fun j hj => va_eqt (nwB h _ (nwM_ok ⟨j, hj⟩))) (free_old (X := X))
  obtain ⟨t3, ht3, hT3⟩ := va_Tof (tm := tmWd) (N := 19) (f := fun j => .ref (adr ((tmS (j + 5)).eval args X.1 none [] X.1))) (by decide) (nwB h _ nwW1_ok.1) (va_eqt (nwB h _ nwW1_ok.2)) (fun j hj => eqR (nwB h _ (nwW_ok ⟨j, hj⟩)) (eW j hj)) (free_old (X := X))
  refine ⟨(fun c => adr ((tmC c).eval args X.1 none [] X.1), fun c => adr ((tmS c).eval args X.1 none [] X.1), t1, t2, t3), fun c hc => ⟨?_, ?_, ?_, ?_⟩, fun c hc => ⟨?_, ?_, ?_⟩, ⟨?_, hT1⟩, ⟨?_, hT2⟩, ⟨?_, hT3⟩, ?_, ?_⟩
  · exact va_Zof (hts _ (nwl c hc)) hi7 (eC c hc) free_old
  · exact va_Oof (nwB h _ (nwE_ok ⟨c, hc⟩)) (eC c hc) free_old
  · exact vk_OFof (eC c hc) (va_eqt (nwB h _ (nwO_ok ⟨c, hc⟩))) free_old
  · exact vk_OFof (eC c hc) (eqR (nwB h _ (nwX_ok ⟨c, hc⟩)) (eX c hc)) free_old
  · exact va_Oof (nwB h _ (nwS_ok ⟨c, hc⟩)) (eS c hc) free_old
  · exact vk_OFof (eS c hc) (va_eqt (nwB h _ (nwS1_ok ⟨c, hc⟩))) free_old
  · obtain ⟨t, ht, hT⟩ := va_Tof (tm := tmV c) (N := (tkT.getD c []).length) (f := fun j => .int (nI ((tkT.getD c []).getD j 0))) (tkT_lt c hc) (nwB h _ (nwS2_ok ⟨c, hc⟩)) (va_eqt (nwB h _ (nwS3_ok ⟨c, hc⟩))) (fun j hj => va_eqt (nwB h _ (nwS4_ok ⟨c, hc⟩ ⟨j, hj⟩))) (free_old (X := X))
    exact ⟨t, vk_OFof (eS c hc) ht free_old, hT⟩
  · exact va_Zof (hts _ (gm2 98 (by decide +kernel))) hi7 ht1 free_old
  · exact va_Zof (hts _ (gm3 15 (by decide +kernel))) (hts _ (gm1 24 (by decide +kernel))) ht2 free_old
  · exact va_Zof (hts _ (gm6 166 (by decide +kernel))) (hts _ (gm1 12 (by decide +kernel))) ht3 free_old
  · exact va_Zof (hts _ (gm2 108 (by decide +kernel))) (hts _ (gm1 19 (by decide +kernel))) (va_eqt (nwB h _ nwZ_ok.1)) free_old
  · rcases va_Zqof (A := gFree X) (hts _ (gm2 128 (by decide +kernel))) (hts _ (gm1 21 (by decide +kernel))) (nwB h _ nwZ_ok.2) free_old with q | ⟨t, q⟩
    · exact ⟨_, rfl, q⟩
    · exact ⟨_, rfl, q⟩
theorem gTh_start {X : gX} {args : Array Value} (hf : X.2.2.2.flags = flags0) (h : (Jvm.Cond.and given_1 narrow_1).before args X.1 = true) (hts : ∀ w ∈ lw_tbl, w.before args X.1 = true) : gTh X := by
  refine ⟨?_, ?_, ?_⟩
  · unfold Launch.stackTraces
    rw [hf]
    decide
  · exact vx_Zqof (hts _ (gm4 60 (by decide +kernel))) (hts _ (gm1 14 (by decide +kernel))) (nwB h _ nwH_ok.1) free_old
  · exact vx_Zqof (hts _ (gm4 62 (by decide +kernel))) (hts _ (gm1 14 (by decide +kernel))) (nwB h _ nwH_ok.2) free_old
theorem arp {args : Array Value} {s : State} {ty : FieldType} (h : (Cond.arrayClass ty).before args s = true) : ∃ c : ClassId, ArrOfT s c ty ∧ s.vm.findClass ("[" ++ ty.toString) = some c := by
  obtain ⟨c, k, comp, h1, h2, h3⟩ := Cond.arrayClass_spec (first := s) (o := none) (idx := []) h
  exact ⟨c, fun n z => ⟨fun k h => (by cases h), k, h2, comp, h3⟩, h1⟩
theorem aro {args : Array Value} {s : State} {C : String} (h : (Cond.arrayOver (.object C)).before args s = true) : ∃ c : ClassId, ArrOfT s c (.object C) ∧ va_RA s c (.object C) := by
  obtain ⟨comp, c, k, h1, h2, h3, h4, h5⟩ := Cond.arrayOver_spec (first := s) (o := none) (idx := []) h
  exact ⟨c, fun n z => ⟨fun k h => (by cases h), k, h3, comp, h4⟩, k, comp, h3, h4, h1, h5⟩
set_option maxRecDepth 100000 in
theorem gXok_start {s : State} {l : Launch} {args : Array Value} (hts : ∀ w ∈ lw_tbl, w.before args s = true) : ∃ (D : va_G) (A : Nat → ClassId), gXok (s, D, A, l) := by
  obtain ⟨a0, A0, B0⟩ := arp (hts _ wai)
  obtain ⟨a1, A1, B1⟩ := arp (hts _ waj)
  obtain ⟨a2, A2, B2⟩ := aro (hts _ wao0)
  obtain ⟨a3, A3, B3⟩ := aro (hts _ wao2)
  obtain ⟨a4, A4, B4⟩ := aro (hts _ wao1)
  obtain ⟨c0, i0, k0⟩ := u_known (C := RX1) (T := TX1) (N := 6) (n := 6) hts inW1 (hts _ (gm1 36 (by decide +kernel)))
  obtain ⟨c1, i1, k1⟩ := u_known (C := RX2) (T := TX2) (N := 6) (n := 6) hts inW2 (hts _ (gm1 125 (by decide +kernel)))
  obtain ⟨c2, i2, k2⟩ := u_known (C := RX3) (T := TX3) (N := 5) (n := 5) hts inW3 (hts _ (gm1 213 (by decide +kernel)))
  obtain ⟨c3, i3, k3⟩ := u_known (C := RX4) (T := TX4) (N := 7) (n := 7) hts inW4 (hts _ (gm1 99 (by decide +kernel)))
  obtain ⟨c4, i4, k4⟩ := u_known (C := RX5) (T := TX5) (N := 9) (n := 9) hts inW5 (hts _ (gm1 219 (by decide +kernel)))
  obtain ⟨c5, i5, k5⟩ := u_known (C := RX6) (T := TX6) (N := 2) (n := 2) hts inW6 (hts _ (gm1 48 (by decide +kernel)))
  obtain ⟨c6, i6, k6⟩ := u_known (C := RX8) (T := TX8) (N := 9) (n := 9) hts inW8 (hts _ (gm1 42 (by decide +kernel)))
  obtain ⟨c7, i7, k7⟩ := u_known (C := RX9) (T := TX9) (N := 2) (n := 2) hts inW9 (hts _ (gm1 109 (by decide +kernel)))
  obtain ⟨c8, i8, k8⟩ := u_known (C := RX10) (T := TX10) (N := 6) (n := 6) hts inW10 (hts _ (gm1 28 (by decide +kernel)))
  obtain ⟨c9, i9, k9⟩ := u_known (C := RX11) (T := TX11) (N := 14) (n := 14) hts inW11 (hts _ (gm5 205 (by decide +kernel)))
  obtain ⟨c10, i10, k10⟩ := u_known (C := RX12) (T := TX12) (N := 26) (n := 26) hts inW12 (hts _ (gm5 199 (by decide +kernel)))
  refine ⟨(fun k => if k = 0 then c0 else if k = 1 then c1 else if k = 2 then c2 else if k = 3 then c3 else if k = 4 then c4 else if k = 5 then c5 else if k = 6 then c6 else if k = 7 then c7 else if k = 8 then c8 else if k = 9 then c9 else c10, fun k => if k = 0 then i0 else if k = 1 then i1 else if k = 2 then i2 else if k = 3 then i3 else if k = 4 then i4 else if k = 5 then i5 else if k = 6 then i6 else if k = 7 then i7 else if k = 8 then i8 else if k = 9 then i9 else i10), fun k => if k = 0 then a0 else if k = 1 then a1 else if k = 2 then a2 else if k = 3 then a3 else a4, ⟨args, hts⟩, ?_, ?_⟩
  · intro k q hq
    match k, hq with
    | 0, hq => cases hq; exact k0
    | 1, hq => cases hq; exact k1
    | 2, hq => cases hq; exact k2
    | 3, hq => cases hq; exact k3
    | 4, hq => cases hq; exact k4
    | 5, hq => cases hq; exact k5
    | 6, hq => cases hq; exact k6
    | 7, hq => cases hq; exact k7
    | 8, hq => cases hq; exact k8
    | 9, hq => cases hq; exact k9
    | 10, hq => cases hq; exact k10
    | k + 11, hq => exact absurd (List.getElem?_eq_some_iff.mp hq).1 (by show ¬ (k + 11 < 11); omega)
  · intro k q hq
    match k, hq with
    | 0, hq => cases hq; exact ⟨A0, B0⟩
    | 1, hq => cases hq; exact ⟨A1, B1⟩
    | 2, hq => cases hq; exact ⟨A2, B2⟩
    | 3, hq => cases hq; exact ⟨A3, B3⟩
    | 4, hq => cases hq; exact ⟨A4, B4⟩
    | k + 5, hq => exact absurd (List.getElem?_eq_some_iff.mp hq).1 (by show ¬ (k + 5 < 5); omega)
