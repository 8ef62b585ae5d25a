/-! the law: its calls that catch -/
theorem pL : plainName RL = true := by decide +kernel
def b2l (b : Bool) : Int64 := if b then lN 1 else lN 0
theorem kw_feed : gWsH RL 89 yL_feed cL_feed 8 (some .int) [(0, 16, 19, 13)] 7 := ⟨⟨gm4 158 (by decide +kernel), gm4 159 (by decide +kernel), gm1 0 (by decide +kernel), gm4 160 (by decide +kernel)⟩, by decide, by decide, by decide⟩
set_option maxRecDepth 100000 in
set_option maxHeartbeats 4000000 in
theorem wL_feed {X : gX} {h : gH} {z o w : Nat} {fs : List Value} {g : Nat → Int64} {S : gH → Prop} {v : Int32} (a b c d e : Int32) (h0 : h o = some (.inr (8, fs))) (hw : h w = some (gJA X 1 g)) (hwo : w < o ∨ o + 162 ≤ w) (M : gM X yX10_feed cX10_feed 6 (some .int) (50, 0, 0) [.ref o, .int a, .int b, .int c, .int d, .int e] h z (fun r h' z' => r = some (.int (v)) ∧ z' = z ∧ S h' ∧ OffB h h' o 162) gNoX) : gMh X yL_feed cL_feed 8 (some .int) [(0, 16, 19, 13)] (51, 0, 0) [.ref o, .int a, .int b, .int c, .int d, .int e, .ref w] h z (fun r h' z' => r = some (.int 0) ∧ z' = z ∧ ∃ h1, S h1 ∧ OffB h h1 o 162 ∧ h' = gset h1 w (gJA X 1 (vp_updL g 0 (v.toInt64)))) := by
  refine gMh.of pL (Nat.le_of_ble_eq_true rfl) ?_
  intro F hE
  refine g_aload dL_feed_0 rfl ?_
  refine g_iconst (nI 0) dL_feed_2 (by decide) ?_
  refine g_aload_n dL_feed_3 rfl ?_
  refine g_iload_n dL_feed_4 rfl ?_
  refine g_iload_n dL_feed_5 rfl ?_
  refine g_iload_n dL_feed_6 rfl ?_
  refine g_iload dL_feed_7 rfl ?_
  refine g_iload dL_feed_9 rfl ?_
  refine g_callV0 kL_7 M h0 rfl rfl rfl (Nat.le_of_ble_eq_true rfl) (by decide) (by decide) (by decide) (by decide) dL_feed_11 ?_
  rintro v1 h1 z1 ⟨rfl, rfl, hS, hO⟩
  have hw1 := (hO w (by omega)).trans hw
  refine g_i2l dL_feed_14 ?_
  refine g_lastN (j := 0) hw1 (by decide) (by decide) dL_feed_15 ?_
  refine g_goto 23 dL_feed_16 (by decide) ?_
  refine g_iconst (nI 0) dL_feed_23 (by decide) ?_
  exact g_hret hE ⟨rfl, rfl, h1, hS, hO, rfl⟩ dL_feed_24 (by decide) (by decide)
set_option maxRecDepth 100000 in
set_option maxHeartbeats 4000000 in
theorem wX_feed {X : gX} {h : gH} {z o w : Nat} {fs : List Value} (a b c d e : Int32) (h0 : h o = some (.inr (8, fs))) (M : gM X yX10_feed cX10_feed 6 (some .int) (8, 1, 6) [.ref o, .int a, .int b, .int c, .int d, .int e] h z noP (thX ISE h z)) : gMh X yL_feed cL_feed 8 (some .int) [(0, 16, 19, 13)] (51, 1, 6) [.ref o, .int a, .int b, .int c, .int d, .int e, .ref w] h z (fun r h' z' => r = some (.int 1) ∧ h' = h ∧ z ≤ z') := by
  refine gMh.of pL (Nat.le_of_ble_eq_true rfl) ?_
  intro F hE
  refine g_aload dL_feed_0 rfl ?_
  refine g_iconst (nI 0) dL_feed_2 (by decide) ?_
  refine g_aload_n dL_feed_3 rfl ?_
  refine g_iload_n dL_feed_4 rfl ?_
  refine g_iload_n dL_feed_5 rfl ?_
  refine g_iload_n dL_feed_6 rfl ?_
  refine g_iload dL_feed_7 rfl ?_
  refine g_iload dL_feed_9 rfl ?_
  refine g_callVC kL_7 M h0 rfl rfl rfl (Nat.le_of_ble_eq_true rfl) (by decide) (by decide) (by decide) (by decide) dL_feed_11 hE (fun _ _ _ q => q) (by decide) (by decide) wlcISE wcaISE (fun _ _ _ q => q.1) (fun q h2 z2 hq => ?_)
  obtain ⟨-, rfl, hz2⟩ := hq
  refine g_astore dL_feed_19 (by decide) rfl ?_
  refine g_iconst (nI 1) dL_feed_21 (by decide) ?_
  exact g_hret hE ⟨rfl, rfl, hz2⟩ dL_feed_22 (by decide) (by decide)
theorem kw_trim : gWsH RL 99 yL_trim cL_trim 4 (some .int) [(0, 9, 12, 19)] 3 := ⟨⟨gm4 186 (by decide +kernel), gm4 187 (by decide +kernel), gm1 0 (by decide +kernel), gm4 188 (by decide +kernel)⟩, by decide, by decide, by decide⟩
set_option maxRecDepth 100000 in
set_option maxHeartbeats 4000000 in
theorem wL_trim {X : gX} {h : gH} {z o w : Nat} {fs : List Value} {g : Nat → Int64} {S : gH → Prop} {v : Int32} (p : Int32) (h0 : h o = some (.inr (8, fs))) (hw : h w = some (gJA X 1 g)) (hwo : w < o ∨ o + 162 ≤ w) (M : gM X yX10_trim cX10_trim 2 (some .int) (50, 0, 0) [.ref o, .int p] h z (fun r h' z' => r = some (.int (v)) ∧ z' = z ∧ S h' ∧ OffB h h' o 162) gNoX) : gMh X yL_trim cL_trim 4 (some .int) [(0, 9, 12, 19)] (51, 0, 0) [.ref o, .int p, .ref w] h z (fun r h' z' => r = some (.int 0) ∧ z' = z ∧ ∃ h1, S h1 ∧ OffB h h1 o 162 ∧ h' = gset h1 w (gJA X 1 (vp_updL g 0 (v.toInt64)))) := by
  refine gMh.of pL (Nat.le_of_ble_eq_true rfl) ?_
  intro F hE
  refine g_aload_n dL_trim_0 rfl ?_
  refine g_iconst (nI 0) dL_trim_1 (by decide) ?_
  refine g_aload_n dL_trim_2 rfl ?_
  refine g_iload_n dL_trim_3 rfl ?_
  refine g_callV0 kL_15 M h0 rfl rfl rfl (Nat.le_of_ble_eq_true rfl) (by decide) (by decide) (by decide) (by decide) dL_trim_4 ?_
  rintro v1 h1 z1 ⟨rfl, rfl, hS, hO⟩
  have hw1 := (hO w (by omega)).trans hw
  refine g_i2l dL_trim_7 ?_
  refine g_lastN (j := 0) hw1 (by decide) (by decide) dL_trim_8 ?_
  refine g_goto 15 dL_trim_9 (by decide) ?_
  refine g_iconst (nI 0) dL_trim_15 (by decide) ?_
  exact g_hret hE ⟨rfl, rfl, h1, hS, hO, rfl⟩ dL_trim_16 (by decide) (by decide)
set_option maxRecDepth 100000 in
set_option maxHeartbeats 4000000 in
theorem wX_trim {X : gX} {h : gH} {z o w : Nat} {fs : List Value} (p : Int32) (h0 : h o = some (.inr (8, fs))) (M : gM X yX10_trim cX10_trim 2 (some .int) (8, 1, 6) [.ref o, .int p] h z noP (thX IAE h z)) : gMh X yL_trim cL_trim 4 (some .int) [(0, 9, 12, 19)] (51, 1, 6) [.ref o, .int p, .ref w] h z (fun r h' z' => r = some (.int 1) ∧ h' = h ∧ z ≤ z') := by
  refine gMh.of pL (Nat.le_of_ble_eq_true rfl) ?_
  intro F hE
  refine g_aload_n dL_trim_0 rfl ?_
  refine g_iconst (nI 0) dL_trim_1 (by decide) ?_
  refine g_aload_n dL_trim_2 rfl ?_
  refine g_iload_n dL_trim_3 rfl ?_
  refine g_callVC kL_15 M h0 rfl rfl rfl (Nat.le_of_ble_eq_true rfl) (by decide) (by decide) (by decide) (by decide) dL_trim_4 hE (fun _ _ _ q => q) (by decide) (by decide) wlcIAE wcaIAE (fun _ _ _ q => q.1) (fun q h2 z2 hq => ?_)
  obtain ⟨-, rfl, hz2⟩ := hq
  refine g_astore_n dL_trim_12 (by decide) rfl ?_
  refine g_iconst (nI 1) dL_trim_13 (by decide) ?_
  exact g_hret hE ⟨rfl, rfl, hz2⟩ dL_trim_14 (by decide) (by decide)
theorem kw_letterAt : gWsH RL 131 yL_letterAt cL_letterAt 4 (some .int) [(0, 9, 12, 24)] 3 := ⟨⟨gm4 210 (by decide +kernel), gm4 211 (by decide +kernel), gm1 0 (by decide +kernel), gm4 212 (by decide +kernel)⟩, by decide, by decide, by decide⟩
set_option maxRecDepth 100000 in
set_option maxHeartbeats 4000000 in
theorem wL_letterAt {X : gX} {h : gH} {z o w : Nat} {fs : List Value} {g : Nat → Int64} {S : gH → Prop} {v : Int32} (p : Int32) (h0 : h o = some (.inr (8, fs))) (hw : h w = some (gJA X 1 g)) (hwo : w < o ∨ o + 162 ≤ w) (M : gM X yX10_letterAt cX10_letterAt 2 (some .int) (50, 0, 0) [.ref o, .int p] h z (fun r h' z' => r = some (.int (v)) ∧ z' = z ∧ S h' ∧ OffB h h' o 162) gNoX) : gMh X yL_letterAt cL_letterAt 4 (some .int) [(0, 9, 12, 24)] (51, 0, 0) [.ref o, .int p, .ref w] h z (fun r h' z' => r = some (.int 0) ∧ z' = z ∧ ∃ h1, S h1 ∧ OffB h h1 o 162 ∧ h' = gset h1 w (gJA X 1 (vp_updL g 0 (v.toInt64)))) := by
  refine gMh.of pL (Nat.le_of_ble_eq_true rfl) ?_
  intro F hE
  refine g_aload_n dL_letterAt_0 rfl ?_
  refine g_iconst (nI 0) dL_letterAt_1 (by decide) ?_
  refine g_aload_n dL_letterAt_2 rfl ?_
  refine g_iload_n dL_letterAt_3 rfl ?_
  refine g_callV0 kL_21 M h0 rfl rfl rfl (Nat.le_of_ble_eq_true rfl) (by decide) (by decide) (by decide) (by decide) dL_letterAt_4 ?_
  rintro v1 h1 z1 ⟨rfl, rfl, hS, hO⟩
  have hw1 := (hO w (by omega)).trans hw
  refine g_i2l dL_letterAt_7 ?_
  refine g_lastN (j := 0) hw1 (by decide) (by decide) dL_letterAt_8 ?_
  refine g_goto 15 dL_letterAt_9 (by decide) ?_
  refine g_iconst (nI 0) dL_letterAt_15 (by decide) ?_
  exact g_hret hE ⟨rfl, rfl, h1, hS, hO, rfl⟩ dL_letterAt_16 (by decide) (by decide)
set_option maxRecDepth 100000 in
set_option maxHeartbeats 4000000 in
theorem wX_letterAt {X : gX} {h : gH} {z o w : Nat} {fs : List Value} (p : Int32) (h0 : h o = some (.inr (8, fs))) (M : gM X yX10_letterAt cX10_letterAt 2 (some .int) (8, 1, 6) [.ref o, .int p] h z noP (thX IOE h z)) : gMh X yL_letterAt cL_letterAt 4 (some .int) [(0, 9, 12, 24)] (51, 1, 6) [.ref o, .int p, .ref w] h z (fun r h' z' => r = some (.int 1) ∧ h' = h ∧ z ≤ z') := by
  refine gMh.of pL (Nat.le_of_ble_eq_true rfl) ?_
  intro F hE
  refine g_aload_n dL_letterAt_0 rfl ?_
  refine g_iconst (nI 0) dL_letterAt_1 (by decide) ?_
  refine g_aload_n dL_letterAt_2 rfl ?_
  refine g_iload_n dL_letterAt_3 rfl ?_
  refine g_callVC kL_21 M h0 rfl rfl rfl (Nat.le_of_ble_eq_true rfl) (by decide) (by decide) (by decide) (by decide) dL_letterAt_4 hE (fun _ _ _ q => q) (by decide) (by decide) wlcIOE wcaIOE (fun _ _ _ q => q.1) (fun q h2 z2 hq => ?_)
  obtain ⟨-, rfl, hz2⟩ := hq
  refine g_astore_n dL_letterAt_12 (by decide) rfl ?_
  refine g_iconst (nI 1) dL_letterAt_13 (by decide) ?_
  exact g_hret hE ⟨rfl, rfl, hz2⟩ dL_letterAt_14 (by decide) (by decide)
theorem kw_rankOf : gWsH RL 134 yL_rankOf cL_rankOf 4 (some .int) [(0, 9, 12, 24)] 3 := ⟨⟨gm4 215 (by decide +kernel), gm4 216 (by decide +kernel), gm1 0 (by decide +kernel), gm4 217 (by decide +kernel)⟩, by decide, by decide, by decide⟩
set_option maxRecDepth 100000 in
set_option maxHeartbeats 4000000 in
theorem wL_rankOf {X : gX} {h : gH} {z o w : Nat} {fs : List Value} {g : Nat → Int64} {S : gH → Prop} {v : Int32} (p : Int32) (h0 : h o = some (.inr (8, fs))) (hw : h w = some (gJA X 1 g)) (hwo : w < o ∨ o + 162 ≤ w) (M : gM X yX10_rankOf cX10_rankOf 2 (some .int) (50, 0, 0) [.ref o, .int p] h z (fun r h' z' => r = some (.int (v)) ∧ z' = z ∧ S h' ∧ OffB h h' o 162) gNoX) : gMh X yL_rankOf cL_rankOf 4 (some .int) [(0, 9, 12, 24)] (51, 0, 0) [.ref o, .int p, .ref w] h z (fun r h' z' => r = some (.int 0) ∧ z' = z ∧ ∃ h1, S h1 ∧ OffB h h1 o 162 ∧ h' = gset h1 w (gJA X 1 (vp_updL g 0 (v.toInt64)))) := by
  refine gMh.of pL (Nat.le_of_ble_eq_true rfl) ?_
  intro F hE
  refine g_aload_n dL_rankOf_0 rfl ?_
  refine g_iconst (nI 0) dL_rankOf_1 (by decide) ?_
  refine g_aload_n dL_rankOf_2 rfl ?_
  refine g_iload_n dL_rankOf_3 rfl ?_
  refine g_callV0 kL_26 M h0 rfl rfl rfl (Nat.le_of_ble_eq_true rfl) (by decide) (by decide) (by decide) (by decide) dL_rankOf_4 ?_
  rintro v1 h1 z1 ⟨rfl, rfl, hS, hO⟩
  have hw1 := (hO w (by omega)).trans hw
  refine g_i2l dL_rankOf_7 ?_
  refine g_lastN (j := 0) hw1 (by decide) (by decide) dL_rankOf_8 ?_
  refine g_goto 15 dL_rankOf_9 (by decide) ?_
  refine g_iconst (nI 0) dL_rankOf_15 (by decide) ?_
  exact g_hret hE ⟨rfl, rfl, h1, hS, hO, rfl⟩ dL_rankOf_16 (by decide) (by decide)
set_option maxRecDepth 100000 in
set_option maxHeartbeats 4000000 in
theorem wX_rankOf {X : gX} {h : gH} {z o w : Nat} {fs : List Value} (p : Int32) (h0 : h o = some (.inr (8, fs))) (M : gM X yX10_rankOf cX10_rankOf 2 (some .int) (8, 1, 6) [.ref o, .int p] h z noP (thX IOE h z)) : gMh X yL_rankOf cL_rankOf 4 (some .int) [(0, 9, 12, 24)] (51, 1, 6) [.ref o, .int p, .ref w] h z (fun r h' z' => r = some (.int 1) ∧ h' = h ∧ z ≤ z') := by
  refine gMh.of pL (Nat.le_of_ble_eq_true rfl) ?_
  intro F hE
  refine g_aload_n dL_rankOf_0 rfl ?_
  refine g_iconst (nI 0) dL_rankOf_1 (by decide) ?_
  refine g_aload_n dL_rankOf_2 rfl ?_
  refine g_iload_n dL_rankOf_3 rfl ?_
  refine g_callVC kL_26 M h0 rfl rfl rfl (Nat.le_of_ble_eq_true rfl) (by decide) (by decide) (by decide) (by decide) dL_rankOf_4 hE (fun _ _ _ q => q) (by decide) (by decide) wlcIOE wcaIOE (fun _ _ _ q => q.1) (fun q h2 z2 hq => ?_)
  obtain ⟨-, rfl, hz2⟩ := hq
  refine g_astore_n dL_rankOf_12 (by decide) rfl ?_
  refine g_iconst (nI 1) dL_rankOf_13 (by decide) ?_
  exact g_hret hE ⟨rfl, rfl, hz2⟩ dL_rankOf_14 (by decide) (by decide)
theorem kw_placeAt : gWsH RL 137 yL_placeAt cL_placeAt 4 (some .int) [(0, 9, 12, 24)] 3 := ⟨⟨gm4 219 (by decide +kernel), gm4 220 (by decide +kernel), gm1 0 (by decide +kernel), gm4 221 (by decide +kernel)⟩, by decide, by decide, by decide⟩
set_option maxRecDepth 100000 in
set_option maxHeartbeats 4000000 in
theorem wL_placeAt {X : gX} {h : gH} {z o w : Nat} {fs : List Value} {g : Nat → Int64} {S : gH → Prop} {v : Int32} (p : Int32) (h0 : h o = some (.inr (8, fs))) (hw : h w = some (gJA X 1 g)) (hwo : w < o ∨ o + 162 ≤ w) (M : gM X yX10_placeAt cX10_placeAt 2 (some .int) (50, 0, 0) [.ref o, .int p] h z (fun r h' z' => r = some (.int (v)) ∧ z' = z ∧ S h' ∧ OffB h h' o 162) gNoX) : gMh X yL_placeAt cL_placeAt 4 (some .int) [(0, 9, 12, 24)] (51, 0, 0) [.ref o, .int p, .ref w] h z (fun r h' z' => r = some (.int 0) ∧ z' = z ∧ ∃ h1, S h1 ∧ OffB h h1 o 162 ∧ h' = gset h1 w (gJA X 1 (vp_updL g 0 (v.toInt64)))) := by
  refine gMh.of pL (Nat.le_of_ble_eq_true rfl) ?_
  intro F hE
  refine g_aload_n dL_placeAt_0 rfl ?_
  refine g_iconst (nI 0) dL_placeAt_1 (by decide) ?_
  refine g_aload_n dL_placeAt_2 rfl ?_
  refine g_iload_n dL_placeAt_3 rfl ?_
  refine g_callV0 kL_29 M h0 rfl rfl rfl (Nat.le_of_ble_eq_true rfl) (by decide) (by decide) (by decide) (by decide) dL_placeAt_4 ?_
  rintro v1 h1 z1 ⟨rfl, rfl, hS, hO⟩
  have hw1 := (hO w (by omega)).trans hw
  refine g_i2l dL_placeAt_7 ?_
  refine g_lastN (j := 0) hw1 (by decide) (by decide) dL_placeAt_8 ?_
  refine g_goto 15 dL_placeAt_9 (by decide) ?_
  refine g_iconst (nI 0) dL_placeAt_15 (by decide) ?_
  exact g_hret hE ⟨rfl, rfl, h1, hS, hO, rfl⟩ dL_placeAt_16 (by decide) (by decide)
set_option maxRecDepth 100000 in
set_option maxHeartbeats 4000000 in
theorem wX_placeAt {X : gX} {h : gH} {z o w : Nat} {fs : List Value} (p : Int32) (h0 : h o = some (.inr (8, fs))) (M : gM X yX10_placeAt cX10_placeAt 2 (some .int) (8, 1, 6) [.ref o, .int p] h z noP (thX IOE h z)) : gMh X yL_placeAt cL_placeAt 4 (some .int) [(0, 9, 12, 24)] (51, 1, 6) [.ref o, .int p, .ref w] h z (fun r h' z' => r = some (.int 1) ∧ h' = h ∧ z ≤ z') := by
  refine gMh.of pL (Nat.le_of_ble_eq_true rfl) ?_
  intro F hE
  refine g_aload_n dL_placeAt_0 rfl ?_
  refine g_iconst (nI 0) dL_placeAt_1 (by decide) ?_
  refine g_aload_n dL_placeAt_2 rfl ?_
  refine g_iload_n dL_placeAt_3 rfl ?_
  refine g_callVC kL_29 M h0 rfl rfl rfl (Nat.le_of_ble_eq_true rfl) (by decide) (by decide) (by decide) (by decide) dL_placeAt_4 hE (fun _ _ _ q => q) (by decide) (by decide) wlcIOE wcaIOE (fun _ _ _ q => q.1) (fun q h2 z2 hq => ?_)
  obtain ⟨-, rfl, hz2⟩ := hq
  refine g_astore_n dL_placeAt_12 (by decide) rfl ?_
  refine g_iconst (nI 1) dL_placeAt_13 (by decide) ?_
  exact g_hret hE ⟨rfl, rfl, hz2⟩ dL_placeAt_14 (by decide) (by decide)
theorem kw_sharedAt : gWsH RL 140 yL_sharedAt cL_sharedAt 4 (some .int) [(0, 9, 12, 24)] 3 := ⟨⟨gm4 230 (by decide +kernel), gm4 231 (by decide +kernel), gm1 0 (by decide +kernel), gm4 232 (by decide +kernel)⟩, by decide, by decide, by decide⟩
set_option maxRecDepth 100000 in
set_option maxHeartbeats 4000000 in
theorem wL_sharedAt {X : gX} {h : gH} {z o w : Nat} {fs : List Value} {g : Nat → Int64} {S : gH → Prop} {v : Int32} (p : Int32) (h0 : h o = some (.inr (8, fs))) (hw : h w = some (gJA X 1 g)) (hwo : w < o ∨ o + 162 ≤ w) (M : gM X yX10_sharedAt cX10_sharedAt 2 (some .int) (50, 0, 0) [.ref o, .int p] h z (fun r h' z' => r = some (.int (v)) ∧ z' = z ∧ S h' ∧ OffB h h' o 162) gNoX) : gMh X yL_sharedAt cL_sharedAt 4 (some .int) [(0, 9, 12, 24)] (51, 0, 0) [.ref o, .int p, .ref w] h z (fun r h' z' => r = some (.int 0) ∧ z' = z ∧ ∃ h1, S h1 ∧ OffB h h1 o 162 ∧ h' = gset h1 w (gJA X 1 (vp_updL g 0 (v.toInt64)))) := by
  refine gMh.of pL (Nat.le_of_ble_eq_true rfl) ?_
  intro F hE
  refine g_aload_n dL_sharedAt_0 rfl ?_
  refine g_iconst (nI 0) dL_sharedAt_1 (by decide) ?_
  refine g_aload_n dL_sharedAt_2 rfl ?_
  refine g_iload_n dL_sharedAt_3 rfl ?_
  refine g_callV0 kL_32 M h0 rfl rfl rfl (Nat.le_of_ble_eq_true rfl) (by decide) (by decide) (by decide) (by decide) dL_sharedAt_4 ?_
  rintro v1 h1 z1 ⟨rfl, rfl, hS, hO⟩
  have hw1 := (hO w (by omega)).trans hw
  refine g_i2l dL_sharedAt_7 ?_
  refine g_lastN (j := 0) hw1 (by decide) (by decide) dL_sharedAt_8 ?_
  refine g_goto 15 dL_sharedAt_9 (by decide) ?_
  refine g_iconst (nI 0) dL_sharedAt_15 (by decide) ?_
  exact g_hret hE ⟨rfl, rfl, h1, hS, hO, rfl⟩ dL_sharedAt_16 (by decide) (by decide)
set_option maxRecDepth 100000 in
set_option maxHeartbeats 4000000 in
theorem wX_sharedAt {X : gX} {h : gH} {z o w : Nat} {fs : List Value} (p : Int32) (h0 : h o = some (.inr (8, fs))) (M : gM X yX10_sharedAt cX10_sharedAt 2 (some .int) (8, 1, 6) [.ref o, .int p] h z noP (thX IOE h z)) : gMh X yL_sharedAt cL_sharedAt 4 (some .int) [(0, 9, 12, 24)] (51, 1, 6) [.ref o, .int p, .ref w] h z (fun r h' z' => r = some (.int 1) ∧ h' = h ∧ z ≤ z') := by
  refine gMh.of pL (Nat.le_of_ble_eq_true rfl) ?_
  intro F hE
  refine g_aload_n dL_sharedAt_0 rfl ?_
  refine g_iconst (nI 0) dL_sharedAt_1 (by decide) ?_
  refine g_aload_n dL_sharedAt_2 rfl ?_
  refine g_iload_n dL_sharedAt_3 rfl ?_
  refine g_callVC kL_32 M h0 rfl rfl rfl (Nat.le_of_ble_eq_true rfl) (by decide) (by decide) (by decide) (by decide) dL_sharedAt_4 hE (fun _ _ _ q => q) (by decide) (by decide) wlcIOE wcaIOE (fun _ _ _ q => q.1) (fun q h2 z2 hq => ?_)
  obtain ⟨-, rfl, hz2⟩ := hq
  refine g_astore_n dL_sharedAt_12 (by decide) rfl ?_
  refine g_iconst (nI 1) dL_sharedAt_13 (by decide) ?_
  exact g_hret hE ⟨rfl, rfl, hz2⟩ dL_sharedAt_14 (by decide) (by decide)
theorem kw_shared : gWsH RL 143 yL_shared cL_shared 5 (some .int) [(0, 10, 13, 24)] 4 := ⟨⟨gm4 234 (by decide +kernel), gm4 235 (by decide +kernel), gm1 0 (by decide +kernel), gm4 236 (by decide +kernel)⟩, by decide, by decide, by decide⟩
set_option maxRecDepth 100000 in
set_option maxHeartbeats 4000000 in
theorem wL_shared {X : gX} {h : gH} {z o w : Nat} {fs : List Value} {g : Nat → Int64} {S : gH → Prop} {v : Int32} (p q : Int32) (h0 : h o = some (.inr (8, fs))) (hw : h w = some (gJA X 1 g)) (hwo : w < o ∨ o + 162 ≤ w) (M : gM X yX10_shared cX10_shared 3 (some .int) (50, 0, 0) [.ref o, .int p, .int q] h z (fun r h' z' => r = some (.int (v)) ∧ z' = z ∧ S h' ∧ OffB h h' o 162) gNoX) : gMh X yL_shared cL_shared 5 (some .int) [(0, 10, 13, 24)] (51, 0, 0) [.ref o, .int p, .int q, .ref w] h z (fun r h' z' => r = some (.int 0) ∧ z' = z ∧ ∃ h1, S h1 ∧ OffB h h1 o 162 ∧ h' = gset h1 w (gJA X 1 (vp_updL g 0 (v.toInt64)))) := by
  refine gMh.of pL (Nat.le_of_ble_eq_true rfl) ?_
  intro F hE
  refine g_aload_n dL_shared_0 rfl ?_
  refine g_iconst (nI 0) dL_shared_1 (by decide) ?_
  refine g_aload_n dL_shared_2 rfl ?_
  refine g_iload_n dL_shared_3 rfl ?_
  refine g_iload_n dL_shared_4 rfl ?_
  refine g_callV0 kL_35 M h0 rfl rfl rfl (Nat.le_of_ble_eq_true rfl) (by decide) (by decide) (by decide) (by decide) dL_shared_5 ?_
  rintro v1 h1 z1 ⟨rfl, rfl, hS, hO⟩
  have hw1 := (hO w (by omega)).trans hw
  refine g_i2l dL_shared_8 ?_
  refine g_lastN (j := 0) hw1 (by decide) (by decide) dL_shared_9 ?_
  refine g_goto 17 dL_shared_10 (by decide) ?_
  refine g_iconst (nI 0) dL_shared_17 (by decide) ?_
  exact g_hret hE ⟨rfl, rfl, h1, hS, hO, rfl⟩ dL_shared_18 (by decide) (by decide)
set_option maxRecDepth 100000 in
set_option maxHeartbeats 4000000 in
theorem wX_shared {X : gX} {h : gH} {z o w : Nat} {fs : List Value} (p q : Int32) (h0 : h o = some (.inr (8, fs))) (M : gM X yX10_shared cX10_shared 3 (some .int) (8, 1, 6) [.ref o, .int p, .int q] h z noP (thX IOE h z)) : gMh X yL_shared cL_shared 5 (some .int) [(0, 10, 13, 24)] (51, 1, 6) [.ref o, .int p, .int q, .ref w] h z (fun r h' z' => r = some (.int 1) ∧ h' = h ∧ z ≤ z') := by
  refine gMh.of pL (Nat.le_of_ble_eq_true rfl) ?_
  intro F hE
  refine g_aload_n dL_shared_0 rfl ?_
  refine g_iconst (nI 0) dL_shared_1 (by decide) ?_
  refine g_aload_n dL_shared_2 rfl ?_
  refine g_iload_n dL_shared_3 rfl ?_
  refine g_iload_n dL_shared_4 rfl ?_
  refine g_callVC kL_35 M h0 rfl rfl rfl (Nat.le_of_ble_eq_true rfl) (by decide) (by decide) (by decide) (by decide) dL_shared_5 hE (fun _ _ _ q => q) (by decide) (by decide) wlcIOE wcaIOE (fun _ _ _ q => q.1) (fun q h2 z2 hq => ?_)
  obtain ⟨-, rfl, hz2⟩ := hq
  refine g_astore dL_shared_13 (by decide) rfl ?_
  refine g_iconst (nI 1) dL_shared_15 (by decide) ?_
  exact g_hret hE ⟨rfl, rfl, hz2⟩ dL_shared_16 (by decide) (by decide)
theorem kw_isAhead : gWsH RL 147 yL_isAhead cL_isAhead 5 (some .int) [(0, 17, 20, 24)] 4 := ⟨⟨gm5 2 (by decide +kernel), gm5 3 (by decide +kernel), gm1 0 (by decide +kernel), gm5 4 (by decide +kernel)⟩, by decide, by decide, by decide⟩
set_option maxRecDepth 100000 in
set_option maxHeartbeats 4000000 in
theorem wL_isAhead {X : gX} {h : gH} {z o w : Nat} {fs : List Value} {g : Nat → Int64} {S : gH → Prop} {v : Bool} (p q : Int32) (h0 : h o = some (.inr (8, fs))) (hw : h w = some (gJA X 1 g)) (hwo : w < o ∨ o + 162 ≤ w) (M : gM X yX10_isAhead cX10_isAhead 3 (some .boolean) (50, 0, 0) [.ref o, .int p, .int q] h z (fun r h' z' => r = some (.int (b2i v)) ∧ z' = z ∧ S h' ∧ OffB h h' o 162) gNoX) : gMh X yL_isAhead cL_isAhead 5 (some .int) [(0, 17, 20, 24)] (51, 0, 0) [.ref o, .int p, .int q, .ref w] h z (fun r h' z' => r = some (.int 0) ∧ z' = z ∧ ∃ h1, S h1 ∧ OffB h h1 o 162 ∧ h' = gset h1 w (gJA X 1 (vp_updL g 0 (b2l v)))) := by
  refine gMh.of pL (Nat.le_of_ble_eq_true rfl) ?_
  intro F hE
  refine g_aload_n dL_isAhead_0 rfl ?_
  refine g_iconst (nI 0) dL_isAhead_1 (by decide) ?_
  refine g_aload_n dL_isAhead_2 rfl ?_
  refine g_iload_n dL_isAhead_3 rfl ?_
  refine g_iload_n dL_isAhead_4 rfl ?_
  refine g_callV0 kL_39 M h0 rfl rfl rfl (Nat.le_of_ble_eq_true rfl) (by decide) (by decide) (by decide) (by decide) dL_isAhead_5 ?_
  rintro v1 h1 z1 ⟨rfl, rfl, hS, hO⟩
  have hw1 := (hO w (by omega)).trans hw
  refine g_if_eqB 15 dL_isAhead_8 (by decide) (fun c_8 => ?_) (fun c_8 => ?_)
  · refine g_lconst (lN 0) dL_isAhead_15 rfl ?_
    refine g_lastN (j := 0) hw1 (by decide) (by decide) dL_isAhead_16 ?_
    refine g_goto 24 dL_isAhead_17 (by decide) ?_
    refine g_iconst (nI 0) dL_isAhead_24 (by decide) ?_
    exact g_hret hE ⟨rfl, rfl, h1, hS, hO, by rw [c_8]; rfl⟩ dL_isAhead_25 (by decide) (by decide)
  · refine g_lconst (lN 1) dL_isAhead_11 rfl ?_
    refine g_goto 16 dL_isAhead_12 (by decide) ?_
    refine g_lastN (j := 0) hw1 (by decide) (by decide) dL_isAhead_16 ?_
    refine g_goto 24 dL_isAhead_17 (by decide) ?_
    refine g_iconst (nI 0) dL_isAhead_24 (by decide) ?_
    exact g_hret hE ⟨rfl, rfl, h1, hS, hO, by rw [c_8]; rfl⟩ dL_isAhead_25 (by decide) (by decide)
set_option maxRecDepth 100000 in
set_option maxHeartbeats 4000000 in
theorem wX_isAhead {X : gX} {h : gH} {z o w : Nat} {fs : List Value} (p q : Int32) (h0 : h o = some (.inr (8, fs))) (M : gM X yX10_isAhead cX10_isAhead 3 (some .boolean) (8, 1, 6) [.ref o, .int p, .int q] h z noP (thX IOE h z)) : gMh X yL_isAhead cL_isAhead 5 (some .int) [(0, 17, 20, 24)] (51, 1, 6) [.ref o, .int p, .int q, .ref w] h z (fun r h' z' => r = some (.int 1) ∧ h' = h ∧ z ≤ z') := by
  refine gMh.of pL (Nat.le_of_ble_eq_true rfl) ?_
  intro F hE
  refine g_aload_n dL_isAhead_0 rfl ?_
  refine g_iconst (nI 0) dL_isAhead_1 (by decide) ?_
  refine g_aload_n dL_isAhead_2 rfl ?_
  refine g_iload_n dL_isAhead_3 rfl ?_
  refine g_iload_n dL_isAhead_4 rfl ?_
  refine g_callVC kL_39 M h0 rfl rfl rfl (Nat.le_of_ble_eq_true rfl) (by decide) (by decide) (by decide) (by decide) dL_isAhead_5 hE (fun _ _ _ q => q) (by decide) (by decide) wlcIOE wcaIOE (fun _ _ _ q => q.1) (fun q h2 z2 hq => ?_)
  obtain ⟨-, rfl, hz2⟩ := hq
  refine g_astore dL_isAhead_20 (by decide) rfl ?_
  refine g_iconst (nI 1) dL_isAhead_22 (by decide) ?_
  exact g_hret hE ⟨rfl, rfl, hz2⟩ dL_isAhead_23 (by decide) (by decide)
theorem kw_kindsOf : gWsH RL 162 yL_kindsOf cL_kindsOf 4 (some .int) [(0, 9, 12, 19)] 3 := ⟨⟨gm5 9 (by decide +kernel), gm5 10 (by decide +kernel), gm1 0 (by decide +kernel), gm5 11 (by decide +kernel)⟩, by decide, by decide, by decide⟩
set_option maxRecDepth 100000 in
set_option maxHeartbeats 4000000 in
theorem wL_kindsOf {X : gX} {h : gH} {z o w : Nat} {fs : List Value} {g : Nat → Int64} {S : gH → Prop} {v : Int32} (p : Int32) (h0 : h o = some (.inr (8, fs))) (hw : h w = some (gJA X 1 g)) (hwo : w < o ∨ o + 162 ≤ w) (M : gM X yX10_kindsOf cX10_kindsOf 2 (some .int) (50, 0, 0) [.ref o, .int p] h z (fun r h' z' => r = some (.int (v)) ∧ z' = z ∧ S h' ∧ OffB h h' o 162) gNoX) : gMh X yL_kindsOf cL_kindsOf 4 (some .int) [(0, 9, 12, 19)] (51, 0, 0) [.ref o, .int p, .ref w] h z (fun r h' z' => r = some (.int 0) ∧ z' = z ∧ ∃ h1, S h1 ∧ OffB h h1 o 162 ∧ h' = gset h1 w (gJA X 1 (vp_updL g 0 (v.toInt64)))) := by
  refine gMh.of pL (Nat.le_of_ble_eq_true rfl) ?_
  intro F hE
  refine g_aload_n dL_kindsOf_0 rfl ?_
  refine g_iconst (nI 0) dL_kindsOf_1 (by decide) ?_
  refine g_aload_n dL_kindsOf_2 rfl ?_
  refine g_iload_n dL_kindsOf_3 rfl ?_
  refine g_callV0 kL_43 M h0 rfl rfl rfl (Nat.le_of_ble_eq_true rfl) (by decide) (by decide) (by decide) (by decide) dL_kindsOf_4 ?_
  rintro v1 h1 z1 ⟨rfl, rfl, hS, hO⟩
  have hw1 := (hO w (by omega)).trans hw
  refine g_i2l dL_kindsOf_7 ?_
  refine g_lastN (j := 0) hw1 (by decide) (by decide) dL_kindsOf_8 ?_
  refine g_goto 15 dL_kindsOf_9 (by decide) ?_
  refine g_iconst (nI 0) dL_kindsOf_15 (by decide) ?_
  exact g_hret hE ⟨rfl, rfl, h1, hS, hO, rfl⟩ dL_kindsOf_16 (by decide) (by decide)
set_option maxRecDepth 100000 in
set_option maxHeartbeats 4000000 in
theorem wX_kindsOf {X : gX} {h : gH} {z o w : Nat} {fs : List Value} (p : Int32) (h0 : h o = some (.inr (8, fs))) (M : gM X yX10_kindsOf cX10_kindsOf 2 (some .int) (8, 1, 6) [.ref o, .int p] h z noP (thX IAE h z)) : gMh X yL_kindsOf cL_kindsOf 4 (some .int) [(0, 9, 12, 19)] (51, 1, 6) [.ref o, .int p, .ref w] h z (fun r h' z' => r = some (.int 1) ∧ h' = h ∧ z ≤ z') := by
  refine gMh.of pL (Nat.le_of_ble_eq_true rfl) ?_
  intro F hE
  refine g_aload_n dL_kindsOf_0 rfl ?_
  refine g_iconst (nI 0) dL_kindsOf_1 (by decide) ?_
  refine g_aload_n dL_kindsOf_2 rfl ?_
  refine g_iload_n dL_kindsOf_3 rfl ?_
  refine g_callVC kL_43 M h0 rfl rfl rfl (Nat.le_of_ble_eq_true rfl) (by decide) (by decide) (by decide) (by decide) dL_kindsOf_4 hE (fun _ _ _ q => q) (by decide) (by decide) wlcIAE wcaIAE (fun _ _ _ q => q.1) (fun q h2 z2 hq => ?_)
  obtain ⟨-, rfl, hz2⟩ := hq
  refine g_astore_n dL_kindsOf_12 (by decide) rfl ?_
  refine g_iconst (nI 1) dL_kindsOf_13 (by decide) ?_
  exact g_hret hE ⟨rfl, rfl, hz2⟩ dL_kindsOf_14 (by decide) (by decide)
theorem kw_repeatedOf : gWsH RL 165 yL_repeatedOf cL_repeatedOf 4 (some .int) [(0, 9, 12, 19)] 3 := ⟨⟨gm5 25 (by decide +kernel), gm5 26 (by decide +kernel), gm1 0 (by decide +kernel), gm5 27 (by decide +kernel)⟩, by decide, by decide, by decide⟩
set_option maxRecDepth 100000 in
set_option maxHeartbeats 4000000 in
theorem wL_repeatedOf {X : gX} {h : gH} {z o w : Nat} {fs : List Value} {g : Nat → Int64} {S : gH → Prop} {v : Int32} (p : Int32) (h0 : h o = some (.inr (8, fs))) (hw : h w = some (gJA X 1 g)) (hwo : w < o ∨ o + 162 ≤ w) (M : gM X yX10_repeatedOf cX10_repeatedOf 2 (some .int) (50, 0, 0) [.ref o, .int p] h z (fun r h' z' => r = some (.int (v)) ∧ z' = z ∧ S h' ∧ OffB h h' o 162) gNoX) : gMh X yL_repeatedOf cL_repeatedOf 4 (some .int) [(0, 9, 12, 19)] (51, 0, 0) [.ref o, .int p, .ref w] h z (fun r h' z' => r = some (.int 0) ∧ z' = z ∧ ∃ h1, S h1 ∧ OffB h h1 o 162 ∧ h' = gset h1 w (gJA X 1 (vp_updL g 0 (v.toInt64)))) := by
  refine gMh.of pL (Nat.le_of_ble_eq_true rfl) ?_
  intro F hE
  refine g_aload_n dL_repeatedOf_0 rfl ?_
  refine g_iconst (nI 0) dL_repeatedOf_1 (by decide) ?_
  refine g_aload_n dL_repeatedOf_2 rfl ?_
  refine g_iload_n dL_repeatedOf_3 rfl ?_
  refine g_callV0 kL_46 M h0 rfl rfl rfl (Nat.le_of_ble_eq_true rfl) (by decide) (by decide) (by decide) (by decide) dL_repeatedOf_4 ?_
  rintro v1 h1 z1 ⟨rfl, rfl, hS, hO⟩
  have hw1 := (hO w (by omega)).trans hw
  refine g_i2l dL_repeatedOf_7 ?_
  refine g_lastN (j := 0) hw1 (by decide) (by decide) dL_repeatedOf_8 ?_
  refine g_goto 15 dL_repeatedOf_9 (by decide) ?_
  refine g_iconst (nI 0) dL_repeatedOf_15 (by decide) ?_
  exact g_hret hE ⟨rfl, rfl, h1, hS, hO, rfl⟩ dL_repeatedOf_16 (by decide) (by decide)
set_option maxRecDepth 100000 in
set_option maxHeartbeats 4000000 in
theorem wX_repeatedOf {X : gX} {h : gH} {z o w : Nat} {fs : List Value} (p : Int32) (h0 : h o = some (.inr (8, fs))) (M : gM X yX10_repeatedOf cX10_repeatedOf 2 (some .int) (8, 1, 6) [.ref o, .int p] h z noP (thX IAE h z)) : gMh X yL_repeatedOf cL_repeatedOf 4 (some .int) [(0, 9, 12, 19)] (51, 1, 6) [.ref o, .int p, .ref w] h z (fun r h' z' => r = some (.int 1) ∧ h' = h ∧ z ≤ z') := by
  refine gMh.of pL (Nat.le_of_ble_eq_true rfl) ?_
  intro F hE
  refine g_aload_n dL_repeatedOf_0 rfl ?_
  refine g_iconst (nI 0) dL_repeatedOf_1 (by decide) ?_
  refine g_aload_n dL_repeatedOf_2 rfl ?_
  refine g_iload_n dL_repeatedOf_3 rfl ?_
  refine g_callVC kL_46 M h0 rfl rfl rfl (Nat.le_of_ble_eq_true rfl) (by decide) (by decide) (by decide) (by decide) dL_repeatedOf_4 hE (fun _ _ _ q => q) (by decide) (by decide) wlcIAE wcaIAE (fun _ _ _ q => q.1) (fun q h2 z2 hq => ?_)
  obtain ⟨-, rfl, hz2⟩ := hq
  refine g_astore_n dL_repeatedOf_12 (by decide) rfl ?_
  refine g_iconst (nI 1) dL_repeatedOf_13 (by decide) ?_
  exact g_hret hE ⟨rfl, rfl, hz2⟩ dL_repeatedOf_14 (by decide) (by decide)
theorem kw_lettersOf : gWsH RL 172 yL_lettersOf cL_lettersOf 4 (some .int) [(0, 9, 12, 24)] 3 := ⟨⟨gm5 36 (by decide +kernel), gm5 37 (by decide +kernel), gm1 0 (by decide +kernel), gm5 38 (by decide +kernel)⟩, by decide, by decide, by decide⟩
set_option maxRecDepth 100000 in
set_option maxHeartbeats 4000000 in
theorem wL_lettersOf {X : gX} {h : gH} {z o w : Nat} {fs : List Value} {g : Nat → Int64} {S : gH → Prop} {v : Int32} (p : Int32) (h0 : h o = some (.inr (8, fs))) (hw : h w = some (gJA X 1 g)) (hwo : w < o ∨ o + 162 ≤ w) (M : gM X yX10_lettersOf cX10_lettersOf 2 (some .int) (50, 0, 0) [.ref o, .int p] h z (fun r h' z' => r = some (.int (v)) ∧ z' = z ∧ S h' ∧ OffB h h' o 162) gNoX) : gMh X yL_lettersOf cL_lettersOf 4 (some .int) [(0, 9, 12, 24)] (51, 0, 0) [.ref o, .int p, .ref w] h z (fun r h' z' => r = some (.int 0) ∧ z' = z ∧ ∃ h1, S h1 ∧ OffB h h1 o 162 ∧ h' = gset h1 w (gJA X 1 (vp_updL g 0 (v.toInt64)))) := by
  refine gMh.of pL (Nat.le_of_ble_eq_true rfl) ?_
  intro F hE
  refine g_aload_n dL_lettersOf_0 rfl ?_
  refine g_iconst (nI 0) dL_lettersOf_1 (by decide) ?_
  refine g_aload_n dL_lettersOf_2 rfl ?_
  refine g_iload_n dL_lettersOf_3 rfl ?_
  refine g_callV0 kL_49 M h0 rfl rfl rfl (Nat.le_of_ble_eq_true rfl) (by decide) (by decide) (by decide) (by decide) dL_lettersOf_4 ?_
  rintro v1 h1 z1 ⟨rfl, rfl, hS, hO⟩
  have hw1 := (hO w (by omega)).trans hw
  refine g_i2l dL_lettersOf_7 ?_
  refine g_lastN (j := 0) hw1 (by decide) (by decide) dL_lettersOf_8 ?_
  refine g_goto 15 dL_lettersOf_9 (by decide) ?_
  refine g_iconst (nI 0) dL_lettersOf_15 (by decide) ?_
  exact g_hret hE ⟨rfl, rfl, h1, hS, hO, rfl⟩ dL_lettersOf_16 (by decide) (by decide)
set_option maxRecDepth 100000 in
set_option maxHeartbeats 4000000 in
theorem wX_lettersOf {X : gX} {h : gH} {z o w : Nat} {fs : List Value} (p : Int32) (h0 : h o = some (.inr (8, fs))) (M : gM X yX10_lettersOf cX10_lettersOf 2 (some .int) (8, 1, 6) [.ref o, .int p] h z noP (thX IOE h z)) : gMh X yL_lettersOf cL_lettersOf 4 (some .int) [(0, 9, 12, 24)] (51, 1, 6) [.ref o, .int p, .ref w] h z (fun r h' z' => r = some (.int 1) ∧ h' = h ∧ z ≤ z') := by
  refine gMh.of pL (Nat.le_of_ble_eq_true rfl) ?_
  intro F hE
  refine g_aload_n dL_lettersOf_0 rfl ?_
  refine g_iconst (nI 0) dL_lettersOf_1 (by decide) ?_
  refine g_aload_n dL_lettersOf_2 rfl ?_
  refine g_iload_n dL_lettersOf_3 rfl ?_
  refine g_callVC kL_49 M h0 rfl rfl rfl (Nat.le_of_ble_eq_true rfl) (by decide) (by decide) (by decide) (by decide) dL_lettersOf_4 hE (fun _ _ _ q => q) (by decide) (by decide) wlcIOE wcaIOE (fun _ _ _ q => q.1) (fun q h2 z2 hq => ?_)
  obtain ⟨-, rfl, hz2⟩ := hq
  refine g_astore_n dL_lettersOf_12 (by decide) rfl ?_
  refine g_iconst (nI 1) dL_lettersOf_13 (by decide) ?_
  exact g_hret hE ⟨rfl, rfl, hz2⟩ dL_lettersOf_14 (by decide) (by decide)
theorem kw_countOf : gWsH RL 175 yL_countOf cL_countOf 4 (some .int) [(0, 9, 12, 24)] 3 := ⟨⟨gm5 43 (by decide +kernel), gm5 44 (by decide +kernel), gm1 0 (by decide +kernel), gm5 45 (by decide +kernel)⟩, by decide, by decide, by decide⟩
set_option maxRecDepth 100000 in
set_option maxHeartbeats 4000000 in
theorem wL_countOf {X : gX} {h : gH} {z o w : Nat} {fs : List Value} {g : Nat → Int64} {S : gH → Prop} {v : Int32} (p : Int32) (h0 : h o = some (.inr (8, fs))) (hw : h w = some (gJA X 1 g)) (hwo : w < o ∨ o + 162 ≤ w) (M : gM X yX10_countOf cX10_countOf 2 (some .int) (50, 0, 0) [.ref o, .int p] h z (fun r h' z' => r = some (.int (v)) ∧ z' = z ∧ S h' ∧ OffB h h' o 162) gNoX) : gMh X yL_countOf cL_countOf 4 (some .int) [(0, 9, 12, 24)] (51, 0, 0) [.ref o, .int p, .ref w] h z (fun r h' z' => r = some (.int 0) ∧ z' = z ∧ ∃ h1, S h1 ∧ OffB h h1 o 162 ∧ h' = gset h1 w (gJA X 1 (vp_updL g 0 (v.toInt64)))) := by
  refine gMh.of pL (Nat.le_of_ble_eq_true rfl) ?_
  intro F hE
  refine g_aload_n dL_countOf_0 rfl ?_
  refine g_iconst (nI 0) dL_countOf_1 (by decide) ?_
  refine g_aload_n dL_countOf_2 rfl ?_
  refine g_iload_n dL_countOf_3 rfl ?_
  refine g_callV0 kL_52 M h0 rfl rfl rfl (Nat.le_of_ble_eq_true rfl) (by decide) (by decide) (by decide) (by decide) dL_countOf_4 ?_
  rintro v1 h1 z1 ⟨rfl, rfl, hS, hO⟩
  have hw1 := (hO w (by omega)).trans hw
  refine g_i2l dL_countOf_7 ?_
  refine g_lastN (j := 0) hw1 (by decide) (by decide) dL_countOf_8 ?_
  refine g_goto 15 dL_countOf_9 (by decide) ?_
  refine g_iconst (nI 0) dL_countOf_15 (by decide) ?_
  exact g_hret hE ⟨rfl, rfl, h1, hS, hO, rfl⟩ dL_countOf_16 (by decide) (by decide)
set_option maxRecDepth 100000 in
set_option maxHeartbeats 4000000 in
theorem wX_countOf {X : gX} {h : gH} {z o w : Nat} {fs : List Value} (p : Int32) (h0 : h o = some (.inr (8, fs))) (M : gM X yX10_countOf cX10_countOf 2 (some .int) (8, 1, 6) [.ref o, .int p] h z noP (thX IOE h z)) : gMh X yL_countOf cL_countOf 4 (some .int) [(0, 9, 12, 24)] (51, 1, 6) [.ref o, .int p, .ref w] h z (fun r h' z' => r = some (.int 1) ∧ h' = h ∧ z ≤ z') := by
  refine gMh.of pL (Nat.le_of_ble_eq_true rfl) ?_
  intro F hE
  refine g_aload_n dL_countOf_0 rfl ?_
  refine g_iconst (nI 0) dL_countOf_1 (by decide) ?_
  refine g_aload_n dL_countOf_2 rfl ?_
  refine g_iload_n dL_countOf_3 rfl ?_
  refine g_callVC kL_52 M h0 rfl rfl rfl (Nat.le_of_ble_eq_true rfl) (by decide) (by decide) (by decide) (by decide) dL_countOf_4 hE (fun _ _ _ q => q) (by decide) (by decide) wlcIOE wcaIOE (fun _ _ _ q => q.1) (fun q h2 z2 hq => ?_)
  obtain ⟨-, rfl, hz2⟩ := hq
  refine g_astore_n dL_countOf_12 (by decide) rfl ?_
  refine g_iconst (nI 1) dL_countOf_13 (by decide) ?_
  exact g_hret hE ⟨rfl, rfl, hz2⟩ dL_countOf_14 (by decide) (by decide)
theorem kw_firstOf : gWsH RL 178 yL_firstOf cL_firstOf 4 (some .int) [(0, 9, 12, 24)] 3 := ⟨⟨gm5 47 (by decide +kernel), gm5 48 (by decide +kernel), gm1 0 (by decide +kernel), gm5 49 (by decide +kernel)⟩, by decide, by decide, by decide⟩
set_option maxRecDepth 100000 in
set_option maxHeartbeats 4000000 in
theorem wL_firstOf {X : gX} {h : gH} {z o w : Nat} {fs : List Value} {g : Nat → Int64} {S : gH → Prop} {v : Int32} (p : Int32) (h0 : h o = some (.inr (8, fs))) (hw : h w = some (gJA X 1 g)) (hwo : w < o ∨ o + 162 ≤ w) (M : gM X yX10_firstOf cX10_firstOf 2 (some .int) (50, 0, 0) [.ref o, .int p] h z (fun r h' z' => r = some (.int (v)) ∧ z' = z ∧ S h' ∧ OffB h h' o 162) gNoX) : gMh X yL_firstOf cL_firstOf 4 (some .int) [(0, 9, 12, 24)] (51, 0, 0) [.ref o, .int p, .ref w] h z (fun r h' z' => r = some (.int 0) ∧ z' = z ∧ ∃ h1, S h1 ∧ OffB h h1 o 162 ∧ h' = gset h1 w (gJA X 1 (vp_updL g 0 (v.toInt64)))) := by
  refine gMh.of pL (Nat.le_of_ble_eq_true rfl) ?_
  intro F hE
  refine g_aload_n dL_firstOf_0 rfl ?_
  refine g_iconst (nI 0) dL_firstOf_1 (by decide) ?_
  refine g_aload_n dL_firstOf_2 rfl ?_
  refine g_iload_n dL_firstOf_3 rfl ?_
  refine g_callV0 kL_55 M h0 rfl rfl rfl (Nat.le_of_ble_eq_true rfl) (by decide) (by decide) (by decide) (by decide) dL_firstOf_4 ?_
  rintro v1 h1 z1 ⟨rfl, rfl, hS, hO⟩
  have hw1 := (hO w (by omega)).trans hw
  refine g_i2l dL_firstOf_7 ?_
  refine g_lastN (j := 0) hw1 (by decide) (by decide) dL_firstOf_8 ?_
  refine g_goto 15 dL_firstOf_9 (by decide) ?_
  refine g_iconst (nI 0) dL_firstOf_15 (by decide) ?_
  exact g_hret hE ⟨rfl, rfl, h1, hS, hO, rfl⟩ dL_firstOf_16 (by decide) (by decide)
set_option maxRecDepth 100000 in
set_option maxHeartbeats 4000000 in
theorem wX_firstOf {X : gX} {h : gH} {z o w : Nat} {fs : List Value} (p : Int32) (h0 : h o = some (.inr (8, fs))) (M : gM X yX10_firstOf cX10_firstOf 2 (some .int) (8, 1, 6) [.ref o, .int p] h z noP (thX IOE h z)) : gMh X yL_firstOf cL_firstOf 4 (some .int) [(0, 9, 12, 24)] (51, 1, 6) [.ref o, .int p, .ref w] h z (fun r h' z' => r = some (.int 1) ∧ h' = h ∧ z ≤ z') := by
  refine gMh.of pL (Nat.le_of_ble_eq_true rfl) ?_
  intro F hE
  refine g_aload_n dL_firstOf_0 rfl ?_
  refine g_iconst (nI 0) dL_firstOf_1 (by decide) ?_
  refine g_aload_n dL_firstOf_2 rfl ?_
  refine g_iload_n dL_firstOf_3 rfl ?_
  refine g_callVC kL_55 M h0 rfl rfl rfl (Nat.le_of_ble_eq_true rfl) (by decide) (by decide) (by decide) (by decide) dL_firstOf_4 hE (fun _ _ _ q => q) (by decide) (by decide) wlcIOE wcaIOE (fun _ _ _ q => q.1) (fun q h2 z2 hq => ?_)
  obtain ⟨-, rfl, hz2⟩ := hq
  refine g_astore_n dL_firstOf_12 (by decide) rfl ?_
  refine g_iconst (nI 1) dL_firstOf_13 (by decide) ?_
  exact g_hret hE ⟨rfl, rfl, hz2⟩ dL_firstOf_14 (by decide) (by decide)
theorem kw_lastOf : gWsH RL 181 yL_lastOf cL_lastOf 4 (some .int) [(0, 9, 12, 24)] 3 := ⟨⟨gm5 51 (by decide +kernel), gm5 52 (by decide +kernel), gm1 0 (by decide +kernel), gm5 53 (by decide +kernel)⟩, by decide, by decide, by decide⟩
set_option maxRecDepth 100000 in
set_option maxHeartbeats 4000000 in
theorem wL_lastOf {X : gX} {h : gH} {z o w : Nat} {fs : List Value} {g : Nat → Int64} {S : gH → Prop} {v : Int32} (p : Int32) (h0 : h o = some (.inr (8, fs))) (hw : h w = some (gJA X 1 g)) (hwo : w < o ∨ o + 162 ≤ w) (M : gM X yX10_lastOf cX10_lastOf 2 (some .int) (50, 0, 0) [.ref o, .int p] h z (fun r h' z' => r = some (.int (v)) ∧ z' = z ∧ S h' ∧ OffB h h' o 162) gNoX) : gMh X yL_lastOf cL_lastOf 4 (some .int) [(0, 9, 12, 24)] (51, 0, 0) [.ref o, .int p, .ref w] h z (fun r h' z' => r = some (.int 0) ∧ z' = z ∧ ∃ h1, S h1 ∧ OffB h h1 o 162 ∧ h' = gset h1 w (gJA X 1 (vp_updL g 0 (v.toInt64)))) := by
  refine gMh.of pL (Nat.le_of_ble_eq_true rfl) ?_
  intro F hE
  refine g_aload_n dL_lastOf_0 rfl ?_
  refine g_iconst (nI 0) dL_lastOf_1 (by decide) ?_
  refine g_aload_n dL_lastOf_2 rfl ?_
  refine g_iload_n dL_lastOf_3 rfl ?_
  refine g_callV0 kL_58 M h0 rfl rfl rfl (Nat.le_of_ble_eq_true rfl) (by decide) (by decide) (by decide) (by decide) dL_lastOf_4 ?_
  rintro v1 h1 z1 ⟨rfl, rfl, hS, hO⟩
  have hw1 := (hO w (by omega)).trans hw
  refine g_i2l dL_lastOf_7 ?_
  refine g_lastN (j := 0) hw1 (by decide) (by decide) dL_lastOf_8 ?_
  refine g_goto 15 dL_lastOf_9 (by decide) ?_
  refine g_iconst (nI 0) dL_lastOf_15 (by decide) ?_
  exact g_hret hE ⟨rfl, rfl, h1, hS, hO, rfl⟩ dL_lastOf_16 (by decide) (by decide)
set_option maxRecDepth 100000 in
set_option maxHeartbeats 4000000 in
theorem wX_lastOf {X : gX} {h : gH} {z o w : Nat} {fs : List Value} (p : Int32) (h0 : h o = some (.inr (8, fs))) (M : gM X yX10_lastOf cX10_lastOf 2 (some .int) (8, 1, 6) [.ref o, .int p] h z noP (thX IOE h z)) : gMh X yL_lastOf cL_lastOf 4 (some .int) [(0, 9, 12, 24)] (51, 1, 6) [.ref o, .int p, .ref w] h z (fun r h' z' => r = some (.int 1) ∧ h' = h ∧ z ≤ z') := by
  refine gMh.of pL (Nat.le_of_ble_eq_true rfl) ?_
  intro F hE
  refine g_aload_n dL_lastOf_0 rfl ?_
  refine g_iconst (nI 0) dL_lastOf_1 (by decide) ?_
  refine g_aload_n dL_lastOf_2 rfl ?_
  refine g_iload_n dL_lastOf_3 rfl ?_
  refine g_callVC kL_58 M h0 rfl rfl rfl (Nat.le_of_ble_eq_true rfl) (by decide) (by decide) (by decide) (by decide) dL_lastOf_4 hE (fun _ _ _ q => q) (by decide) (by decide) wlcIOE wcaIOE (fun _ _ _ q => q.1) (fun q h2 z2 hq => ?_)
  obtain ⟨-, rfl, hz2⟩ := hq
  refine g_astore_n dL_lastOf_12 (by decide) rfl ?_
  refine g_iconst (nI 1) dL_lastOf_13 (by decide) ?_
  exact g_hret hE ⟨rfl, rfl, hz2⟩ dL_lastOf_14 (by decide) (by decide)
theorem kw_stepsTo : gWsH RL 184 yL_stepsTo cL_stepsTo 4 (some .int) [(0, 9, 12, 24)] 3 := ⟨⟨gm5 55 (by decide +kernel), gm5 56 (by decide +kernel), gm1 0 (by decide +kernel), gm5 57 (by decide +kernel)⟩, by decide, by decide, by decide⟩
set_option maxRecDepth 100000 in
set_option maxHeartbeats 4000000 in
theorem wL_stepsTo {X : gX} {h : gH} {z o w : Nat} {fs : List Value} {g : Nat → Int64} {S : gH → Prop} {v : Int32} (p : Int32) (h0 : h o = some (.inr (8, fs))) (hw : h w = some (gJA X 1 g)) (hwo : w < o ∨ o + 162 ≤ w) (M : gM X yX10_stepsTo cX10_stepsTo 2 (some .int) (50, 0, 0) [.ref o, .int p] h z (fun r h' z' => r = some (.int (v)) ∧ z' = z ∧ S h' ∧ OffB h h' o 162) gNoX) : gMh X yL_stepsTo cL_stepsTo 4 (some .int) [(0, 9, 12, 24)] (51, 0, 0) [.ref o, .int p, .ref w] h z (fun r h' z' => r = some (.int 0) ∧ z' = z ∧ ∃ h1, S h1 ∧ OffB h h1 o 162 ∧ h' = gset h1 w (gJA X 1 (vp_updL g 0 (v.toInt64)))) := by
  refine gMh.of pL (Nat.le_of_ble_eq_true rfl) ?_
  intro F hE
  refine g_aload_n dL_stepsTo_0 rfl ?_
  refine g_iconst (nI 0) dL_stepsTo_1 (by decide) ?_
  refine g_aload_n dL_stepsTo_2 rfl ?_
  refine g_iload_n dL_stepsTo_3 rfl ?_
  refine g_callV0 kL_61 M h0 rfl rfl rfl (Nat.le_of_ble_eq_true rfl) (by decide) (by decide) (by decide) (by decide) dL_stepsTo_4 ?_
  rintro v1 h1 z1 ⟨rfl, rfl, hS, hO⟩
  have hw1 := (hO w (by omega)).trans hw
  refine g_i2l dL_stepsTo_7 ?_
  refine g_lastN (j := 0) hw1 (by decide) (by decide) dL_stepsTo_8 ?_
  refine g_goto 15 dL_stepsTo_9 (by decide) ?_
  refine g_iconst (nI 0) dL_stepsTo_15 (by decide) ?_
  exact g_hret hE ⟨rfl, rfl, h1, hS, hO, rfl⟩ dL_stepsTo_16 (by decide) (by decide)
set_option maxRecDepth 100000 in
set_option maxHeartbeats 4000000 in
theorem wX_stepsTo {X : gX} {h : gH} {z o w : Nat} {fs : List Value} (p : Int32) (h0 : h o = some (.inr (8, fs))) (M : gM X yX10_stepsTo cX10_stepsTo 2 (some .int) (8, 1, 6) [.ref o, .int p] h z noP (thX IOE h z)) : gMh X yL_stepsTo cL_stepsTo 4 (some .int) [(0, 9, 12, 24)] (51, 1, 6) [.ref o, .int p, .ref w] h z (fun r h' z' => r = some (.int 1) ∧ h' = h ∧ z ≤ z') := by
  refine gMh.of pL (Nat.le_of_ble_eq_true rfl) ?_
  intro F hE
  refine g_aload_n dL_stepsTo_0 rfl ?_
  refine g_iconst (nI 0) dL_stepsTo_1 (by decide) ?_
  refine g_aload_n dL_stepsTo_2 rfl ?_
  refine g_iload_n dL_stepsTo_3 rfl ?_
  refine g_callVC kL_61 M h0 rfl rfl rfl (Nat.le_of_ble_eq_true rfl) (by decide) (by decide) (by decide) (by decide) dL_stepsTo_4 hE (fun _ _ _ q => q) (by decide) (by decide) wlcIOE wcaIOE (fun _ _ _ q => q.1) (fun q h2 z2 hq => ?_)
  obtain ⟨-, rfl, hz2⟩ := hq
  refine g_astore_n dL_stepsTo_12 (by decide) rfl ?_
  refine g_iconst (nI 1) dL_stepsTo_13 (by decide) ?_
  exact g_hret hE ⟨rfl, rfl, hz2⟩ dL_stepsTo_14 (by decide) (by decide)
theorem kw_hear : gWsH RL 191 yL_hear cL_hear 4 (some .int) [(0, 9, 12, 19)] 3 := ⟨⟨gm5 59 (by decide +kernel), gm5 60 (by decide +kernel), gm1 0 (by decide +kernel), gm5 61 (by decide +kernel)⟩, by decide, by decide, by decide⟩
set_option maxRecDepth 100000 in
set_option maxHeartbeats 4000000 in
theorem wL_hear {X : gX} {h : gH} {z o w : Nat} {fs : List Value} {g : Nat → Int64} {S : gH → Prop} {v : Int32} (p : Int32) (h0 : h o = some (.inr (8, fs))) (hw : h w = some (gJA X 1 g)) (hwo : w < o ∨ o + 162 ≤ w) (M : gM X yX10_hear cX10_hear 2 (some .int) (50, 0, 0) [.ref o, .int p] h z (fun r h' z' => r = some (.int (v)) ∧ z' = z ∧ S h' ∧ OffB h h' o 162) gNoX) : gMh X yL_hear cL_hear 4 (some .int) [(0, 9, 12, 19)] (51, 0, 0) [.ref o, .int p, .ref w] h z (fun r h' z' => r = some (.int 0) ∧ z' = z ∧ ∃ h1, S h1 ∧ OffB h h1 o 162 ∧ h' = gset h1 w (gJA X 1 (vp_updL g 0 (v.toInt64)))) := by
  refine gMh.of pL (Nat.le_of_ble_eq_true rfl) ?_
  intro F hE
  refine g_aload_n dL_hear_0 rfl ?_
  refine g_iconst (nI 0) dL_hear_1 (by decide) ?_
  refine g_aload_n dL_hear_2 rfl ?_
  refine g_iload_n dL_hear_3 rfl ?_
  refine g_callV0 kL_64 M h0 rfl rfl rfl (Nat.le_of_ble_eq_true rfl) (by decide) (by decide) (by decide) (by decide) dL_hear_4 ?_
  rintro v1 h1 z1 ⟨rfl, rfl, hS, hO⟩
  have hw1 := (hO w (by omega)).trans hw
  refine g_i2l dL_hear_7 ?_
  refine g_lastN (j := 0) hw1 (by decide) (by decide) dL_hear_8 ?_
  refine g_goto 15 dL_hear_9 (by decide) ?_
  refine g_iconst (nI 0) dL_hear_15 (by decide) ?_
  exact g_hret hE ⟨rfl, rfl, h1, hS, hO, rfl⟩ dL_hear_16 (by decide) (by decide)
set_option maxRecDepth 100000 in
set_option maxHeartbeats 4000000 in
theorem wX_hear {X : gX} {h : gH} {z o w : Nat} {fs : List Value} (p : Int32) (h0 : h o = some (.inr (8, fs))) (M : gM X yX10_hear cX10_hear 2 (some .int) (8, 1, 6) [.ref o, .int p] h z noP (thX IAE h z)) : gMh X yL_hear cL_hear 4 (some .int) [(0, 9, 12, 19)] (51, 1, 6) [.ref o, .int p, .ref w] h z (fun r h' z' => r = some (.int 1) ∧ h' = h ∧ z ≤ z') := by
  refine gMh.of pL (Nat.le_of_ble_eq_true rfl) ?_
  intro F hE
  refine g_aload_n dL_hear_0 rfl ?_
  refine g_iconst (nI 0) dL_hear_1 (by decide) ?_
  refine g_aload_n dL_hear_2 rfl ?_
  refine g_iload_n dL_hear_3 rfl ?_
  refine g_callVC kL_64 M h0 rfl rfl rfl (Nat.le_of_ble_eq_true rfl) (by decide) (by decide) (by decide) (by decide) dL_hear_4 hE (fun _ _ _ q => q) (by decide) (by decide) wlcIAE wcaIAE (fun _ _ _ q => q.1) (fun q h2 z2 hq => ?_)
  obtain ⟨-, rfl, hz2⟩ := hq
  refine g_astore_n dL_hear_12 (by decide) rfl ?_
  refine g_iconst (nI 1) dL_hear_13 (by decide) ?_
  exact g_hret hE ⟨rfl, rfl, hz2⟩ dL_hear_14 (by decide) (by decide)
theorem kw_mock : gWsH RL 194 yL_mock cL_mock 4 (some .int) [(0, 9, 12, 24)] 3 := ⟨⟨gm5 67 (by decide +kernel), gm5 68 (by decide +kernel), gm1 0 (by decide +kernel), gm5 69 (by decide +kernel)⟩, by decide, by decide, by decide⟩
set_option maxRecDepth 100000 in
set_option maxHeartbeats 4000000 in
theorem wL_mock {X : gX} {h : gH} {z o w : Nat} {fs : List Value} {g : Nat → Int64} {S : gH → Prop} {v : Int32} (p : Int32) (h0 : h o = some (.inr (8, fs))) (hw : h w = some (gJA X 1 g)) (hwo : w < o ∨ o + 162 ≤ w) (M : gM X yX10_mock cX10_mock 2 (some .int) (50, 0, 0) [.ref o, .int p] h z (fun r h' z' => r = some (.int (v)) ∧ z' = z ∧ S h' ∧ OffB h h' o 162) gNoX) : gMh X yL_mock cL_mock 4 (some .int) [(0, 9, 12, 24)] (51, 0, 0) [.ref o, .int p, .ref w] h z (fun r h' z' => r = some (.int 0) ∧ z' = z ∧ ∃ h1, S h1 ∧ OffB h h1 o 162 ∧ h' = gset h1 w (gJA X 1 (vp_updL g 0 (v.toInt64)))) := by
  refine gMh.of pL (Nat.le_of_ble_eq_true rfl) ?_
  intro F hE
  refine g_aload_n dL_mock_0 rfl ?_
  refine g_iconst (nI 0) dL_mock_1 (by decide) ?_
  refine g_aload_n dL_mock_2 rfl ?_
  refine g_iload_n dL_mock_3 rfl ?_
  refine g_callV0 kL_67 M h0 rfl rfl rfl (Nat.le_of_ble_eq_true rfl) (by decide) (by decide) (by decide) (by decide) dL_mock_4 ?_
  rintro v1 h1 z1 ⟨rfl, rfl, hS, hO⟩
  have hw1 := (hO w (by omega)).trans hw
  refine g_i2l dL_mock_7 ?_
  refine g_lastN (j := 0) hw1 (by decide) (by decide) dL_mock_8 ?_
  refine g_goto 15 dL_mock_9 (by decide) ?_
  refine g_iconst (nI 0) dL_mock_15 (by decide) ?_
  exact g_hret hE ⟨rfl, rfl, h1, hS, hO, rfl⟩ dL_mock_16 (by decide) (by decide)
set_option maxRecDepth 100000 in
set_option maxHeartbeats 4000000 in
theorem wX_mock {X : gX} {h : gH} {z o w : Nat} {fs : List Value} (p : Int32) (h0 : h o = some (.inr (8, fs))) (M : gM X yX10_mock cX10_mock 2 (some .int) (8, 1, 6) [.ref o, .int p] h z noP (thX IOE h z)) : gMh X yL_mock cL_mock 4 (some .int) [(0, 9, 12, 24)] (51, 1, 6) [.ref o, .int p, .ref w] h z (fun r h' z' => r = some (.int 1) ∧ h' = h ∧ z ≤ z') := by
  refine gMh.of pL (Nat.le_of_ble_eq_true rfl) ?_
  intro F hE
  refine g_aload_n dL_mock_0 rfl ?_
  refine g_iconst (nI 0) dL_mock_1 (by decide) ?_
  refine g_aload_n dL_mock_2 rfl ?_
  refine g_iload_n dL_mock_3 rfl ?_
  refine g_callVC kL_67 M h0 rfl rfl rfl (Nat.le_of_ble_eq_true rfl) (by decide) (by decide) (by decide) (by decide) dL_mock_4 hE (fun _ _ _ q => q) (by decide) (by decide) wlcIOE wcaIOE (fun _ _ _ q => q.1) (fun q h2 z2 hq => ?_)
  obtain ⟨-, rfl, hz2⟩ := hq
  refine g_astore_n dL_mock_12 (by decide) rfl ?_
  refine g_iconst (nI 1) dL_mock_13 (by decide) ?_
  exact g_hret hE ⟨rfl, rfl, hz2⟩ dL_mock_14 (by decide) (by decide)
theorem kw_echo : gWsH RL 197 yL_echo cL_echo 4 (some .int) [(0, 9, 12, 19)] 3 := ⟨⟨gm5 79 (by decide +kernel), gm5 80 (by decide +kernel), gm1 0 (by decide +kernel), gm5 81 (by decide +kernel)⟩, by decide, by decide, by decide⟩
set_option maxRecDepth 100000 in
set_option maxHeartbeats 4000000 in
theorem wL_echo {X : gX} {h : gH} {z o w : Nat} {fs : List Value} {g : Nat → Int64} {S : gH → Prop} {v : Int32} (p : Int32) (h0 : h o = some (.inr (8, fs))) (hw : h w = some (gJA X 1 g)) (hwo : w < o ∨ o + 162 ≤ w) (M : gM X yX10_echo cX10_echo 2 (some .int) (50, 0, 0) [.ref o, .int p] h z (fun r h' z' => r = some (.int (v)) ∧ z' = z ∧ S h' ∧ OffB h h' o 162) gNoX) : gMh X yL_echo cL_echo 4 (some .int) [(0, 9, 12, 19)] (51, 0, 0) [.ref o, .int p, .ref w] h z (fun r h' z' => r = some (.int 0) ∧ z' = z ∧ ∃ h1, S h1 ∧ OffB h h1 o 162 ∧ h' = gset h1 w (gJA X 1 (vp_updL g 0 (v.toInt64)))) := by
  refine gMh.of pL (Nat.le_of_ble_eq_true rfl) ?_
  intro F hE
  refine g_aload_n dL_echo_0 rfl ?_
  refine g_iconst (nI 0) dL_echo_1 (by decide) ?_
  refine g_aload_n dL_echo_2 rfl ?_
  refine g_iload_n dL_echo_3 rfl ?_
  refine g_callV0 kL_70 M h0 rfl rfl rfl (Nat.le_of_ble_eq_true rfl) (by decide) (by decide) (by decide) (by decide) dL_echo_4 ?_
  rintro v1 h1 z1 ⟨rfl, rfl, hS, hO⟩
  have hw1 := (hO w (by omega)).trans hw
  refine g_i2l dL_echo_7 ?_
  refine g_lastN (j := 0) hw1 (by decide) (by decide) dL_echo_8 ?_
  refine g_goto 15 dL_echo_9 (by decide) ?_
  refine g_iconst (nI 0) dL_echo_15 (by decide) ?_
  exact g_hret hE ⟨rfl, rfl, h1, hS, hO, rfl⟩ dL_echo_16 (by decide) (by decide)
set_option maxRecDepth 100000 in
set_option maxHeartbeats 4000000 in
theorem wX_echo {X : gX} {h : gH} {z o w : Nat} {fs : List Value} (p : Int32) (h0 : h o = some (.inr (8, fs))) (M : gM X yX10_echo cX10_echo 2 (some .int) (8, 1, 6) [.ref o, .int p] h z noP (thX IAE h z)) : gMh X yL_echo cL_echo 4 (some .int) [(0, 9, 12, 19)] (51, 1, 6) [.ref o, .int p, .ref w] h z (fun r h' z' => r = some (.int 1) ∧ h' = h ∧ z ≤ z') := by
  refine gMh.of pL (Nat.le_of_ble_eq_true rfl) ?_
  intro F hE
  refine g_aload_n dL_echo_0 rfl ?_
  refine g_iconst (nI 0) dL_echo_1 (by decide) ?_
  refine g_aload_n dL_echo_2 rfl ?_
  refine g_iload_n dL_echo_3 rfl ?_
  refine g_callVC kL_70 M h0 rfl rfl rfl (Nat.le_of_ble_eq_true rfl) (by decide) (by decide) (by decide) (by decide) dL_echo_4 hE (fun _ _ _ q => q) (by decide) (by decide) wlcIAE wcaIAE (fun _ _ _ q => q.1) (fun q h2 z2 hq => ?_)
  obtain ⟨-, rfl, hz2⟩ := hq
  refine g_astore_n dL_echo_12 (by decide) rfl ?_
  refine g_iconst (nI 1) dL_echo_13 (by decide) ?_
  exact g_hret hE ⟨rfl, rfl, hz2⟩ dL_echo_14 (by decide) (by decide)
theorem kw_forget : gWsH RL 200 yL_forget cL_forget 4 (some .int) [(0, 9, 12, 19)] 3 := ⟨⟨gm5 95 (by decide +kernel), gm5 96 (by decide +kernel), gm1 0 (by decide +kernel), gm5 97 (by decide +kernel)⟩, by decide, by decide, by decide⟩
set_option maxRecDepth 100000 in
set_option maxHeartbeats 4000000 in
theorem wL_forget {X : gX} {h : gH} {z o w : Nat} {fs : List Value} {g : Nat → Int64} {S : gH → Prop} {v : Int32} (p : Int32) (h0 : h o = some (.inr (8, fs))) (hw : h w = some (gJA X 1 g)) (hwo : w < o ∨ o + 162 ≤ w) (M : gM X yX10_forget cX10_forget 2 (some .int) (50, 0, 0) [.ref o, .int p] h z (fun r h' z' => r = some (.int (v)) ∧ z' = z ∧ S h' ∧ OffB h h' o 162) gNoX) : gMh X yL_forget cL_forget 4 (some .int) [(0, 9, 12, 19)] (51, 0, 0) [.ref o, .int p, .ref w] h z (fun r h' z' => r = some (.int 0) ∧ z' = z ∧ ∃ h1, S h1 ∧ OffB h h1 o 162 ∧ h' = gset h1 w (gJA X 1 (vp_updL g 0 (v.toInt64)))) := by
  refine gMh.of pL (Nat.le_of_ble_eq_true rfl) ?_
  intro F hE
  refine g_aload_n dL_forget_0 rfl ?_
  refine g_iconst (nI 0) dL_forget_1 (by decide) ?_
  refine g_aload_n dL_forget_2 rfl ?_
  refine g_iload_n dL_forget_3 rfl ?_
  refine g_callV0 kL_73 M h0 rfl rfl rfl (Nat.le_of_ble_eq_true rfl) (by decide) (by decide) (by decide) (by decide) dL_forget_4 ?_
  rintro v1 h1 z1 ⟨rfl, rfl, hS, hO⟩
  have hw1 := (hO w (by omega)).trans hw
  refine g_i2l dL_forget_7 ?_
  refine g_lastN (j := 0) hw1 (by decide) (by decide) dL_forget_8 ?_
  refine g_goto 15 dL_forget_9 (by decide) ?_
  refine g_iconst (nI 0) dL_forget_15 (by decide) ?_
  exact g_hret hE ⟨rfl, rfl, h1, hS, hO, rfl⟩ dL_forget_16 (by decide) (by decide)
set_option maxRecDepth 100000 in
set_option maxHeartbeats 4000000 in
theorem wX_forget {X : gX} {h : gH} {z o w : Nat} {fs : List Value} (p : Int32) (h0 : h o = some (.inr (8, fs))) (M : gM X yX10_forget cX10_forget 2 (some .int) (8, 1, 6) [.ref o, .int p] h z noP (thX IAE h z)) : gMh X yL_forget cL_forget 4 (some .int) [(0, 9, 12, 19)] (51, 1, 6) [.ref o, .int p, .ref w] h z (fun r h' z' => r = some (.int 1) ∧ h' = h ∧ z ≤ z') := by
  refine gMh.of pL (Nat.le_of_ble_eq_true rfl) ?_
  intro F hE
  refine g_aload_n dL_forget_0 rfl ?_
  refine g_iconst (nI 0) dL_forget_1 (by decide) ?_
  refine g_aload_n dL_forget_2 rfl ?_
  refine g_iload_n dL_forget_3 rfl ?_
  refine g_callVC kL_73 M h0 rfl rfl rfl (Nat.le_of_ble_eq_true rfl) (by decide) (by decide) (by decide) (by decide) dL_forget_4 hE (fun _ _ _ q => q) (by decide) (by decide) wlcIAE wcaIAE (fun _ _ _ q => q.1) (fun q h2 z2 hq => ?_)
  obtain ⟨-, rfl, hz2⟩ := hq
  refine g_astore_n dL_forget_12 (by decide) rfl ?_
  refine g_iconst (nI 1) dL_forget_13 (by decide) ?_
  exact g_hret hE ⟨rfl, rfl, hz2⟩ dL_forget_14 (by decide) (by decide)
theorem kw_passDays : gWsH RL 203 yL_passDays cL_passDays 4 (some .int) [(0, 9, 12, 19)] 3 := ⟨⟨gm5 103 (by decide +kernel), gm5 104 (by decide +kernel), gm1 0 (by decide +kernel), gm5 105 (by decide +kernel)⟩, by decide, by decide, by decide⟩
set_option maxRecDepth 100000 in
set_option maxHeartbeats 4000000 in
theorem wL_passDays {X : gX} {h : gH} {z o w : Nat} {fs : List Value} {g : Nat → Int64} {S : gH → Prop} {v : Int32} (p : Int32) (h0 : h o = some (.inr (8, fs))) (hw : h w = some (gJA X 1 g)) (hwo : w < o ∨ o + 162 ≤ w) (M : gM X yX10_passDays cX10_passDays 3 (some .int) (50, 0, 0) [.ref o, .int p] h z (fun r h' z' => r = some (.int (v)) ∧ z' = z ∧ S h' ∧ OffB h h' o 162) gNoX) : gMh X yL_passDays cL_passDays 4 (some .int) [(0, 9, 12, 19)] (51, 0, 0) [.ref o, .int p, .ref w] h z (fun r h' z' => r = some (.int 0) ∧ z' = z ∧ ∃ h1, S h1 ∧ OffB h h1 o 162 ∧ h' = gset h1 w (gJA X 1 (vp_updL g 0 (v.toInt64)))) := by
  refine gMh.of pL (Nat.le_of_ble_eq_true rfl) ?_
  intro F hE
  refine g_aload_n dL_passDays_0 rfl ?_
  refine g_iconst (nI 0) dL_passDays_1 (by decide) ?_
  refine g_aload_n dL_passDays_2 rfl ?_
  refine g_iload_n dL_passDays_3 rfl ?_
  refine g_callV0 kL_76 M h0 rfl rfl rfl (Nat.le_of_ble_eq_true rfl) (by decide) (by decide) (by decide) (by decide) dL_passDays_4 ?_
  rintro v1 h1 z1 ⟨rfl, rfl, hS, hO⟩
  have hw1 := (hO w (by omega)).trans hw
  refine g_i2l dL_passDays_7 ?_
  refine g_lastN (j := 0) hw1 (by decide) (by decide) dL_passDays_8 ?_
  refine g_goto 15 dL_passDays_9 (by decide) ?_
  refine g_iconst (nI 0) dL_passDays_15 (by decide) ?_
  exact g_hret hE ⟨rfl, rfl, h1, hS, hO, rfl⟩ dL_passDays_16 (by decide) (by decide)
set_option maxRecDepth 100000 in
set_option maxHeartbeats 4000000 in
theorem wX_passDays {X : gX} {h : gH} {z o w : Nat} {fs : List Value} (p : Int32) (h0 : h o = some (.inr (8, fs))) (M : gM X yX10_passDays cX10_passDays 3 (some .int) (8, 1, 6) [.ref o, .int p] h z noP (thX IAE h z)) : gMh X yL_passDays cL_passDays 4 (some .int) [(0, 9, 12, 19)] (51, 1, 6) [.ref o, .int p, .ref w] h z (fun r h' z' => r = some (.int 1) ∧ h' = h ∧ z ≤ z') := by
  refine gMh.of pL (Nat.le_of_ble_eq_true rfl) ?_
  intro F hE
  refine g_aload_n dL_passDays_0 rfl ?_
  refine g_iconst (nI 0) dL_passDays_1 (by decide) ?_
  refine g_aload_n dL_passDays_2 rfl ?_
  refine g_iload_n dL_passDays_3 rfl ?_
  refine g_callVC kL_76 M h0 rfl rfl rfl (Nat.le_of_ble_eq_true rfl) (by decide) (by decide) (by decide) (by decide) dL_passDays_4 hE (fun _ _ _ q => q) (by decide) (by decide) wlcIAE wcaIAE (fun _ _ _ q => q.1) (fun q h2 z2 hq => ?_)
  obtain ⟨-, rfl, hz2⟩ := hq
  refine g_astore_n dL_passDays_12 (by decide) rfl ?_
  refine g_iconst (nI 1) dL_passDays_13 (by decide) ?_
  exact g_hret hE ⟨rfl, rfl, hz2⟩ dL_passDays_14 (by decide) (by decide)
theorem kw_repeatAfter : gWsH RL 206 yL_repeatAfter cL_repeatAfter 4 (some .int) [(0, 9, 12, 19)] 3 := ⟨⟨gm5 178 (by decide +kernel), gm5 179 (by decide +kernel), gm1 0 (by decide +kernel), gm5 180 (by decide +kernel)⟩, by decide, by decide, by decide⟩
set_option maxRecDepth 100000 in
set_option maxHeartbeats 4000000 in
theorem wL_repeatAfter {X : gX} {h : gH} {z o w : Nat} {fs : List Value} {g : Nat → Int64} {S : gH → Prop} {v : Int32} (p : Int32) (h0 : h o = some (.inr (8, fs))) (hw : h w = some (gJA X 1 g)) (hwo : w < o ∨ o + 162 ≤ w) (M : gM X yX10_repeatAfter cX10_repeatAfter 2 (some .int) (50, 0, 0) [.ref o, .int p] h z (fun r h' z' => r = some (.int (v)) ∧ z' = z ∧ S h' ∧ OffB h h' o 162) gNoX) : gMh X yL_repeatAfter cL_repeatAfter 4 (some .int) [(0, 9, 12, 19)] (51, 0, 0) [.ref o, .int p, .ref w] h z (fun r h' z' => r = some (.int 0) ∧ z' = z ∧ ∃ h1, S h1 ∧ OffB h h1 o 162 ∧ h' = gset h1 w (gJA X 1 (vp_updL g 0 (v.toInt64)))) := by
  refine gMh.of pL (Nat.le_of_ble_eq_true rfl) ?_
  intro F hE
  refine g_aload_n dL_repeatAfter_0 rfl ?_
  refine g_iconst (nI 0) dL_repeatAfter_1 (by decide) ?_
  refine g_aload_n dL_repeatAfter_2 rfl ?_
  refine g_iload_n dL_repeatAfter_3 rfl ?_
  refine g_callV0 kL_79 M h0 rfl rfl rfl (Nat.le_of_ble_eq_true rfl) (by decide) (by decide) (by decide) (by decide) dL_repeatAfter_4 ?_
  rintro v1 h1 z1 ⟨rfl, rfl, hS, hO⟩
  have hw1 := (hO w (by omega)).trans hw
  refine g_i2l dL_repeatAfter_7 ?_
  refine g_lastN (j := 0) hw1 (by decide) (by decide) dL_repeatAfter_8 ?_
  refine g_goto 15 dL_repeatAfter_9 (by decide) ?_
  refine g_iconst (nI 0) dL_repeatAfter_15 (by decide) ?_
  exact g_hret hE ⟨rfl, rfl, h1, hS, hO, rfl⟩ dL_repeatAfter_16 (by decide) (by decide)
set_option maxRecDepth 100000 in
set_option maxHeartbeats 4000000 in
theorem wX_repeatAfter {X : gX} {h : gH} {z o w : Nat} {fs : List Value} (p : Int32) (h0 : h o = some (.inr (8, fs))) (M : gM X yX10_repeatAfter cX10_repeatAfter 2 (some .int) (8, 1, 6) [.ref o, .int p] h z noP (thX IAE h z)) : gMh X yL_repeatAfter cL_repeatAfter 4 (some .int) [(0, 9, 12, 19)] (51, 1, 6) [.ref o, .int p, .ref w] h z (fun r h' z' => r = some (.int 1) ∧ h' = h ∧ z ≤ z') := by
  refine gMh.of pL (Nat.le_of_ble_eq_true rfl) ?_
  intro F hE
  refine g_aload_n dL_repeatAfter_0 rfl ?_
  refine g_iconst (nI 0) dL_repeatAfter_1 (by decide) ?_
  refine g_aload_n dL_repeatAfter_2 rfl ?_
  refine g_iload_n dL_repeatAfter_3 rfl ?_
  refine g_callVC kL_79 M h0 rfl rfl rfl (Nat.le_of_ble_eq_true rfl) (by decide) (by decide) (by decide) (by decide) dL_repeatAfter_4 hE (fun _ _ _ q => q) (by decide) (by decide) wlcIAE wcaIAE (fun _ _ _ q => q.1) (fun q h2 z2 hq => ?_)
  obtain ⟨-, rfl, hz2⟩ := hq
  refine g_astore_n dL_repeatAfter_12 (by decide) rfl ?_
  refine g_iconst (nI 1) dL_repeatAfter_13 (by decide) ?_
  exact g_hret hE ⟨rfl, rfl, hz2⟩ dL_repeatAfter_14 (by decide) (by decide)
theorem kw_daysUntilKnown : gWsH RL 209 yL_daysUntilKnown cL_daysUntilKnown 4 (some .int) [(0, 9, 12, 24)] 3 := ⟨⟨gm5 190 (by decide +kernel), gm5 191 (by decide +kernel), gm1 0 (by decide +kernel), gm5 192 (by decide +kernel)⟩, by decide, by decide, by decide⟩
set_option maxRecDepth 100000 in
set_option maxHeartbeats 4000000 in
theorem wL_daysUntilKnown {X : gX} {h : gH} {z o w : Nat} {fs : List Value} {g : Nat → Int64} {S : gH → Prop} {v : Int32} (p : Int32) (h0 : h o = some (.inr (8, fs))) (hw : h w = some (gJA X 1 g)) (hwo : w < o ∨ o + 162 ≤ w) (M : gM X yX10_daysUntilKnown cX10_daysUntilKnown 4 (some .int) (50, 0, 0) [.ref o, .int p] h z (fun r h' z' => r = some (.int (v)) ∧ z' = z ∧ S h' ∧ OffB h h' o 162) gNoX) : gMh X yL_daysUntilKnown cL_daysUntilKnown 4 (some .int) [(0, 9, 12, 24)] (51, 0, 0) [.ref o, .int p, .ref w] h z (fun r h' z' => r = some (.int 0) ∧ z' = z ∧ ∃ h1, S h1 ∧ OffB h h1 o 162 ∧ h' = gset h1 w (gJA X 1 (vp_updL g 0 (v.toInt64)))) := by
  refine gMh.of pL (Nat.le_of_ble_eq_true rfl) ?_
  intro F hE
  refine g_aload_n dL_daysUntilKnown_0 rfl ?_
  refine g_iconst (nI 0) dL_daysUntilKnown_1 (by decide) ?_
  refine g_aload_n dL_daysUntilKnown_2 rfl ?_
  refine g_iload_n dL_daysUntilKnown_3 rfl ?_
  refine g_callV0 kL_82 M h0 rfl rfl rfl (Nat.le_of_ble_eq_true rfl) (by decide) (by decide) (by decide) (by decide) dL_daysUntilKnown_4 ?_
  rintro v1 h1 z1 ⟨rfl, rfl, hS, hO⟩
  have hw1 := (hO w (by omega)).trans hw
  refine g_i2l dL_daysUntilKnown_7 ?_
  refine g_lastN (j := 0) hw1 (by decide) (by decide) dL_daysUntilKnown_8 ?_
  refine g_goto 15 dL_daysUntilKnown_9 (by decide) ?_
  refine g_iconst (nI 0) dL_daysUntilKnown_15 (by decide) ?_
  exact g_hret hE ⟨rfl, rfl, h1, hS, hO, rfl⟩ dL_daysUntilKnown_16 (by decide) (by decide)
set_option maxRecDepth 100000 in
set_option maxHeartbeats 4000000 in
theorem wX_daysUntilKnown {X : gX} {h : gH} {z o w : Nat} {fs : List Value} (p : Int32) (h0 : h o = some (.inr (8, fs))) (M : gM X yX10_daysUntilKnown cX10_daysUntilKnown 4 (some .int) (8, 1, 6) [.ref o, .int p] h z noP (thX IOE h z)) : gMh X yL_daysUntilKnown cL_daysUntilKnown 4 (some .int) [(0, 9, 12, 24)] (51, 1, 6) [.ref o, .int p, .ref w] h z (fun r h' z' => r = some (.int 1) ∧ h' = h ∧ z ≤ z') := by
  refine gMh.of pL (Nat.le_of_ble_eq_true rfl) ?_
  intro F hE
  refine g_aload_n dL_daysUntilKnown_0 rfl ?_
  refine g_iconst (nI 0) dL_daysUntilKnown_1 (by decide) ?_
  refine g_aload_n dL_daysUntilKnown_2 rfl ?_
  refine g_iload_n dL_daysUntilKnown_3 rfl ?_
  refine g_callVC kL_82 M h0 rfl rfl rfl (Nat.le_of_ble_eq_true rfl) (by decide) (by decide) (by decide) (by decide) dL_daysUntilKnown_4 hE (fun _ _ _ q => q) (by decide) (by decide) wlcIOE wcaIOE (fun _ _ _ q => q.1) (fun q h2 z2 hq => ?_)
  obtain ⟨-, rfl, hz2⟩ := hq
  refine g_astore_n dL_daysUntilKnown_12 (by decide) rfl ?_
  refine g_iconst (nI 1) dL_daysUntilKnown_13 (by decide) ?_
  exact g_hret hE ⟨rfl, rfl, hz2⟩ dL_daysUntilKnown_14 (by decide) (by decide)
