/-! words for statics; a token asked for its number; the parrot: its cells, its stack -/
theorem wgX8_31 : Cond.fieldLink RX8 31 RX7 "NONE" "LParrotSquawks$Token;" ∈ lw_tbl := gm1 65 (by decide +kernel)
theorem wgX2_16 : Cond.fieldLink RX2 16 RX7 "NONE" "LParrotSquawks$Token;" ∈ lw_tbl := gm1 132 (by decide +kernel)
theorem wgX4_35 : Cond.fieldLink RX4 35 RX7 "NONE" "LParrotSquawks$Token;" ∈ lw_tbl := gm1 160 (by decide +kernel)
theorem wgX8_52 : Cond.fieldLink RX8 52 RX7 "END" "LParrotSquawks$Token;" ∈ lw_tbl := gm2 78 (by decide +kernel)
theorem wgX8_125 : Cond.fieldLink RX8 125 RX7 "NAME" "LParrotSquawks$Token;" ∈ lw_tbl := gm2 151 (by decide +kernel)
theorem wgX8_128 : Cond.fieldLink RX8 128 RX7 "NUMBER" "LParrotSquawks$Token;" ∈ lw_tbl := gm2 157 (by decide +kernel)
theorem wgX1_45 : Cond.fieldLink RX1 45 RX7 "END" "LParrotSquawks$Token;" ∈ lw_tbl := gm2 171 (by decide +kernel)
theorem wgX1_50 : Cond.fieldLink RX1 50 RX7 "INSULT" "LParrotSquawks$Token;" ∈ lw_tbl := gm2 172 (by decide +kernel)
theorem wgX1_77 : Cond.fieldLink RX1 77 RX7 "NAME" "LParrotSquawks$Token;" ∈ lw_tbl := gm2 185 (by decide +kernel)
theorem wgX1_135 : Cond.fieldLink RX1 135 RX7 "HEAR" "LParrotSquawks$Token;" ∈ lw_tbl := gm2 217 (by decide +kernel)
theorem wgX1_138 : Cond.fieldLink RX1 138 RX7 "MOCK" "LParrotSquawks$Token;" ∈ lw_tbl := gm2 219 (by decide +kernel)
theorem wgX1_141 : Cond.fieldLink RX1 141 RX7 "ECHO" "LParrotSquawks$Token;" ∈ lw_tbl := gm2 221 (by decide +kernel)
theorem wgX1_144 : Cond.fieldLink RX1 144 RX7 "FORGET" "LParrotSquawks$Token;" ∈ lw_tbl := gm2 223 (by decide +kernel)
theorem wgX1_187 : Cond.fieldLink RX1 187 "ParrotSquawks$1" "$SwitchMap$ParrotSquawks$Token" "[I" ∈ lw_tbl := gm3 14 (by decide +kernel)
theorem wgX1_254 : Cond.fieldLink RX1 254 RX7 "NUMBER" "LParrotSquawks$Token;" ∈ lw_tbl := gm3 22 (by decide +kernel)
theorem wgX1_260 : Cond.fieldLink RX1 260 RX7 "OF" "LParrotSquawks$Token;" ∈ lw_tbl := gm3 39 (by decide +kernel)
theorem wgX1_242 : Cond.fieldLink RX1 242 RX7 "MINUS" "LParrotSquawks$Token;" ∈ lw_tbl := gm3 41 (by decide +kernel)
theorem wgX1_263 : Cond.fieldLink RX1 263 RX7 "TURN" "LParrotSquawks$Token;" ∈ lw_tbl := gm3 51 (by decide +kernel)
theorem wgX1_266 : Cond.fieldLink RX1 266 RX7 "OPEN" "LParrotSquawks$Token;" ∈ lw_tbl := gm3 53 (by decide +kernel)
theorem wgX1_269 : Cond.fieldLink RX1 269 RX7 "CLOSE" "LParrotSquawks$Token;" ∈ lw_tbl := gm3 55 (by decide +kernel)
theorem wgX1_272 : Cond.fieldLink RX1 272 RX7 "COMMA" "LParrotSquawks$Token;" ∈ lw_tbl := gm3 57 (by decide +kernel)
theorem wgX1_248 : Cond.fieldLink RX1 248 RX7 "TIMES" "LParrotSquawks$Token;" ∈ lw_tbl := gm3 59 (by decide +kernel)
theorem wgX1_251 : Cond.fieldLink RX1 251 RX7 "OVER" "LParrotSquawks$Token;" ∈ lw_tbl := gm3 61 (by decide +kernel)
theorem wgX1_239 : Cond.fieldLink RX1 239 RX7 "PLUS" "LParrotSquawks$Token;" ∈ lw_tbl := gm3 63 (by decide +kernel)
theorem wgX1_126 : Cond.fieldLink RX1 126 RX7 "WHEN" "LParrotSquawks$Token;" ∈ lw_tbl := gm3 65 (by decide +kernel)
theorem wgX1_197 : Cond.fieldLink RX1 197 RX7 "NOT" "LParrotSquawks$Token;" ∈ lw_tbl := gm3 79 (by decide +kernel)
theorem wgX1_206 : Cond.fieldLink RX1 206 RX7 "OPEN_TEST" "LParrotSquawks$Token;" ∈ lw_tbl := gm3 81 (by decide +kernel)
theorem wgX1_209 : Cond.fieldLink RX1 209 RX7 "CLOSE_TEST" "LParrotSquawks$Token;" ∈ lw_tbl := gm3 83 (by decide +kernel)
theorem wgX1_212 : Cond.fieldLink RX1 212 RX7 "KNOWS" "LParrotSquawks$Token;" ∈ lw_tbl := gm3 85 (by decide +kernel)
theorem wgX1_221 : Cond.fieldLink RX1 221 RX7 "LESS" "LParrotSquawks$Token;" ∈ lw_tbl := gm3 94 (by decide +kernel)
theorem wgX1_224 : Cond.fieldLink RX1 224 RX7 "MORE" "LParrotSquawks$Token;" ∈ lw_tbl := gm3 96 (by decide +kernel)
theorem wgX1_227 : Cond.fieldLink RX1 227 RX7 "EQUAL" "LParrotSquawks$Token;" ∈ lw_tbl := gm3 98 (by decide +kernel)
theorem wgX1_230 : Cond.fieldLink RX1 230 RX7 "AT_MOST" "LParrotSquawks$Token;" ∈ lw_tbl := gm3 100 (by decide +kernel)
theorem wgX1_233 : Cond.fieldLink RX1 233 RX7 "AT_LEAST" "LParrotSquawks$Token;" ∈ lw_tbl := gm3 102 (by decide +kernel)
theorem wgX1_184 : Cond.fieldLink RX1 184 RX7 "AND" "LParrotSquawks$Token;" ∈ lw_tbl := gm3 104 (by decide +kernel)
theorem wgX1_174 : Cond.fieldLink RX1 174 RX7 "OR" "LParrotSquawks$Token;" ∈ lw_tbl := gm3 106 (by decide +kernel)
theorem wgX1_60 : Cond.fieldLink RX1 60 RX7 "SEMICOLON" "LParrotSquawks$Token;" ∈ lw_tbl := gm3 108 (by decide +kernel)
theorem wgX3_64 : Cond.fieldLink RX3 64 "ParrotSquawks$1" "$SwitchMap$ParrotSquawks$Token" "[I" ∈ lw_tbl := gm5 131 (by decide +kernel)
theorem wgX12_251 : Cond.fieldLink RX12 251 RX12 "WORDS" "[Ljava/lang/String;" ∈ lw_tbl := gm6 165 (by decide +kernel)
theorem kX3_73 : gWU RX3 73 RX7 "java/lang/Enum" ⟨RX7, "ordinal", "()I"⟩ yJx29ce0_ordinal_8abf5 cJx29ce0_ordinal_8abf5 1 (some .int) 0 := ⟨⟨gm5 132 (by decide +kernel), gm3 17 (by decide +kernel), gm3 19 (by decide +kernel), gm3 20 (by decide +kernel), gm1 5 (by decide +kernel), gm3 21 (by decide +kernel)⟩, rfl, by decide, by decide, by decide⟩
theorem kX1_193 : gWU RX1 193 RX7 "java/lang/Enum" ⟨RX7, "ordinal", "()I"⟩ yJx29ce0_ordinal_8abf5 cJx29ce0_ordinal_8abf5 1 (some .int) 0 := ⟨⟨gm3 16 (by decide +kernel), gm3 17 (by decide +kernel), gm3 19 (by decide +kernel), gm3 20 (by decide +kernel), gm1 5 (by decide +kernel), gm3 21 (by decide +kernel)⟩, rfl, by decide, by decide, by decide⟩
section GOR
variable {X : gX} {F : gF} {cc : ByteArray} {nL : Nat} {own : String} {R : Nat × Nat × Nat} {k n pc : Nat} {lv : List (Option Value)} {st : List Value} {h h0 : gH} {z q w idx c : Nat} {K : gKo} {day car : Int32} {hg : Nat} {f : Nat → Int32}
theorem g_ord {x : MethodName} (kw : gWU own idx RX7 "java/lang/Enum" x yJx29ce0_ordinal_8abf5 cJx29ce0_ordinal_8abf5 1 (some .int) 0) (hK : gCo X K) (hc : c < 39) (hcat : (st.map fun v => v.category).sum ≤ 8) (hd : 1 ≤ R.1) (hk : k ≤ R.2.1) (hn : n ≤ R.2.2) (d : decode cc pc = .ok (.invokevirtual idx, 3)) (kk : G X F cc nL own R k n (pc + 3) lv (.int (nI c) :: st) h z) : G X F cc nL own R k n pc lv (.ref (K.1 c) :: st) h z :=
  g_callUO kw (mJx_ordinal hK hc) (hK.1 c hc).2.1 (As := []) (rest := st) rfl rfl hcat (by decide) hd hk hn d (fun v h' z' q => by obtain ⟨rfl, rfl, rfl⟩ := q; exact kk)
/-- the parrot at q: its squawks at q + 1, its stack at q + 7 -/
def PaB (X : gX) (h : gH) (q : Nat) (day car : Int32) (hg : Nat) (f : Nat → Int32) : Prop := h q = some (.inr (2, [.ref (q + 1), .int day, .int car, .ref (q + 7), .int (nI hg)])) ∧ h (q + 7) = some (gIA X 64 f)
theorem PaB.off {b m : Nat} {h' : gH} (hS : PaB X h q day car hg f) (hO : OffB h h' b m) (hd : q + 8 ≤ b ∨ b + m ≤ q ∨ (b = q + 1 ∧ m ≤ 6)) : PaB X h' q day car hg f := ⟨(hO q (by omega)).trans hS.1, (hO _ (by omega)).trans hS.2⟩
theorem pa_put1 {x : Int32} (fl : gFl own idx 2 1 RX3 TX3 5 tyX3) (hS : PaB X h q day car hg f) (hO : OffB h0 h q 8) (d : decode cc pc = .ok (.putfield idx, 3)) (kk : ∀ h : gH, PaB X h q x car hg f → OffB h0 h q 8 → G X F cc nL own R k n (pc + 3) lv st h z) : G X F cc nL own R k n pc lv (.int x :: .ref q :: st) h z :=
  g_putf fl hS.1 rfl rfl rfl (Nat.le_of_ble_eq_true rfl) d (kk _ ⟨gset_same, (gset_ne (by omega)).trans hS.2⟩ (hO.put (by omega) (by omega)))
theorem pa_put2 {x : Int32} (fl : gFl own idx 2 2 RX3 TX3 5 tyX3) (hS : PaB X h q day car hg f) (hO : OffB h0 h q 8) (d : decode cc pc = .ok (.putfield idx, 3)) (kk : ∀ h : gH, PaB X h q day x hg f → OffB h0 h q 8 → G X F cc nL own R k n (pc + 3) lv st h z) : G X F cc nL own R k n pc lv (.int x :: .ref q :: st) h z :=
  g_putf fl hS.1 rfl rfl rfl (Nat.le_of_ble_eq_true rfl) d (kk _ ⟨gset_same, (gset_ne (by omega)).trans hS.2⟩ (hO.put (by omega) (by omega)))
theorem SqL.putp {C : sqC} {a b : Nat} {e : va_E} {L : List Int32} (hS : SqL C X h a L) (hd : b < a ∨ a + 6 ≤ b) : SqL C X (gset h b e) a L := hS.off (b := b) (m := 1) (fun q hq => gset_ne (by omega)) (by omega)
end GOR
/-- the parrot at q: letters L, a day, what was carried out, a stack -/
def PaS (X : gX) (h : gH) (q : Nat) (L : List Int32) (day car : Int32) (st : List Int32) : Prop := ∃ f, PaB X h q day car st.length f ∧ SkA f st ∧ st.length ≤ 64 ∧ SqL sqCa X h (q + 1) L
set_option maxRecDepth 100000 in
set_option maxHeartbeats 4000000 in
theorem m3_push {X : gX} {h : gH} {z q : Nat} {L : List Int32} {day car : Int32} {st : List Int32} (x : Int32) (hl : st.length < 64) (hS : PaS X h q L day car st) : gM X yX3_push cX3_push 2 none (1, 0, 0) [.ref q, .int x] h z (fun r h' z' => r = none ∧ z' = z ∧ PaS X h' q L day car (x :: st) ∧ OffB h h' q 8) gNoX := by
  obtain ⟨f, hB, hk, hl2, hL⟩ := hS
  refine gM.of px3 (Nat.le_of_ble_eq_true rfl) ?_
  intro F hE
  refine g_aload_n dX3_push_0 rfl ?_
  refine g_getf fl3_114 hB.1 rfl dX3_push_1 ?_
  refine g_if_ltN 36 dX3_push_4 (by decide) (by omega) ?_
  refine g_aload_n dX3_push_7 rfl ?_
  refine g_getf fl3_114 hB.1 rfl dX3_push_8 ?_
  refine g_bipush (nI 64) dX3_push_11 (by decide) ?_
  refine g_icmp_geN 36 dX3_push_13 (by decide) (by omega) (by omega) (fun c_13 => ?_) (fun c_13 => ?_)
  · exact absurd c_13 (by omega)
  · refine g_aload_n dX3_push_16 rfl ?_
    refine g_getf fl3_18 hB.1 rfl dX3_push_17 ?_
    refine g_aload_n dX3_push_20 rfl ?_
    refine g_getf fl3_114 hB.1 rfl dX3_push_21 ?_
    refine g_iload_n dX3_push_24 rfl ?_
    refine g_iastN hB.2 (by omega) (by decide) dX3_push_25 ?_
    refine g_aload_n dX3_push_26 rfl ?_
    refine g_dup dX3_push_27 rfl ?_
    refine g_getf fl3_114 ((gset_ne (by omega)).trans hB.1) rfl dX3_push_28 ?_
    refine g_iconst (nI 1) dX3_push_31 (by decide) ?_
    first | refine g_iaddN dX3_push_32 ?_ | refine g_iadd dX3_push_32 ?_
    refine g_putf fl3_114 ((gset_ne (by omega)).trans hB.1) rfl rfl rfl (Nat.le_of_ble_eq_true rfl) dX3_push_33 ?_
    exact g_vret hE (⟨rfl, rfl, ⟨_, ⟨gset_same, (gset_ne (by omega)).trans gset_same⟩, hk.push, by show st.length + 1 ≤ 64; omega, (hL.putp (by omega)).putp (by omega)⟩, (OffB.rf.put (by omega) (by omega)).put (by omega) (by omega)⟩) dX3_push_36
set_option maxRecDepth 100000 in
set_option maxHeartbeats 4000000 in
theorem m3_pop {X : gX} {h : gH} {z q : Nat} {L : List Int32} {day car : Int32} {st : List Int32} (x : Int32) (hS : PaS X h q L day car (x :: st)) : gM X yX3_pop cX3_pop 1 (some .int) (1, 0, 0) [.ref q] h z (fun r h' z' => r = some (.int x) ∧ z' = z ∧ PaS X h' q L day car st ∧ OffB h h' q 8) gNoX := by
  obtain ⟨f, hB, hk, hl2, hL⟩ := hS
  rw [List.length_cons] at hB hl2
  refine gM.of px3 (Nat.le_of_ble_eq_true rfl) ?_
  intro F hE
  refine g_aload_n dX3_pop_0 rfl ?_
  refine g_getf fl3_114 hB.1 rfl dX3_pop_1 ?_
  refine g_if_leN 16 dX3_pop_4 (by decide) (by omega) (fun q => absurd q (by omega)) (fun _ => ?_)
  refine g_aload_n dX3_pop_7 rfl ?_
  refine g_getf fl3_114 hB.1 rfl dX3_pop_8 ?_
  refine g_bipush (nI 64) dX3_pop_11 (by decide) ?_
  refine g_icmp_leN 18 dX3_pop_13 (by decide) (by omega) (by omega) (fun c_13 => ?_) (fun c_13 => ?_)
  · refine g_aload_n dX3_pop_18 rfl ?_
    refine g_dup dX3_pop_19 rfl ?_
    refine g_getf fl3_114 hB.1 rfl dX3_pop_20 ?_
    refine g_iconst (nI 1) dX3_pop_23 (by decide) ?_
    refine g_isubN (a := st.length + 1) (b := 1) dX3_pop_24 (by omega) ?_
    refine g_putf fl3_114 hB.1 rfl rfl rfl (Nat.le_of_ble_eq_true rfl) dX3_pop_25 ?_
    refine g_aload_n dX3_pop_28 rfl ?_
    refine g_getf fl3_18 gset_same rfl dX3_pop_29 ?_
    refine g_aload_n dX3_pop_32 rfl ?_
    refine g_getf fl3_114 gset_same rfl dX3_pop_33 ?_
    rw [show st.length + 1 - 1 = st.length from rfl]
    refine g_ialdN ((gset_ne (by omega)).trans hB.2) (by omega) (by decide) dX3_pop_36 ?_
    exact g_iret hE rfl (⟨by rw [hk.1], rfl, ⟨_, ⟨gset_same, (gset_ne (by omega)).trans hB.2⟩, hk.2, by omega, hL.putp (by omega)⟩, OffB.rf.put (by omega) (by omega)⟩) dX3_pop_37
  · exact absurd c_13 (by omega)
set_option maxRecDepth 100000 in
set_option maxHeartbeats 4000000 in
theorem m3_isSo_34 {X : gX} {h : gH} {z : Nat} {K : gKo} (hK : gCo X K) (a b : Int32) : gM X yX3_isSo cX3_isSo 3 (some .boolean) (2, 0, 0) [.ref (K.1 34), .int a, .int b] h z (pR h z (bop 34 a b)) gNoX := by
  refine gM.of px3 (Nat.le_of_ble_eq_true rfl) ?_
  intro F hE
  refine g_gets hK.2.2.2.1.1 wgX3_64 dX3_isSo_0 ?_
  refine g_aload_n dX3_isSo_3 rfl ?_
  refine g_ord kX3_73 hK (c := 34) (by omega) (Nat.le_of_ble_eq_true rfl) (by decide) (by decide) (by decide) dX3_isSo_4 ?_
  refine g_tald hK.2.2.2.1.2 (by omega) (by omega) dX3_isSo_7 ?_
  refine g_switch (36) 44 dX3_isSo_8 (by decide) (by decide) (by decide) (by decide) ?_
  refine g_iload_n dX3_isSo_44 rfl ?_
  refine g_iload_n dX3_isSo_45 rfl ?_
  refine g_icmp_ge 53 dX3_isSo_46 (by decide) (fun c_46 => ?_) (fun c_46 => ?_)
  · refine g_iconst (nI 0) dX3_isSo_53 (by decide) ?_
    exact g_iret hE rfl (⟨by rw [show bop 34 a b = b2i (decide (a < b)) from rfl, decide_eq_false (show ¬ (a < b) from by simp only [Int32.lt_iff_toInt_lt, Int32.le_iff_toInt_le, ← Int32.toInt_inj] at *; omega)]; rfl, rfl, rfl⟩) dX3_isSo_54
  · refine g_iconst (nI 1) dX3_isSo_49 (by decide) ?_
    refine g_goto 54 dX3_isSo_50 (by decide) ?_
    exact g_iret hE rfl (⟨by rw [show bop 34 a b = b2i (decide (a < b)) from rfl, decide_eq_true (show a < b from by simp only [Int32.lt_iff_toInt_lt, Int32.le_iff_toInt_le, ← Int32.toInt_inj] at *; omega)]; rfl, rfl, rfl⟩) dX3_isSo_54
set_option maxRecDepth 100000 in
set_option maxHeartbeats 4000000 in
theorem m3_isSo_35 {X : gX} {h : gH} {z : Nat} {K : gKo} (hK : gCo X K) (a b : Int32) : gM X yX3_isSo cX3_isSo 3 (some .boolean) (2, 0, 0) [.ref (K.1 35), .int a, .int b] h z (pR h z (bop 35 a b)) gNoX := by
  refine gM.of px3 (Nat.le_of_ble_eq_true rfl) ?_
  intro F hE
  refine g_gets hK.2.2.2.1.1 wgX3_64 dX3_isSo_0 ?_
  refine g_aload_n dX3_isSo_3 rfl ?_
  refine g_ord kX3_73 hK (c := 35) (by omega) (Nat.le_of_ble_eq_true rfl) (by decide) (by decide) (by decide) dX3_isSo_4 ?_
  refine g_tald hK.2.2.2.1.2 (by omega) (by omega) dX3_isSo_7 ?_
  refine g_switch (47) 55 dX3_isSo_8 (by decide) (by decide) (by decide) (by decide) ?_
  refine g_iload_n dX3_isSo_55 rfl ?_
  refine g_iload_n dX3_isSo_56 rfl ?_
  refine g_icmp_le 64 dX3_isSo_57 (by decide) (fun c_57 => ?_) (fun c_57 => ?_)
  · refine g_iconst (nI 0) dX3_isSo_64 (by decide) ?_
    exact g_iret hE rfl (⟨by rw [show bop 35 a b = b2i (decide (b < a)) from rfl, decide_eq_false (show ¬ (b < a) from by simp only [Int32.lt_iff_toInt_lt, Int32.le_iff_toInt_le, ← Int32.toInt_inj] at *; omega)]; rfl, rfl, rfl⟩) dX3_isSo_65
  · refine g_iconst (nI 1) dX3_isSo_60 (by decide) ?_
    refine g_goto 65 dX3_isSo_61 (by decide) ?_
    exact g_iret hE rfl (⟨by rw [show bop 35 a b = b2i (decide (b < a)) from rfl, decide_eq_true (show b < a from by simp only [Int32.lt_iff_toInt_lt, Int32.le_iff_toInt_le, ← Int32.toInt_inj] at *; omega)]; rfl, rfl, rfl⟩) dX3_isSo_65
set_option maxRecDepth 100000 in
set_option maxHeartbeats 4000000 in
theorem m3_isSo_36 {X : gX} {h : gH} {z : Nat} {K : gKo} (hK : gCo X K) (a b : Int32) : gM X yX3_isSo cX3_isSo 3 (some .boolean) (2, 0, 0) [.ref (K.1 36), .int a, .int b] h z (pR h z (bop 36 a b)) gNoX := by
  refine gM.of px3 (Nat.le_of_ble_eq_true rfl) ?_
  intro F hE
  refine g_gets hK.2.2.2.1.1 wgX3_64 dX3_isSo_0 ?_
  refine g_aload_n dX3_isSo_3 rfl ?_
  refine g_ord kX3_73 hK (c := 36) (by omega) (Nat.le_of_ble_eq_true rfl) (by decide) (by decide) (by decide) dX3_isSo_4 ?_
  refine g_tald hK.2.2.2.1.2 (by omega) (by omega) dX3_isSo_7 ?_
  refine g_switch (58) 66 dX3_isSo_8 (by decide) (by decide) (by decide) (by decide) ?_
  refine g_iload_n dX3_isSo_66 rfl ?_
  refine g_iload_n dX3_isSo_67 rfl ?_
  refine g_icmp_ne 75 dX3_isSo_68 (by decide) (fun c_68 => ?_) (fun c_68 => ?_)
  · refine g_iconst (nI 0) dX3_isSo_75 (by decide) ?_
    exact g_iret hE rfl (⟨by rw [show bop 36 a b = b2i (decide (a = b)) from rfl, decide_eq_false (show ¬ (a = b) from by simp only [Int32.lt_iff_toInt_lt, Int32.le_iff_toInt_le, ← Int32.toInt_inj] at *; omega)]; rfl, rfl, rfl⟩) dX3_isSo_76
  · refine g_iconst (nI 1) dX3_isSo_71 (by decide) ?_
    refine g_goto 76 dX3_isSo_72 (by decide) ?_
    exact g_iret hE rfl (⟨by rw [show bop 36 a b = b2i (decide (a = b)) from rfl, decide_eq_true (show a = b from by simp only [Int32.lt_iff_toInt_lt, Int32.le_iff_toInt_le, ← Int32.toInt_inj] at *; omega)]; rfl, rfl, rfl⟩) dX3_isSo_76
set_option maxRecDepth 100000 in
set_option maxHeartbeats 4000000 in
theorem m3_isSo_37 {X : gX} {h : gH} {z : Nat} {K : gKo} (hK : gCo X K) (a b : Int32) : gM X yX3_isSo cX3_isSo 3 (some .boolean) (2, 0, 0) [.ref (K.1 37), .int a, .int b] h z (pR h z (bop 37 a b)) gNoX := by
  refine gM.of px3 (Nat.le_of_ble_eq_true rfl) ?_
  intro F hE
  refine g_gets hK.2.2.2.1.1 wgX3_64 dX3_isSo_0 ?_
  refine g_aload_n dX3_isSo_3 rfl ?_
  refine g_ord kX3_73 hK (c := 37) (by omega) (Nat.le_of_ble_eq_true rfl) (by decide) (by decide) (by decide) dX3_isSo_4 ?_
  refine g_tald hK.2.2.2.1.2 (by omega) (by omega) dX3_isSo_7 ?_
  refine g_switch (69) 77 dX3_isSo_8 (by decide) (by decide) (by decide) (by decide) ?_
  refine g_iload_n dX3_isSo_77 rfl ?_
  refine g_iload_n dX3_isSo_78 rfl ?_
  refine g_icmp_gt 86 dX3_isSo_79 (by decide) (fun c_79 => ?_) (fun c_79 => ?_)
  · refine g_iconst (nI 0) dX3_isSo_86 (by decide) ?_
    exact g_iret hE rfl (⟨by rw [show bop 37 a b = b2i (decide (a ≤ b)) from rfl, decide_eq_false (show ¬ (a ≤ b) from by simp only [Int32.lt_iff_toInt_lt, Int32.le_iff_toInt_le, ← Int32.toInt_inj] at *; omega)]; rfl, rfl, rfl⟩) dX3_isSo_87
  · refine g_iconst (nI 1) dX3_isSo_82 (by decide) ?_
    refine g_goto 87 dX3_isSo_83 (by decide) ?_
    exact g_iret hE rfl (⟨by rw [show bop 37 a b = b2i (decide (a ≤ b)) from rfl, decide_eq_true (show a ≤ b from by simp only [Int32.lt_iff_toInt_lt, Int32.le_iff_toInt_le, ← Int32.toInt_inj] at *; omega)]; rfl, rfl, rfl⟩) dX3_isSo_87
set_option maxRecDepth 100000 in
set_option maxHeartbeats 4000000 in
theorem m3_isSo_38 {X : gX} {h : gH} {z : Nat} {K : gKo} (hK : gCo X K) (a b : Int32) : gM X yX3_isSo cX3_isSo 3 (some .boolean) (2, 0, 0) [.ref (K.1 38), .int a, .int b] h z (pR h z (bop 38 a b)) gNoX := by
  refine gM.of px3 (Nat.le_of_ble_eq_true rfl) ?_
  intro F hE
  refine g_gets hK.2.2.2.1.1 wgX3_64 dX3_isSo_0 ?_
  refine g_aload_n dX3_isSo_3 rfl ?_
  refine g_ord kX3_73 hK (c := 38) (by omega) (Nat.le_of_ble_eq_true rfl) (by decide) (by decide) (by decide) dX3_isSo_4 ?_
  refine g_tald hK.2.2.2.1.2 (by omega) (by omega) dX3_isSo_7 ?_
  refine g_switch (80) 88 dX3_isSo_8 (by decide) (by decide) (by decide) (by decide) ?_
  refine g_iload_n dX3_isSo_88 rfl ?_
  refine g_iload_n dX3_isSo_89 rfl ?_
  refine g_icmp_lt 97 dX3_isSo_90 (by decide) (fun c_90 => ?_) (fun c_90 => ?_)
  · refine g_iconst (nI 0) dX3_isSo_97 (by decide) ?_
    exact g_iret hE rfl (⟨by rw [show bop 38 a b = b2i (decide (b ≤ a)) from rfl, decide_eq_false (show ¬ (b ≤ a) from by simp only [Int32.lt_iff_toInt_lt, Int32.le_iff_toInt_le, ← Int32.toInt_inj] at *; omega)]; rfl, rfl, rfl⟩) dX3_isSo_98
  · refine g_iconst (nI 1) dX3_isSo_93 (by decide) ?_
    refine g_goto 98 dX3_isSo_94 (by decide) ?_
    exact g_iret hE rfl (⟨by rw [show bop 38 a b = b2i (decide (b ≤ a)) from rfl, decide_eq_true (show b ≤ a from by simp only [Int32.lt_iff_toInt_lt, Int32.le_iff_toInt_le, ← Int32.toInt_inj] at *; omega)]; rfl, rfl, rfl⟩) dX3_isSo_98
set_option maxRecDepth 100000 in
set_option maxHeartbeats 4000000 in
theorem m3_joinTwo_20 {X : gX} {h : gH} {z q : Nat} {L : List Int32} {day car : Int32} {st : List Int32} {K : gKo} (hK : gCo X K) (a b : Int32) (hS : PaS X h q L day car (b :: a :: st)) : gM X yX3_joinTwo cX3_joinTwo 4 none (4, 0, 0) [.ref q, .ref (K.1 20)] h z (fun r h' z' => r = none ∧ z' = z ∧ PaS X h' q L day car (bop 20 a b :: st) ∧ OffB h h' q 8) gNoX := by
  refine gM.of px3 (Nat.le_of_ble_eq_true rfl) ?_
  intro F hE
  have hO : OffB h h q 8 := OffB.rf
  have hl9 : st.length + 1 + 1 ≤ 64 := by obtain ⟨f, hB, hk, hl2, hL⟩ := id hS; exact hl2
  refine g_aload_n dX3_joinTwo_0 rfl ?_
  obtain ⟨f, hB, hk, hl2, hL⟩ := id hS
  refine g_callV0 kX3_128 (m3_pop b hS) hB.1 rfl rfl rfl (Nat.le_of_ble_eq_true rfl) (by decide) (by decide) (by decide) (by decide) dX3_joinTwo_1 ?_
  rintro v1 h2 z1 ⟨rfl, rfl, hS, hO2⟩
  have hO := hO.trans hO2
  refine g_istore_n dX3_joinTwo_4 (by decide) rfl ?_
  refine g_aload_n dX3_joinTwo_5 rfl ?_
  obtain ⟨f, hB, hk, hl2, hL⟩ := id hS
  refine g_callV0 kX3_128 (m3_pop a hS) hB.1 rfl rfl rfl (Nat.le_of_ble_eq_true rfl) (by decide) (by decide) (by decide) (by decide) dX3_joinTwo_6 ?_
  rintro v1 h2 z1 ⟨rfl, rfl, hS, hO2⟩
  have hO := hO.trans hO2
  refine g_istore_n dX3_joinTwo_9 (by decide) rfl ?_
  refine g_gets hK.2.2.2.1.1 wgX3_64 dX3_joinTwo_10 ?_
  refine g_aload_n dX3_joinTwo_13 rfl ?_
  refine g_ord kX3_73 hK (c := 20) (by omega) (Nat.le_of_ble_eq_true rfl) (by decide) (by decide) (by decide) dX3_joinTwo_14 ?_
  refine g_tald hK.2.2.2.1.2 (by omega) (by omega) dX3_joinTwo_17 ?_
  refine g_switch (142) 160 dX3_joinTwo_18 (by decide) (by decide) (by decide) (by decide) ?_
  refine g_aload_n dX3_joinTwo_160 rfl ?_
  refine g_iload_n dX3_joinTwo_161 rfl ?_
  refine g_iload_n dX3_joinTwo_162 rfl ?_
  refine g_iand dX3_joinTwo_163 ?_
  obtain ⟨f, hB, hk, hl2, hL⟩ := id hS
  refine g_callV0 kX3_131 (m3_push (bop 20 a b) (by omega) hS) hB.1 rfl rfl rfl (Nat.le_of_ble_eq_true rfl) (by decide) (by decide) (by decide) (by decide) dX3_joinTwo_164 ?_
  rintro v1 h2 z1 ⟨rfl, rfl, hS, hO2⟩
  have hO := hO.trans hO2
  refine g_goto 193 dX3_joinTwo_167 (by decide) ?_
  exact g_vret hE (⟨rfl, rfl, hS, hO⟩) dX3_joinTwo_193
set_option maxRecDepth 100000 in
set_option maxHeartbeats 4000000 in
theorem m3_joinTwo_21 {X : gX} {h : gH} {z q : Nat} {L : List Int32} {day car : Int32} {st : List Int32} {K : gKo} (hK : gCo X K) (a b : Int32) (hS : PaS X h q L day car (b :: a :: st)) : gM X yX3_joinTwo cX3_joinTwo 4 none (4, 0, 0) [.ref q, .ref (K.1 21)] h z (fun r h' z' => r = none ∧ z' = z ∧ PaS X h' q L day car (bop 21 a b :: st) ∧ OffB h h' q 8) gNoX := by
  refine gM.of px3 (Nat.le_of_ble_eq_true rfl) ?_
  intro F hE
  have hO : OffB h h q 8 := OffB.rf
  have hl9 : st.length + 1 + 1 ≤ 64 := by obtain ⟨f, hB, hk, hl2, hL⟩ := id hS; exact hl2
  refine g_aload_n dX3_joinTwo_0 rfl ?_
  obtain ⟨f, hB, hk, hl2, hL⟩ := id hS
  refine g_callV0 kX3_128 (m3_pop b hS) hB.1 rfl rfl rfl (Nat.le_of_ble_eq_true rfl) (by decide) (by decide) (by decide) (by decide) dX3_joinTwo_1 ?_
  rintro v1 h2 z1 ⟨rfl, rfl, hS, hO2⟩
  have hO := hO.trans hO2
  refine g_istore_n dX3_joinTwo_4 (by decide) rfl ?_
  refine g_aload_n dX3_joinTwo_5 rfl ?_
  obtain ⟨f, hB, hk, hl2, hL⟩ := id hS
  refine g_callV0 kX3_128 (m3_pop a hS) hB.1 rfl rfl rfl (Nat.le_of_ble_eq_true rfl) (by decide) (by decide) (by decide) (by decide) dX3_joinTwo_6 ?_
  rintro v1 h2 z1 ⟨rfl, rfl, hS, hO2⟩
  have hO := hO.trans hO2
  refine g_istore_n dX3_joinTwo_9 (by decide) rfl ?_
  refine g_gets hK.2.2.2.1.1 wgX3_64 dX3_joinTwo_10 ?_
  refine g_aload_n dX3_joinTwo_13 rfl ?_
  refine g_ord kX3_73 hK (c := 21) (by omega) (Nat.le_of_ble_eq_true rfl) (by decide) (by decide) (by decide) dX3_joinTwo_14 ?_
  refine g_tald hK.2.2.2.1.2 (by omega) (by omega) dX3_joinTwo_17 ?_
  refine g_switch (152) 170 dX3_joinTwo_18 (by decide) (by decide) (by decide) (by decide) ?_
  refine g_aload_n dX3_joinTwo_170 rfl ?_
  refine g_iload_n dX3_joinTwo_171 rfl ?_
  refine g_iload_n dX3_joinTwo_172 rfl ?_
  refine g_ior dX3_joinTwo_173 ?_
  obtain ⟨f, hB, hk, hl2, hL⟩ := id hS
  refine g_callV0 kX3_131 (m3_push (bop 21 a b) (by omega) hS) hB.1 rfl rfl rfl (Nat.le_of_ble_eq_true rfl) (by decide) (by decide) (by decide) (by decide) dX3_joinTwo_174 ?_
  rintro v1 h2 z1 ⟨rfl, rfl, hS, hO2⟩
  have hO := hO.trans hO2
  refine g_goto 193 dX3_joinTwo_177 (by decide) ?_
  exact g_vret hE (⟨rfl, rfl, hS, hO⟩) dX3_joinTwo_193
set_option maxRecDepth 100000 in
set_option maxHeartbeats 4000000 in
theorem m3_joinTwo_22 {X : gX} {h : gH} {z q : Nat} {L : List Int32} {day car : Int32} {st : List Int32} {K : gKo} (hK : gCo X K) (a b : Int32) (hS : PaS X h q L day car (b :: a :: st)) : gM X yX3_joinTwo cX3_joinTwo 4 none (4, 0, 0) [.ref q, .ref (K.1 22)] h z (fun r h' z' => r = none ∧ z' = z ∧ PaS X h' q L day car (bop 22 a b :: st) ∧ OffB h h' q 8) gNoX := by
  refine gM.of px3 (Nat.le_of_ble_eq_true rfl) ?_
  intro F hE
  have hO : OffB h h q 8 := OffB.rf
  have hl9 : st.length + 1 + 1 ≤ 64 := by obtain ⟨f, hB, hk, hl2, hL⟩ := id hS; exact hl2
  refine g_aload_n dX3_joinTwo_0 rfl ?_
  obtain ⟨f, hB, hk, hl2, hL⟩ := id hS
  refine g_callV0 kX3_128 (m3_pop b hS) hB.1 rfl rfl rfl (Nat.le_of_ble_eq_true rfl) (by decide) (by decide) (by decide) (by decide) dX3_joinTwo_1 ?_
  rintro v1 h2 z1 ⟨rfl, rfl, hS, hO2⟩
  have hO := hO.trans hO2
  refine g_istore_n dX3_joinTwo_4 (by decide) rfl ?_
  refine g_aload_n dX3_joinTwo_5 rfl ?_
  obtain ⟨f, hB, hk, hl2, hL⟩ := id hS
  refine g_callV0 kX3_128 (m3_pop a hS) hB.1 rfl rfl rfl (Nat.le_of_ble_eq_true rfl) (by decide) (by decide) (by decide) (by decide) dX3_joinTwo_6 ?_
  rintro v1 h2 z1 ⟨rfl, rfl, hS, hO2⟩
  have hO := hO.trans hO2
  refine g_istore_n dX3_joinTwo_9 (by decide) rfl ?_
  refine g_gets hK.2.2.2.1.1 wgX3_64 dX3_joinTwo_10 ?_
  refine g_aload_n dX3_joinTwo_13 rfl ?_
  refine g_ord kX3_73 hK (c := 22) (by omega) (Nat.le_of_ble_eq_true rfl) (by decide) (by decide) (by decide) dX3_joinTwo_14 ?_
  refine g_tald hK.2.2.2.1.2 (by omega) (by omega) dX3_joinTwo_17 ?_
  refine g_switch (118) 136 dX3_joinTwo_18 (by decide) (by decide) (by decide) (by decide) ?_
  refine g_aload_n dX3_joinTwo_136 rfl ?_
  refine g_iload_n dX3_joinTwo_137 rfl ?_
  refine g_iload_n dX3_joinTwo_138 rfl ?_
  refine gmin wmath_min wlX3_159 (by decide) (Nat.le_of_ble_eq_true rfl) (by decide) (by decide) dX3_joinTwo_139 ?_
  obtain ⟨f, hB, hk, hl2, hL⟩ := id hS
  refine g_callV0 kX3_131 (m3_push (bop 22 a b) (by omega) hS) hB.1 rfl rfl rfl (Nat.le_of_ble_eq_true rfl) (by decide) (by decide) (by decide) (by decide) dX3_joinTwo_142 ?_
  rintro v1 h2 z1 ⟨rfl, rfl, hS, hO2⟩
  have hO := hO.trans hO2
  refine g_goto 193 dX3_joinTwo_145 (by decide) ?_
  exact g_vret hE (⟨rfl, rfl, hS, hO⟩) dX3_joinTwo_193
set_option maxRecDepth 100000 in
set_option maxHeartbeats 4000000 in
theorem m3_joinTwo_23 {X : gX} {h : gH} {z q : Nat} {L : List Int32} {day car : Int32} {st : List Int32} {K : gKo} (hK : gCo X K) (a b : Int32) (hS : PaS X h q L day car (b :: a :: st)) : gM X yX3_joinTwo cX3_joinTwo 4 none (4, 0, 0) [.ref q, .ref (K.1 23)] h z (fun r h' z' => r = none ∧ z' = z ∧ PaS X h' q L day car (bop 23 a b :: st) ∧ OffB h h' q 8) gNoX := by
  refine gM.of px3 (Nat.le_of_ble_eq_true rfl) ?_
  intro F hE
  have hO : OffB h h q 8 := OffB.rf
  have hl9 : st.length + 1 + 1 ≤ 64 := by obtain ⟨f, hB, hk, hl2, hL⟩ := id hS; exact hl2
  refine g_aload_n dX3_joinTwo_0 rfl ?_
  obtain ⟨f, hB, hk, hl2, hL⟩ := id hS
  refine g_callV0 kX3_128 (m3_pop b hS) hB.1 rfl rfl rfl (Nat.le_of_ble_eq_true rfl) (by decide) (by decide) (by decide) (by decide) dX3_joinTwo_1 ?_
  rintro v1 h2 z1 ⟨rfl, rfl, hS, hO2⟩
  have hO := hO.trans hO2
  refine g_istore_n dX3_joinTwo_4 (by decide) rfl ?_
  refine g_aload_n dX3_joinTwo_5 rfl ?_
  obtain ⟨f, hB, hk, hl2, hL⟩ := id hS
  refine g_callV0 kX3_128 (m3_pop a hS) hB.1 rfl rfl rfl (Nat.le_of_ble_eq_true rfl) (by decide) (by decide) (by decide) (by decide) dX3_joinTwo_6 ?_
  rintro v1 h2 z1 ⟨rfl, rfl, hS, hO2⟩
  have hO := hO.trans hO2
  refine g_istore_n dX3_joinTwo_9 (by decide) rfl ?_
  refine g_gets hK.2.2.2.1.1 wgX3_64 dX3_joinTwo_10 ?_
  refine g_aload_n dX3_joinTwo_13 rfl ?_
  refine g_ord kX3_73 hK (c := 23) (by omega) (Nat.le_of_ble_eq_true rfl) (by decide) (by decide) (by decide) dX3_joinTwo_14 ?_
  refine g_tald hK.2.2.2.1.2 (by omega) (by omega) dX3_joinTwo_17 ?_
  refine g_switch (130) 148 dX3_joinTwo_18 (by decide) (by decide) (by decide) (by decide) ?_
  refine g_aload_n dX3_joinTwo_148 rfl ?_
  refine g_iload_n dX3_joinTwo_149 rfl ?_
  refine g_iload_n dX3_joinTwo_150 rfl ?_
  refine gmax wmath_max wlX3_165 (by decide) (Nat.le_of_ble_eq_true rfl) (by decide) (by decide) dX3_joinTwo_151 ?_
  obtain ⟨f, hB, hk, hl2, hL⟩ := id hS
  refine g_callV0 kX3_131 (m3_push (bop 23 a b) (by omega) hS) hB.1 rfl rfl rfl (Nat.le_of_ble_eq_true rfl) (by decide) (by decide) (by decide) (by decide) dX3_joinTwo_154 ?_
  rintro v1 h2 z1 ⟨rfl, rfl, hS, hO2⟩
  have hO := hO.trans hO2
  refine g_goto 193 dX3_joinTwo_157 (by decide) ?_
  exact g_vret hE (⟨rfl, rfl, hS, hO⟩) dX3_joinTwo_193
set_option maxRecDepth 100000 in
set_option maxHeartbeats 4000000 in
theorem m3_joinTwo_30 {X : gX} {h : gH} {z q : Nat} {L : List Int32} {day car : Int32} {st : List Int32} {K : gKo} (hK : gCo X K) (a b : Int32) (hS : PaS X h q L day car (b :: a :: st)) : gM X yX3_joinTwo cX3_joinTwo 4 none (4, 0, 0) [.ref q, .ref (K.1 30)] h z (fun r h' z' => r = none ∧ z' = z ∧ PaS X h' q L day car (bop 30 a b :: st) ∧ OffB h h' q 8) gNoX := by
  refine gM.of px3 (Nat.le_of_ble_eq_true rfl) ?_
  intro F hE
  have hO : OffB h h q 8 := OffB.rf
  have hl9 : st.length + 1 + 1 ≤ 64 := by obtain ⟨f, hB, hk, hl2, hL⟩ := id hS; exact hl2
  refine g_aload_n dX3_joinTwo_0 rfl ?_
  obtain ⟨f, hB, hk, hl2, hL⟩ := id hS
  refine g_callV0 kX3_128 (m3_pop b hS) hB.1 rfl rfl rfl (Nat.le_of_ble_eq_true rfl) (by decide) (by decide) (by decide) (by decide) dX3_joinTwo_1 ?_
  rintro v1 h2 z1 ⟨rfl, rfl, hS, hO2⟩
  have hO := hO.trans hO2
  refine g_istore_n dX3_joinTwo_4 (by decide) rfl ?_
  refine g_aload_n dX3_joinTwo_5 rfl ?_
  obtain ⟨f, hB, hk, hl2, hL⟩ := id hS
  refine g_callV0 kX3_128 (m3_pop a hS) hB.1 rfl rfl rfl (Nat.le_of_ble_eq_true rfl) (by decide) (by decide) (by decide) (by decide) dX3_joinTwo_6 ?_
  rintro v1 h2 z1 ⟨rfl, rfl, hS, hO2⟩
  have hO := hO.trans hO2
  refine g_istore_n dX3_joinTwo_9 (by decide) rfl ?_
  refine g_gets hK.2.2.2.1.1 wgX3_64 dX3_joinTwo_10 ?_
  refine g_aload_n dX3_joinTwo_13 rfl ?_
  refine g_ord kX3_73 hK (c := 30) (by omega) (Nat.le_of_ble_eq_true rfl) (by decide) (by decide) (by decide) dX3_joinTwo_14 ?_
  refine g_tald hK.2.2.2.1.2 (by omega) (by omega) dX3_joinTwo_17 ?_
  refine g_switch (70) 88 dX3_joinTwo_18 (by decide) (by decide) (by decide) (by decide) ?_
  refine g_aload_n dX3_joinTwo_88 rfl ?_
  refine g_iload_n dX3_joinTwo_89 rfl ?_
  refine g_iload_n dX3_joinTwo_90 rfl ?_
  first | refine g_iaddN dX3_joinTwo_91 ?_ | refine g_iadd dX3_joinTwo_91 ?_
  obtain ⟨f, hB, hk, hl2, hL⟩ := id hS
  refine g_callV0 kX3_131 (m3_push (bop 30 a b) (by omega) hS) hB.1 rfl rfl rfl (Nat.le_of_ble_eq_true rfl) (by decide) (by decide) (by decide) (by decide) dX3_joinTwo_92 ?_
  rintro v1 h2 z1 ⟨rfl, rfl, hS, hO2⟩
  have hO := hO.trans hO2
  refine g_goto 193 dX3_joinTwo_95 (by decide) ?_
  exact g_vret hE (⟨rfl, rfl, hS, hO⟩) dX3_joinTwo_193
set_option maxRecDepth 100000 in
set_option maxHeartbeats 4000000 in
theorem m3_joinTwo_31 {X : gX} {h : gH} {z q : Nat} {L : List Int32} {day car : Int32} {st : List Int32} {K : gKo} (hK : gCo X K) (a b : Int32) (hS : PaS X h q L day car (b :: a :: st)) : gM X yX3_joinTwo cX3_joinTwo 4 none (4, 0, 0) [.ref q, .ref (K.1 31)] h z (fun r h' z' => r = none ∧ z' = z ∧ PaS X h' q L day car (bop 31 a b :: st) ∧ OffB h h' q 8) gNoX := by
  refine gM.of px3 (Nat.le_of_ble_eq_true rfl) ?_
  intro F hE
  have hO : OffB h h q 8 := OffB.rf
  have hl9 : st.length + 1 + 1 ≤ 64 := by obtain ⟨f, hB, hk, hl2, hL⟩ := id hS; exact hl2
  refine g_aload_n dX3_joinTwo_0 rfl ?_
  obtain ⟨f, hB, hk, hl2, hL⟩ := id hS
  refine g_callV0 kX3_128 (m3_pop b hS) hB.1 rfl rfl rfl (Nat.le_of_ble_eq_true rfl) (by decide) (by decide) (by decide) (by decide) dX3_joinTwo_1 ?_
  rintro v1 h2 z1 ⟨rfl, rfl, hS, hO2⟩
  have hO := hO.trans hO2
  refine g_istore_n dX3_joinTwo_4 (by decide) rfl ?_
  refine g_aload_n dX3_joinTwo_5 rfl ?_
  obtain ⟨f, hB, hk, hl2, hL⟩ := id hS
  refine g_callV0 kX3_128 (m3_pop a hS) hB.1 rfl rfl rfl (Nat.le_of_ble_eq_true rfl) (by decide) (by decide) (by decide) (by decide) dX3_joinTwo_6 ?_
  rintro v1 h2 z1 ⟨rfl, rfl, hS, hO2⟩
  have hO := hO.trans hO2
  refine g_istore_n dX3_joinTwo_9 (by decide) rfl ?_
  refine g_gets hK.2.2.2.1.1 wgX3_64 dX3_joinTwo_10 ?_
  refine g_aload_n dX3_joinTwo_13 rfl ?_
  refine g_ord kX3_73 hK (c := 31) (by omega) (Nat.le_of_ble_eq_true rfl) (by decide) (by decide) (by decide) dX3_joinTwo_14 ?_
  refine g_tald hK.2.2.2.1.2 (by omega) (by omega) dX3_joinTwo_17 ?_
  refine g_switch (80) 98 dX3_joinTwo_18 (by decide) (by decide) (by decide) (by decide) ?_
  refine g_aload_n dX3_joinTwo_98 rfl ?_
  refine g_iload_n dX3_joinTwo_99 rfl ?_
  refine g_iload_n dX3_joinTwo_100 rfl ?_
  first | refine g_isubN dX3_joinTwo_101 (by omega) ?_ | refine g_isub dX3_joinTwo_101 ?_
  obtain ⟨f, hB, hk, hl2, hL⟩ := id hS
  refine g_callV0 kX3_131 (m3_push (bop 31 a b) (by omega) hS) hB.1 rfl rfl rfl (Nat.le_of_ble_eq_true rfl) (by decide) (by decide) (by decide) (by decide) dX3_joinTwo_102 ?_
  rintro v1 h2 z1 ⟨rfl, rfl, hS, hO2⟩
  have hO := hO.trans hO2
  refine g_goto 193 dX3_joinTwo_105 (by decide) ?_
  exact g_vret hE (⟨rfl, rfl, hS, hO⟩) dX3_joinTwo_193
set_option maxRecDepth 100000 in
set_option maxHeartbeats 4000000 in
theorem m3_joinTwo_32 {X : gX} {h : gH} {z q : Nat} {L : List Int32} {day car : Int32} {st : List Int32} {K : gKo} (hK : gCo X K) (a b : Int32) (hS : PaS X h q L day car (b :: a :: st)) : gM X yX3_joinTwo cX3_joinTwo 4 none (4, 0, 0) [.ref q, .ref (K.1 32)] h z (fun r h' z' => r = none ∧ z' = z ∧ PaS X h' q L day car (bop 32 a b :: st) ∧ OffB h h' q 8) gNoX := by
  refine gM.of px3 (Nat.le_of_ble_eq_true rfl) ?_
  intro F hE
  have hO : OffB h h q 8 := OffB.rf
  have hl9 : st.length + 1 + 1 ≤ 64 := by obtain ⟨f, hB, hk, hl2, hL⟩ := id hS; exact hl2
  refine g_aload_n dX3_joinTwo_0 rfl ?_
  obtain ⟨f, hB, hk, hl2, hL⟩ := id hS
  refine g_callV0 kX3_128 (m3_pop b hS) hB.1 rfl rfl rfl (Nat.le_of_ble_eq_true rfl) (by decide) (by decide) (by decide) (by decide) dX3_joinTwo_1 ?_
  rintro v1 h2 z1 ⟨rfl, rfl, hS, hO2⟩
  have hO := hO.trans hO2
  refine g_istore_n dX3_joinTwo_4 (by decide) rfl ?_
  refine g_aload_n dX3_joinTwo_5 rfl ?_
  obtain ⟨f, hB, hk, hl2, hL⟩ := id hS
  refine g_callV0 kX3_128 (m3_pop a hS) hB.1 rfl rfl rfl (Nat.le_of_ble_eq_true rfl) (by decide) (by decide) (by decide) (by decide) dX3_joinTwo_6 ?_
  rintro v1 h2 z1 ⟨rfl, rfl, hS, hO2⟩
  have hO := hO.trans hO2
  refine g_istore_n dX3_joinTwo_9 (by decide) rfl ?_
  refine g_gets hK.2.2.2.1.1 wgX3_64 dX3_joinTwo_10 ?_
  refine g_aload_n dX3_joinTwo_13 rfl ?_
  refine g_ord kX3_73 hK (c := 32) (by omega) (Nat.le_of_ble_eq_true rfl) (by decide) (by decide) (by decide) dX3_joinTwo_14 ?_
  refine g_tald hK.2.2.2.1.2 (by omega) (by omega) dX3_joinTwo_17 ?_
  refine g_switch (90) 108 dX3_joinTwo_18 (by decide) (by decide) (by decide) (by decide) ?_
  refine g_aload_n dX3_joinTwo_108 rfl ?_
  refine g_iload_n dX3_joinTwo_109 rfl ?_
  refine g_iload_n dX3_joinTwo_110 rfl ?_
  first | refine g_imulN dX3_joinTwo_111 ?_ | refine g_imul dX3_joinTwo_111 ?_
  obtain ⟨f, hB, hk, hl2, hL⟩ := id hS
  refine g_callV0 kX3_131 (m3_push (bop 32 a b) (by omega) hS) hB.1 rfl rfl rfl (Nat.le_of_ble_eq_true rfl) (by decide) (by decide) (by decide) (by decide) dX3_joinTwo_112 ?_
  rintro v1 h2 z1 ⟨rfl, rfl, hS, hO2⟩
  have hO := hO.trans hO2
  refine g_goto 193 dX3_joinTwo_115 (by decide) ?_
  exact g_vret hE (⟨rfl, rfl, hS, hO⟩) dX3_joinTwo_193
set_option maxRecDepth 100000 in
set_option maxHeartbeats 4000000 in
theorem m3_joinTwo_33 {X : gX} {h : gH} {z q : Nat} {L : List Int32} {day car : Int32} {st : List Int32} {K : gKo} (hK : gCo X K) (a b : Int32) (hS : PaS X h q L day car (b :: a :: st)) : gM X yX3_joinTwo cX3_joinTwo 4 none (4, 0, 0) [.ref q, .ref (K.1 33)] h z (fun r h' z' => r = none ∧ z' = z ∧ PaS X h' q L day car (bop 33 a b :: st) ∧ OffB h h' q 8) gNoX := by
  refine gM.of px3 (Nat.le_of_ble_eq_true rfl) ?_
  intro F hE
  have hO : OffB h h q 8 := OffB.rf
  have hl9 : st.length + 1 + 1 ≤ 64 := by obtain ⟨f, hB, hk, hl2, hL⟩ := id hS; exact hl2
  refine g_aload_n dX3_joinTwo_0 rfl ?_
  obtain ⟨f, hB, hk, hl2, hL⟩ := id hS
  refine g_callV0 kX3_128 (m3_pop b hS) hB.1 rfl rfl rfl (Nat.le_of_ble_eq_true rfl) (by decide) (by decide) (by decide) (by decide) dX3_joinTwo_1 ?_
  rintro v1 h2 z1 ⟨rfl, rfl, hS, hO2⟩
  have hO := hO.trans hO2
  refine g_istore_n dX3_joinTwo_4 (by decide) rfl ?_
  refine g_aload_n dX3_joinTwo_5 rfl ?_
  obtain ⟨f, hB, hk, hl2, hL⟩ := id hS
  refine g_callV0 kX3_128 (m3_pop a hS) hB.1 rfl rfl rfl (Nat.le_of_ble_eq_true rfl) (by decide) (by decide) (by decide) (by decide) dX3_joinTwo_6 ?_
  rintro v1 h2 z1 ⟨rfl, rfl, hS, hO2⟩
  have hO := hO.trans hO2
  refine g_istore_n dX3_joinTwo_9 (by decide) rfl ?_
  refine g_gets hK.2.2.2.1.1 wgX3_64 dX3_joinTwo_10 ?_
  refine g_aload_n dX3_joinTwo_13 rfl ?_
  refine g_ord kX3_73 hK (c := 33) (by omega) (Nat.le_of_ble_eq_true rfl) (by decide) (by decide) (by decide) dX3_joinTwo_14 ?_
  refine g_tald hK.2.2.2.1.2 (by omega) (by omega) dX3_joinTwo_17 ?_
  refine g_switch (100) 118 dX3_joinTwo_18 (by decide) (by decide) (by decide) (by decide) ?_
  refine g_aload_n dX3_joinTwo_118 rfl ?_
  refine g_iload_n dX3_joinTwo_119 rfl ?_
  refine g_if_ne 127 dX3_joinTwo_120 (by decide) (fun c_120 => ?_) (fun c_120 => ?_)
  · refine g_iload_n dX3_joinTwo_127 rfl ?_
    refine g_iload_n dX3_joinTwo_128 rfl ?_
    refine g_idiv dX3_joinTwo_129 c_120 ?_
    obtain ⟨f, hB, hk, hl2, hL⟩ := id hS
    rw [show a / b = bop 33 a b from by rw [show bop 33 a b = (if b = 0 then 0 else a / b) from rfl, if_neg c_120]]
    refine g_callV0 kX3_131 (m3_push (bop 33 a b) (by omega) hS) hB.1 rfl rfl rfl (Nat.le_of_ble_eq_true rfl) (by decide) (by decide) (by decide) (by decide) dX3_joinTwo_130 ?_
    rintro v1 h2 z1 ⟨rfl, rfl, hS, hO2⟩
    have hO := hO.trans hO2
    refine g_goto 193 dX3_joinTwo_133 (by decide) ?_
    exact g_vret hE (⟨rfl, rfl, hS, hO⟩) dX3_joinTwo_193
  · refine g_iconst (nI 0) dX3_joinTwo_123 (by decide) ?_
    refine g_goto 130 dX3_joinTwo_124 (by decide) ?_
    obtain ⟨f, hB, hk, hl2, hL⟩ := id hS
    rw [show nI 0 = bop 33 a b from by rw [show bop 33 a b = (if b = 0 then 0 else a / b) from rfl, if_pos c_120]; rfl]
    refine g_callV0 kX3_131 (m3_push (bop 33 a b) (by omega) hS) hB.1 rfl rfl rfl (Nat.le_of_ble_eq_true rfl) (by decide) (by decide) (by decide) (by decide) dX3_joinTwo_130 ?_
    rintro v1 h2 z1 ⟨rfl, rfl, hS, hO2⟩
    have hO := hO.trans hO2
    refine g_goto 193 dX3_joinTwo_133 (by decide) ?_
    exact g_vret hE (⟨rfl, rfl, hS, hO⟩) dX3_joinTwo_193
set_option maxRecDepth 100000 in
set_option maxHeartbeats 4000000 in
theorem m3_joinTwo_34 {X : gX} {h : gH} {z q : Nat} {L : List Int32} {day car : Int32} {st : List Int32} {K : gKo} (hK : gCo X K) (a b : Int32) (hS : PaS X h q L day car (b :: a :: st)) : gM X yX3_joinTwo cX3_joinTwo 4 none (4, 0, 0) [.ref q, .ref (K.1 34)] h z (fun r h' z' => r = none ∧ z' = z ∧ PaS X h' q L day car (bop 34 a b :: st) ∧ OffB h h' q 8) gNoX := by
  refine gM.of px3 (Nat.le_of_ble_eq_true rfl) ?_
  intro F hE
  have hO : OffB h h q 8 := OffB.rf
  have hl9 : st.length + 1 + 1 ≤ 64 := by obtain ⟨f, hB, hk, hl2, hL⟩ := id hS; exact hl2
  refine g_aload_n dX3_joinTwo_0 rfl ?_
  obtain ⟨f, hB, hk, hl2, hL⟩ := id hS
  refine g_callV0 kX3_128 (m3_pop b hS) hB.1 rfl rfl rfl (Nat.le_of_ble_eq_true rfl) (by decide) (by decide) (by decide) (by decide) dX3_joinTwo_1 ?_
  rintro v1 h2 z1 ⟨rfl, rfl, hS, hO2⟩
  have hO := hO.trans hO2
  refine g_istore_n dX3_joinTwo_4 (by decide) rfl ?_
  refine g_aload_n dX3_joinTwo_5 rfl ?_
  obtain ⟨f, hB, hk, hl2, hL⟩ := id hS
  refine g_callV0 kX3_128 (m3_pop a hS) hB.1 rfl rfl rfl (Nat.le_of_ble_eq_true rfl) (by decide) (by decide) (by decide) (by decide) dX3_joinTwo_6 ?_
  rintro v1 h2 z1 ⟨rfl, rfl, hS, hO2⟩
  have hO := hO.trans hO2
  refine g_istore_n dX3_joinTwo_9 (by decide) rfl ?_
  refine g_gets hK.2.2.2.1.1 wgX3_64 dX3_joinTwo_10 ?_
  refine g_aload_n dX3_joinTwo_13 rfl ?_
  refine g_ord kX3_73 hK (c := 34) (by omega) (Nat.le_of_ble_eq_true rfl) (by decide) (by decide) (by decide) dX3_joinTwo_14 ?_
  refine g_tald hK.2.2.2.1.2 (by omega) (by omega) dX3_joinTwo_17 ?_
  refine g_switchD 180 dX3_joinTwo_18 (by decide) (by decide) ?_
  refine g_aload_n dX3_joinTwo_180 rfl ?_
  refine g_aload_n dX3_joinTwo_181 rfl ?_
  refine g_iload_n dX3_joinTwo_182 rfl ?_
  refine g_iload_n dX3_joinTwo_183 rfl ?_
  refine g_callS0 kX3_168 (m3_isSo_34 hK a b) rfl rfl (Nat.le_of_ble_eq_true rfl) (by decide) (by decide) (by decide) (by decide) dX3_joinTwo_184 ?_
  rintro v1 h2 z1 ⟨rfl, rfl, rfl⟩
  refine G.eqv (show _ = [.int (b2i (decide (a < b))), .ref q] from rfl) ?_
  refine g_callS0 kX3_151 (m3_truth (decide (a < b))) rfl rfl (Nat.le_of_ble_eq_true rfl) (by decide) (by decide) (by decide) (by decide) dX3_joinTwo_187 ?_
  rintro v1 h2 z1 ⟨rfl, rfl, rfl⟩
  obtain ⟨f, hB, hk, hl2, hL⟩ := id hS
  refine g_callV0 kX3_131 (m3_push (bop 34 a b) (by omega) hS) hB.1 rfl rfl rfl (Nat.le_of_ble_eq_true rfl) (by decide) (by decide) (by decide) (by decide) dX3_joinTwo_190 ?_
  rintro v1 h2 z1 ⟨rfl, rfl, hS, hO2⟩
  have hO := hO.trans hO2
  exact g_vret hE (⟨rfl, rfl, hS, hO⟩) dX3_joinTwo_193
set_option maxRecDepth 100000 in
set_option maxHeartbeats 4000000 in
theorem m3_joinTwo_35 {X : gX} {h : gH} {z q : Nat} {L : List Int32} {day car : Int32} {st : List Int32} {K : gKo} (hK : gCo X K) (a b : Int32) (hS : PaS X h q L day car (b :: a :: st)) : gM X yX3_joinTwo cX3_joinTwo 4 none (4, 0, 0) [.ref q, .ref (K.1 35)] h z (fun r h' z' => r = none ∧ z' = z ∧ PaS X h' q L day car (bop 35 a b :: st) ∧ OffB h h' q 8) gNoX := by
  refine gM.of px3 (Nat.le_of_ble_eq_true rfl) ?_
  intro F hE
  have hO : OffB h h q 8 := OffB.rf
  have hl9 : st.length + 1 + 1 ≤ 64 := by obtain ⟨f, hB, hk, hl2, hL⟩ := id hS; exact hl2
  refine g_aload_n dX3_joinTwo_0 rfl ?_
  obtain ⟨f, hB, hk, hl2, hL⟩ := id hS
  refine g_callV0 kX3_128 (m3_pop b hS) hB.1 rfl rfl rfl (Nat.le_of_ble_eq_true rfl) (by decide) (by decide) (by decide) (by decide) dX3_joinTwo_1 ?_
  rintro v1 h2 z1 ⟨rfl, rfl, hS, hO2⟩
  have hO := hO.trans hO2
  refine g_istore_n dX3_joinTwo_4 (by decide) rfl ?_
  refine g_aload_n dX3_joinTwo_5 rfl ?_
  obtain ⟨f, hB, hk, hl2, hL⟩ := id hS
  refine g_callV0 kX3_128 (m3_pop a hS) hB.1 rfl rfl rfl (Nat.le_of_ble_eq_true rfl) (by decide) (by decide) (by decide) (by decide) dX3_joinTwo_6 ?_
  rintro v1 h2 z1 ⟨rfl, rfl, hS, hO2⟩
  have hO := hO.trans hO2
  refine g_istore_n dX3_joinTwo_9 (by decide) rfl ?_
  refine g_gets hK.2.2.2.1.1 wgX3_64 dX3_joinTwo_10 ?_
  refine g_aload_n dX3_joinTwo_13 rfl ?_
  refine g_ord kX3_73 hK (c := 35) (by omega) (Nat.le_of_ble_eq_true rfl) (by decide) (by decide) (by decide) dX3_joinTwo_14 ?_
  refine g_tald hK.2.2.2.1.2 (by omega) (by omega) dX3_joinTwo_17 ?_
  refine g_switchD 180 dX3_joinTwo_18 (by decide) (by decide) ?_
  refine g_aload_n dX3_joinTwo_180 rfl ?_
  refine g_aload_n dX3_joinTwo_181 rfl ?_
  refine g_iload_n dX3_joinTwo_182 rfl ?_
  refine g_iload_n dX3_joinTwo_183 rfl ?_
  refine g_callS0 kX3_168 (m3_isSo_35 hK a b) rfl rfl (Nat.le_of_ble_eq_true rfl) (by decide) (by decide) (by decide) (by decide) dX3_joinTwo_184 ?_
  rintro v1 h2 z1 ⟨rfl, rfl, rfl⟩
  refine G.eqv (show _ = [.int (b2i (decide (b < a))), .ref q] from rfl) ?_
  refine g_callS0 kX3_151 (m3_truth (decide (b < a))) rfl rfl (Nat.le_of_ble_eq_true rfl) (by decide) (by decide) (by decide) (by decide) dX3_joinTwo_187 ?_
  rintro v1 h2 z1 ⟨rfl, rfl, rfl⟩
  obtain ⟨f, hB, hk, hl2, hL⟩ := id hS
  refine g_callV0 kX3_131 (m3_push (bop 35 a b) (by omega) hS) hB.1 rfl rfl rfl (Nat.le_of_ble_eq_true rfl) (by decide) (by decide) (by decide) (by decide) dX3_joinTwo_190 ?_
  rintro v1 h2 z1 ⟨rfl, rfl, hS, hO2⟩
  have hO := hO.trans hO2
  exact g_vret hE (⟨rfl, rfl, hS, hO⟩) dX3_joinTwo_193
set_option maxRecDepth 100000 in
set_option maxHeartbeats 4000000 in
theorem m3_joinTwo_36 {X : gX} {h : gH} {z q : Nat} {L : List Int32} {day car : Int32} {st : List Int32} {K : gKo} (hK : gCo X K) (a b : Int32) (hS : PaS X h q L day car (b :: a :: st)) : gM X yX3_joinTwo cX3_joinTwo 4 none (4, 0, 0) [.ref q, .ref (K.1 36)] h z (fun r h' z' => r = none ∧ z' = z ∧ PaS X h' q L day car (bop 36 a b :: st) ∧ OffB h h' q 8) gNoX := by
  refine gM.of px3 (Nat.le_of_ble_eq_true rfl) ?_
  intro F hE
  have hO : OffB h h q 8 := OffB.rf
  have hl9 : st.length + 1 + 1 ≤ 64 := by obtain ⟨f, hB, hk, hl2, hL⟩ := id hS; exact hl2
  refine g_aload_n dX3_joinTwo_0 rfl ?_
  obtain ⟨f, hB, hk, hl2, hL⟩ := id hS
  refine g_callV0 kX3_128 (m3_pop b hS) hB.1 rfl rfl rfl (Nat.le_of_ble_eq_true rfl) (by decide) (by decide) (by decide) (by decide) dX3_joinTwo_1 ?_
  rintro v1 h2 z1 ⟨rfl, rfl, hS, hO2⟩
  have hO := hO.trans hO2
  refine g_istore_n dX3_joinTwo_4 (by decide) rfl ?_
  refine g_aload_n dX3_joinTwo_5 rfl ?_
  obtain ⟨f, hB, hk, hl2, hL⟩ := id hS
  refine g_callV0 kX3_128 (m3_pop a hS) hB.1 rfl rfl rfl (Nat.le_of_ble_eq_true rfl) (by decide) (by decide) (by decide) (by decide) dX3_joinTwo_6 ?_
  rintro v1 h2 z1 ⟨rfl, rfl, hS, hO2⟩
  have hO := hO.trans hO2
  refine g_istore_n dX3_joinTwo_9 (by decide) rfl ?_
  refine g_gets hK.2.2.2.1.1 wgX3_64 dX3_joinTwo_10 ?_
  refine g_aload_n dX3_joinTwo_13 rfl ?_
  refine g_ord kX3_73 hK (c := 36) (by omega) (Nat.le_of_ble_eq_true rfl) (by decide) (by decide) (by decide) dX3_joinTwo_14 ?_
  refine g_tald hK.2.2.2.1.2 (by omega) (by omega) dX3_joinTwo_17 ?_
  refine g_switchD 180 dX3_joinTwo_18 (by decide) (by decide) ?_
  refine g_aload_n dX3_joinTwo_180 rfl ?_
  refine g_aload_n dX3_joinTwo_181 rfl ?_
  refine g_iload_n dX3_joinTwo_182 rfl ?_
  refine g_iload_n dX3_joinTwo_183 rfl ?_
  refine g_callS0 kX3_168 (m3_isSo_36 hK a b) rfl rfl (Nat.le_of_ble_eq_true rfl) (by decide) (by decide) (by decide) (by decide) dX3_joinTwo_184 ?_
  rintro v1 h2 z1 ⟨rfl, rfl, rfl⟩
  refine G.eqv (show _ = [.int (b2i (decide (a = b))), .ref q] from rfl) ?_
  refine g_callS0 kX3_151 (m3_truth (decide (a = b))) rfl rfl (Nat.le_of_ble_eq_true rfl) (by decide) (by decide) (by decide) (by decide) dX3_joinTwo_187 ?_
  rintro v1 h2 z1 ⟨rfl, rfl, rfl⟩
  obtain ⟨f, hB, hk, hl2, hL⟩ := id hS
  refine g_callV0 kX3_131 (m3_push (bop 36 a b) (by omega) hS) hB.1 rfl rfl rfl (Nat.le_of_ble_eq_true rfl) (by decide) (by decide) (by decide) (by decide) dX3_joinTwo_190 ?_
  rintro v1 h2 z1 ⟨rfl, rfl, hS, hO2⟩
  have hO := hO.trans hO2
  exact g_vret hE (⟨rfl, rfl, hS, hO⟩) dX3_joinTwo_193
set_option maxRecDepth 100000 in
set_option maxHeartbeats 4000000 in
theorem m3_joinTwo_37 {X : gX} {h : gH} {z q : Nat} {L : List Int32} {day car : Int32} {st : List Int32} {K : gKo} (hK : gCo X K) (a b : Int32) (hS : PaS X h q L day car (b :: a :: st)) : gM X yX3_joinTwo cX3_joinTwo 4 none (4, 0, 0) [.ref q, .ref (K.1 37)] h z (fun r h' z' => r = none ∧ z' = z ∧ PaS X h' q L day car (bop 37 a b :: st) ∧ OffB h h' q 8) gNoX := by
  refine gM.of px3 (Nat.le_of_ble_eq_true rfl) ?_
  intro F hE
  have hO : OffB h h q 8 := OffB.rf
  have hl9 : st.length + 1 + 1 ≤ 64 := by obtain ⟨f, hB, hk, hl2, hL⟩ := id hS; exact hl2
  refine g_aload_n dX3_joinTwo_0 rfl ?_
  obtain ⟨f, hB, hk, hl2, hL⟩ := id hS
  refine g_callV0 kX3_128 (m3_pop b hS) hB.1 rfl rfl rfl (Nat.le_of_ble_eq_true rfl) (by decide) (by decide) (by decide) (by decide) dX3_joinTwo_1 ?_
  rintro v1 h2 z1 ⟨rfl, rfl, hS, hO2⟩
  have hO := hO.trans hO2
  refine g_istore_n dX3_joinTwo_4 (by decide) rfl ?_
  refine g_aload_n dX3_joinTwo_5 rfl ?_
  obtain ⟨f, hB, hk, hl2, hL⟩ := id hS
  refine g_callV0 kX3_128 (m3_pop a hS) hB.1 rfl rfl rfl (Nat.le_of_ble_eq_true rfl) (by decide) (by decide) (by decide) (by decide) dX3_joinTwo_6 ?_
  rintro v1 h2 z1 ⟨rfl, rfl, hS, hO2⟩
  have hO := hO.trans hO2
  refine g_istore_n dX3_joinTwo_9 (by decide) rfl ?_
  refine g_gets hK.2.2.2.1.1 wgX3_64 dX3_joinTwo_10 ?_
  refine g_aload_n dX3_joinTwo_13 rfl ?_
  refine g_ord kX3_73 hK (c := 37) (by omega) (Nat.le_of_ble_eq_true rfl) (by decide) (by decide) (by decide) dX3_joinTwo_14 ?_
  refine g_tald hK.2.2.2.1.2 (by omega) (by omega) dX3_joinTwo_17 ?_
  refine g_switchD 180 dX3_joinTwo_18 (by decide) (by decide) ?_
  refine g_aload_n dX3_joinTwo_180 rfl ?_
  refine g_aload_n dX3_joinTwo_181 rfl ?_
  refine g_iload_n dX3_joinTwo_182 rfl ?_
  refine g_iload_n dX3_joinTwo_183 rfl ?_
  refine g_callS0 kX3_168 (m3_isSo_37 hK a b) rfl rfl (Nat.le_of_ble_eq_true rfl) (by decide) (by decide) (by decide) (by decide) dX3_joinTwo_184 ?_
  rintro v1 h2 z1 ⟨rfl, rfl, rfl⟩
  refine G.eqv (show _ = [.int (b2i (decide (a ≤ b))), .ref q] from rfl) ?_
  refine g_callS0 kX3_151 (m3_truth (decide (a ≤ b))) rfl rfl (Nat.le_of_ble_eq_true rfl) (by decide) (by decide) (by decide) (by decide) dX3_joinTwo_187 ?_
  rintro v1 h2 z1 ⟨rfl, rfl, rfl⟩
  obtain ⟨f, hB, hk, hl2, hL⟩ := id hS
  refine g_callV0 kX3_131 (m3_push (bop 37 a b) (by omega) hS) hB.1 rfl rfl rfl (Nat.le_of_ble_eq_true rfl) (by decide) (by decide) (by decide) (by decide) dX3_joinTwo_190 ?_
  rintro v1 h2 z1 ⟨rfl, rfl, hS, hO2⟩
  have hO := hO.trans hO2
  exact g_vret hE (⟨rfl, rfl, hS, hO⟩) dX3_joinTwo_193
set_option maxRecDepth 100000 in
set_option maxHeartbeats 4000000 in
theorem m3_joinTwo_38 {X : gX} {h : gH} {z q : Nat} {L : List Int32} {day car : Int32} {st : List Int32} {K : gKo} (hK : gCo X K) (a b : Int32) (hS : PaS X h q L day car (b :: a :: st)) : gM X yX3_joinTwo cX3_joinTwo 4 none (4, 0, 0) [.ref q, .ref (K.1 38)] h z (fun r h' z' => r = none ∧ z' = z ∧ PaS X h' q L day car (bop 38 a b :: st) ∧ OffB h h' q 8) gNoX := by
  refine gM.of px3 (Nat.le_of_ble_eq_true rfl) ?_
  intro F hE
  have hO : OffB h h q 8 := OffB.rf
  have hl9 : st.length + 1 + 1 ≤ 64 := by obtain ⟨f, hB, hk, hl2, hL⟩ := id hS; exact hl2
  refine g_aload_n dX3_joinTwo_0 rfl ?_
  obtain ⟨f, hB, hk, hl2, hL⟩ := id hS
  refine g_callV0 kX3_128 (m3_pop b hS) hB.1 rfl rfl rfl (Nat.le_of_ble_eq_true rfl) (by decide) (by decide) (by decide) (by decide) dX3_joinTwo_1 ?_
  rintro v1 h2 z1 ⟨rfl, rfl, hS, hO2⟩
  have hO := hO.trans hO2
  refine g_istore_n dX3_joinTwo_4 (by decide) rfl ?_
  refine g_aload_n dX3_joinTwo_5 rfl ?_
  obtain ⟨f, hB, hk, hl2, hL⟩ := id hS
  refine g_callV0 kX3_128 (m3_pop a hS) hB.1 rfl rfl rfl (Nat.le_of_ble_eq_true rfl) (by decide) (by decide) (by decide) (by decide) dX3_joinTwo_6 ?_
  rintro v1 h2 z1 ⟨rfl, rfl, hS, hO2⟩
  have hO := hO.trans hO2
  refine g_istore_n dX3_joinTwo_9 (by decide) rfl ?_
  refine g_gets hK.2.2.2.1.1 wgX3_64 dX3_joinTwo_10 ?_
  refine g_aload_n dX3_joinTwo_13 rfl ?_
  refine g_ord kX3_73 hK (c := 38) (by omega) (Nat.le_of_ble_eq_true rfl) (by decide) (by decide) (by decide) dX3_joinTwo_14 ?_
  refine g_tald hK.2.2.2.1.2 (by omega) (by omega) dX3_joinTwo_17 ?_
  refine g_switchD 180 dX3_joinTwo_18 (by decide) (by decide) ?_
  refine g_aload_n dX3_joinTwo_180 rfl ?_
  refine g_aload_n dX3_joinTwo_181 rfl ?_
  refine g_iload_n dX3_joinTwo_182 rfl ?_
  refine g_iload_n dX3_joinTwo_183 rfl ?_
  refine g_callS0 kX3_168 (m3_isSo_38 hK a b) rfl rfl (Nat.le_of_ble_eq_true rfl) (by decide) (by decide) (by decide) (by decide) dX3_joinTwo_184 ?_
  rintro v1 h2 z1 ⟨rfl, rfl, rfl⟩
  refine G.eqv (show _ = [.int (b2i (decide (b ≤ a))), .ref q] from rfl) ?_
  refine g_callS0 kX3_151 (m3_truth (decide (b ≤ a))) rfl rfl (Nat.le_of_ble_eq_true rfl) (by decide) (by decide) (by decide) (by decide) dX3_joinTwo_187 ?_
  rintro v1 h2 z1 ⟨rfl, rfl, rfl⟩
  obtain ⟨f, hB, hk, hl2, hL⟩ := id hS
  refine g_callV0 kX3_131 (m3_push (bop 38 a b) (by omega) hS) hB.1 rfl rfl rfl (Nat.le_of_ble_eq_true rfl) (by decide) (by decide) (by decide) (by decide) dX3_joinTwo_190 ?_
  rintro v1 h2 z1 ⟨rfl, rfl, hS, hO2⟩
  have hO := hO.trans hO2
  exact g_vret hE (⟨rfl, rfl, hS, hO⟩) dX3_joinTwo_193
theorem m3_joinTwo {X : gX} {h : gH} {z q : Nat} {L : List Int32} {day car : Int32} {st : List Int32} {c : Nat} {K : gKo} (hK : gCo X K) (hc : isBi c = true) (a b : Int32) (hS : PaS X h q L day car (b :: a :: st)) : gM X yX3_joinTwo cX3_joinTwo 4 none (4, 0, 0) [.ref q, .ref (K.1 c)] h z (fun r h' z' => r = none ∧ z' = z ∧ PaS X h' q L day car (bop c a b :: st) ∧ OffB h h' q 8) gNoX := by
  have h39 := code_lt (c := c) (by rw [hc]; simp)
  rcases isBi_cases c h39 hc with rfl | rfl | rfl | rfl | rfl | rfl | rfl | rfl | rfl | rfl | rfl | rfl | rfl
  · exact m3_joinTwo_20 hK a b hS
  · exact m3_joinTwo_21 hK a b hS
  · exact m3_joinTwo_22 hK a b hS
  · exact m3_joinTwo_23 hK a b hS
  · exact m3_joinTwo_30 hK a b hS
  · exact m3_joinTwo_31 hK a b hS
  · exact m3_joinTwo_32 hK a b hS
  · exact m3_joinTwo_33 hK a b hS
  · exact m3_joinTwo_34 hK a b hS
  · exact m3_joinTwo_35 hK a b hS
  · exact m3_joinTwo_36 hK a b hS
  · exact m3_joinTwo_37 hK a b hS
  · exact m3_joinTwo_38 hK a b hS
