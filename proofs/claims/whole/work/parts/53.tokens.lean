/-! the tokens and their texts, what is told of them at the start; the methods of String that are called -/
def tkN : List String := ["NONE", "END", "NAME", "NUMBER", "TURN", "INSULT", "HEAR", "MOCK", "ECHO", "FORGET", "WHEN", "DAY", "LENGTH", "LONGEST", "KINDS", "COUNT", "PLACE", "OF", "KNOWS", "NOT", "AND", "OR", "MIN", "MAX", "OPEN", "CLOSE", "OPEN_TEST", "CLOSE_TEST", "SEMICOLON", "COMMA", "PLUS", "MINUS", "TIMES", "OVER", "LESS", "MORE", "EQUAL", "AT_MOST", "AT_LEAST"]
def tkT : List (List Nat) := [[], [], [], [], [], [105, 110, 115, 117, 108, 116], [104, 101, 97, 114], [109, 111, 99, 107], [101, 99, 104, 111], [102, 111, 114, 103, 101, 116], [119, 104, 101, 110], [100, 97, 121], [108, 101, 110, 103, 116, 104], [108, 111, 110, 103, 101, 115, 116], [107, 105, 110, 100, 115], [99, 111, 117, 110, 116], [112, 108, 97, 99, 101], [111, 102], [107, 110, 111, 119, 115], [110, 111, 116], [97, 110, 100], [111, 114], [109, 105, 110], [109, 97, 120], [40], [41], [91], [93], [59], [44], [43], [45], [42], [47], [60], [62], [61], [60, 61], [62, 61]]
def swL : List Nat := [0, 0, 0, 4, 19, 0, 15, 16, 17, 18, 0, 5, 6, 7, 8, 9, 10, 0, 3, 1, 23, 24, 13, 14, 12, 0, 2, 0, 0, 0, 20, 11, 21, 22, 25, 26, 27, 28, 29]
abbrev gKo : Type := (Nat → Nat) × (Nat → Nat) × Nat × Nat × Nat
/-- a text of Latin letters -/
def gStr (X : gX) (a : Nat) (T : List Nat) : Prop := gO X "java/lang/String" a ∧ gOF X "java/lang/String" "coder" "B" (.int 0) a ∧ ∃ v : Nat, gOF X "java/lang/String" "value" "[B" (.ref v) a ∧ gTb X .byte v T.length (fun j => .int (nI (T.getD j 0)))
/-- K: where the tokens, their texts, the row of all tokens, the numbers for switches and the words of the reference lie -/
def gCo (X : gX) (K : gKo) : Prop :=
  (∀ c, c < 39 → gZ X RX7 (tkN.getD c "") "LParrotSquawks$Token;" (.ref (K.1 c)) ∧ gO X RX7 (K.1 c) ∧ gOF X "java/lang/Enum" "ordinal" "I" (.int (nI c)) (K.1 c) ∧ gOF X RX7 "text" "Ljava/lang/String;" (.ref (K.2.1 c)) (K.1 c)) ∧
  (∀ c, c < 39 → gStr X (K.2.1 c) (tkT.getD c [])) ∧
  (gZ X RX7 "ALL" "[LParrotSquawks$Token;" (.ref K.2.2.1) ∧ gTb X (.object RX7) K.2.2.1 39 (fun j => .ref (K.1 j))) ∧
  (gZ X "ParrotSquawks$1" "$SwitchMap$ParrotSquawks$Token" "[I" (.ref K.2.2.2.1) ∧ gTb X .int K.2.2.2.1 39 (fun j => .int (nI (swL.getD j 0)))) ∧
  (gZ X RX12 "WORDS" "[Ljava/lang/String;" (.ref K.2.2.2.2) ∧ gTb X (.object "java/lang/String") K.2.2.2.2 19 (fun j => .ref (K.2.1 (j + 5)))) ∧
  gZ X "java/lang/String" "COMPACT_STRINGS" "Z" (.int 1) ∧
  ∃ v : Value, v.category = 1 ∧ gZ X "jdk/internal/util/Preconditions" "SIOOBE_FORMATTER" "Ljava/util/function/BiFunction;" v
theorem gCo.inj {X : gX} {K : gKo} (hK : gCo X K) {c d : Nat} (hc : c < 39) (hd : d < 39) (h : K.1 c = K.1 d) : c = d := by
  obtain ⟨cf, kf, fi, f, cell, h1, h2, h3, h4, h5, h6⟩ := (hK.1 c hc).2.2.1
  obtain ⟨cf', kf', fi', f', cell', g1, g2, g3, g4, g5, g6⟩ := (hK.1 d hd).2.2.1
  rw [h1] at g1
  cases g1
  rw [← h, h3] at g3
  cases g3
  rw [h5] at g5
  have h9 : nI c = nI d := Value.int.inj (Option.some.inj g5)
  exact (nI_eq (by omega) (by omega)).mp h9
theorem gCo.sm {X : gX} {K : gKo} (hK : gCo X K) {c d : Nat} (hc : c < 39) (hd : d < 39) : (some (K.1 c) = some (K.1 d)) ↔ c = d := ⟨fun h => hK.inj hc hd (Option.some.inj h), fun h => by rw [h]⟩
theorem kJ0_335 : gWV RJ0 335 yJ0_coder_7d493 cJ0_coder_7d493 1 (some .byte) 0 := ⟨⟨gm2 103 (by decide +kernel), gm2 104 (by decide +kernel), gm2 105 (by decide +kernel), gm1 19 (by decide +kernel), gm2 106 (by decide +kernel)⟩, by decide, by decide, by decide⟩
theorem kJ0_492 : gWV RJ0 492 yJ0_isLatin1_aae02 cJ0_isLatin1_aae02 1 (some .boolean) 0 := ⟨⟨gm2 117 (by decide +kernel), gm2 118 (by decide +kernel), gm2 119 (by decide +kernel), gm1 19 (by decide +kernel), gm2 120 (by decide +kernel)⟩, by decide, by decide, by decide⟩
theorem kJ0_495 : gWs RJ0 495 yJ1_charAt_3b067 cJ1_charAt_3b067 2 (some .char) 2 := ⟨⟨gm2 121 (by decide +kernel), gm2 122 (by decide +kernel), gm1 20 (by decide +kernel), gm2 123 (by decide +kernel)⟩, by decide, by decide, by decide⟩
theorem kJ1_9 : gWs RJ1 9 yJ0_checkIndex_df160 cJ0_checkIndex_df160 2 none 2 := ⟨⟨gm2 124 (by decide +kernel), gm2 125 (by decide +kernel), gm1 19 (by decide +kernel), gm2 126 (by decide +kernel)⟩, by decide, by decide, by decide⟩
theorem kJ0_1059 : gWs RJ0 1059 yJ3_checkIndex_8e157 cJ3_checkIndex_8e157 3 (some .int) 3 := ⟨⟨gm2 129 (by decide +kernel), gm2 130 (by decide +kernel), gm1 21 (by decide +kernel), gm2 131 (by decide +kernel)⟩, by decide, by decide, by decide⟩
theorem wJ0_38 : Cond.fieldLink RJ0 38 "java/lang/String" "COMPACT_STRINGS" "Z" ∈ lw_tbl := gm2 107 (by decide +kernel)
theorem wJ0_1053 : Cond.fieldLink RJ0 1053 "jdk/internal/util/Preconditions" "SIOOBE_FORMATTER" "Ljava/util/function/BiFunction;" ∈ lw_tbl := gm2 127 (by decide +kernel)
theorem wJ0_9 : Cond.fieldLink RJ0 9 "java/lang/String" "value" "[B" ∈ lw_tbl := gm8 97 (by decide +kernel)
theorem wJ0_15 : Cond.fieldLink RJ0 15 "java/lang/String" "coder" "B" ∈ lw_tbl := gm8 98 (by decide +kernel)
theorem wJx_7 : Cond.fieldLink RJx29ce0 7 "java/lang/Enum" "ordinal" "I" ∈ lw_tbl := gm8 99 (by decide +kernel)
theorem pJ0 : plainName RJ0 = true := by decide +kernel
theorem pJ1 : plainName RJ1 = true := by decide +kernel
theorem pJ3 : plainName RJ3 = true := by decide +kernel
theorem pJx : plainName RJx29ce0 = true := by decide +kernel
set_option maxRecDepth 100000 in
set_option maxHeartbeats 4000000 in
theorem mJ0_coder {X : gX} {h : gH} {z a : Nat} {K : gKo} {T : List Nat} (hK : gCo X K) (hs : gStr X a T) : gM X yJ0_coder_7d493 cJ0_coder_7d493 1 (some .byte) (1, 0, 0) [.ref a] h z (pR h z 0) gNoX := by
  refine gM.of pJ0 (Nat.le_of_ble_eq_true rfl) ?_
  intro F hE
  refine g_gets hK.2.2.2.2.2.1 wJ0_38 dJ0_coder_7d493_0 ?_
  refine g_if_eq 13 dJ0_coder_7d493_3 (by decide) (fun q => absurd q (by decide)) (fun _ => ?_)
  refine g_aload_n dJ0_coder_7d493_6 rfl ?_
  refine g_getO hs.2.1 wJ0_15 dJ0_coder_7d493_7 ?_
  refine g_goto 14 dJ0_coder_7d493_10 (by decide) ?_
  exact g_iret hE rfl ⟨rfl, rfl, rfl⟩ dJ0_coder_7d493_14
set_option maxRecDepth 100000 in
set_option maxHeartbeats 4000000 in
theorem mJ0_isLatin1 {X : gX} {h : gH} {z a : Nat} {K : gKo} {T : List Nat} (hK : gCo X K) (hs : gStr X a T) : gM X yJ0_isLatin1_aae02 cJ0_isLatin1_aae02 1 (some .boolean) (1, 0, 0) [.ref a] h z (pR h z 1) gNoX := by
  refine gM.of pJ0 (Nat.le_of_ble_eq_true rfl) ?_
  intro F hE
  refine g_gets hK.2.2.2.2.2.1 wJ0_38 dJ0_isLatin1_aae02_0 ?_
  refine g_if_eq 17 dJ0_isLatin1_aae02_3 (by decide) (fun q => absurd q (by decide)) (fun _ => ?_)
  refine g_aload_n dJ0_isLatin1_aae02_6 rfl ?_
  refine g_getO hs.2.1 wJ0_15 dJ0_isLatin1_aae02_7 ?_
  refine g_if_ne 17 dJ0_isLatin1_aae02_10 (by decide) (fun q => absurd rfl q) (fun _ => ?_)
  refine g_iconst 1 dJ0_isLatin1_aae02_13 (by decide) ?_
  refine g_goto 18 dJ0_isLatin1_aae02_14 (by decide) ?_
  exact g_iret hE rfl ⟨rfl, rfl, rfl⟩ dJ0_isLatin1_aae02_18
theorem shr0 {n : Nat} (h : n < 2 ^ 31) : nI n >>> ((0 : Int32) &&& 31) = nI n := by
  rw [show ((0 : Int32) &&& 31) = 0 from by decide]
  exact Int32.toBitVec_inj.mp (by simp)
set_option maxRecDepth 100000 in
set_option maxHeartbeats 4000000 in
theorem mJ0_length {X : gX} {h : gH} {z a : Nat} {K : gKo} {T : List Nat} (hK : gCo X K) (hs : gStr X a T) (hT : T.length < 2 ^ 31) : gM X yJ0_length_8abf5 cJ0_length_8abf5 1 (some .int) (2, 0, 0) [.ref a] h z (pR h z (nI T.length)) gNoX := by
  obtain ⟨v, hv, hb⟩ := hs.2.2
  refine gM.of pJ0 (Nat.le_of_ble_eq_true rfl) ?_
  intro F hE
  refine g_aload_n dJ0_length_8abf5_0 rfl ?_
  refine g_getO hv wJ0_9 dJ0_length_8abf5_1 ?_
  refine g_tlen hb dJ0_length_8abf5_4 ?_
  refine g_aload_n dJ0_length_8abf5_5 rfl ?_
  refine g_callVO0 kJ0_335 (mJ0_coder hK hs) hs.1 rfl rfl (Nat.le_of_ble_eq_true rfl) (by decide) (by decide) (by decide) (by decide) dJ0_length_8abf5_6 ?_
  rintro v1 h2 z1 ⟨rfl, rfl, rfl⟩
  refine g_ishr dJ0_length_8abf5_9 ?_
  exact g_iret hE rfl ⟨by rw [shr0 hT], rfl, rfl⟩ dJ0_length_8abf5_10
set_option maxRecDepth 100000 in
set_option maxHeartbeats 4000000 in
theorem mJ3_checkIndex {X : gX} {h : gH} {z i n : Nat} {v : Value} (hi : i < n) (hn : n < 2 ^ 31) (hv : v.category = 1) : gM X yJ3_checkIndex_8e157 cJ3_checkIndex_8e157 3 (some .int) (0, 0, 0) [.int (nI i), .int (nI n), v] h z (pR h z (nI i)) gNoX := by
  have hl : (lg_sl [.int (nI i), .int (nI n), v]).length ≤ 3 := by cases v <;> first | exact Nat.le_of_ble_eq_true rfl | simp [Value.category] at hv
  have hg : gLv [.int (nI i), .int (nI n), v] 3 = [some (.int (nI i)), some (.int (nI n)), some v] := by cases v <;> first | rfl | simp [Value.category] at hv
  refine gM.of pJ3 hl ?_
  intro F hE
  rw [hg]
  refine g_iload_n dJ3_checkIndex_8e157_0 rfl ?_
  refine g_if_ltN 9 dJ3_checkIndex_8e157_1 (by decide) (by omega) ?_
  refine g_iload_n dJ3_checkIndex_8e157_4 rfl ?_
  refine g_iload_n dJ3_checkIndex_8e157_5 rfl ?_
  refine g_icmp_ltN 16 dJ3_checkIndex_8e157_6 (by decide) (by omega) (by omega) (fun _ => ?_) (fun q => absurd hi q)
  refine g_iload_n dJ3_checkIndex_8e157_16 rfl ?_
  exact g_iret hE rfl ⟨rfl, rfl, rfl⟩ dJ3_checkIndex_8e157_17
set_option maxRecDepth 100000 in
set_option maxHeartbeats 4000000 in
theorem mJ0_checkIndex {X : gX} {h : gH} {z i n : Nat} {K : gKo} (hK : gCo X K) (hi : i < n) (hn : n < 2 ^ 31) : gM X yJ0_checkIndex_df160 cJ0_checkIndex_df160 2 none (1, 0, 0) [.int (nI i), .int (nI n)] h z (fun r h' z' => r = none ∧ h' = h ∧ z' = z) gNoX := by
  obtain ⟨v, hv, hz⟩ := hK.2.2.2.2.2.2
  refine gM.of pJ0 (Nat.le_of_ble_eq_true rfl) ?_
  intro F hE
  refine g_iload_n dJ0_checkIndex_df160_0 rfl ?_
  refine g_iload_n dJ0_checkIndex_df160_1 rfl ?_
  refine g_gets hz wJ0_1053 dJ0_checkIndex_df160_2 ?_
  refine g_callS0 kJ0_1059 (mJ3_checkIndex hi hn hv) rfl rfl (Nat.le_of_ble_eq_true rfl) (by decide) (by decide) (by decide) (by decide) dJ0_checkIndex_df160_5 ?_
  rintro v1 h2 z1 ⟨rfl, rfl, rfl⟩
  refine g_pop dJ0_checkIndex_df160_8 rfl ?_
  exact g_vret hE ⟨rfl, rfl, rfl⟩ dJ0_checkIndex_df160_9
theorem byte_and {b : Nat} (h : b < 128) : nI b &&& nI 255 = nI b ∧ ((nI b).toUInt32 % 65536).toInt32 = nI b := by
  revert b
  decide +kernel
theorem byte_chr {b : Nat} (h : b < 128) : narrow .char (.int (nI b)) = .int (nI b) := by
  revert b
  decide +kernel
set_option maxRecDepth 100000 in
set_option maxHeartbeats 4000000 in
theorem mJ1_charAt {X : gX} {h : gH} {z i v : Nat} {K : gKo} {T : List Nat} (hK : gCo X K) (hb : gTb X .byte v T.length (fun j => .int (nI (T.getD j 0)))) (hi : i < T.length) (hn : T.length < 2 ^ 31) (h8 : ∀ j, T.getD j 0 < 128) : gM X yJ1_charAt_3b067 cJ1_charAt_3b067 2 (some .char) (2, 0, 0) [.ref v, .int (nI i)] h z (pR h z (nI (T.getD i 0))) gNoX := by
  refine gM.of pJ1 (Nat.le_of_ble_eq_true rfl) ?_
  intro F hE
  refine g_iload_n dJ1_charAt_3b067_0 rfl ?_
  refine g_aload_n dJ1_charAt_3b067_1 rfl ?_
  refine g_tlen hb dJ1_charAt_3b067_2 ?_
  refine g_callS0 kJ1_9 (mJ0_checkIndex hK hi hn) rfl rfl (Nat.le_of_ble_eq_true rfl) (by decide) (by decide) (by decide) (by decide) dJ1_charAt_3b067_3 ?_
  rintro v1 h2 z1 ⟨rfl, rfl, rfl⟩
  refine g_aload_n dJ1_charAt_3b067_6 rfl ?_
  refine g_iload_n dJ1_charAt_3b067_7 rfl ?_
  refine g_tbld hb hi (by omega) dJ1_charAt_3b067_8 ?_
  refine g_sipush (nI 255) dJ1_charAt_3b067_9 (by decide) ?_
  refine g_iand dJ1_charAt_3b067_12 ?_
  rw [(byte_and (h8 i)).1]
  refine g_i2c (byte_and (h8 i)).2 dJ1_charAt_3b067_13 ?_
  exact g_iret hE (byte_chr (h8 i)) ⟨rfl, rfl, rfl⟩ dJ1_charAt_3b067_14
set_option maxRecDepth 100000 in
set_option maxHeartbeats 4000000 in
theorem mJ0_charAt {X : gX} {h : gH} {z a : Nat} {K : gKo} {T : List Nat} (hK : gCo X K) (hs : gStr X a T) {i : Nat} (hi : i < T.length) (hn : T.length < 2 ^ 31) (h8 : ∀ j, T.getD j 0 < 128) : gM X yJ0_charAt_5068e cJ0_charAt_5068e 2 (some .char) (3, 0, 0) [.ref a, .int (nI i)] h z (pR h z (nI (T.getD i 0))) gNoX := by
  obtain ⟨v, hv, hb⟩ := hs.2.2
  refine gM.of pJ0 (Nat.le_of_ble_eq_true rfl) ?_
  intro F hE
  refine g_aload_n dJ0_charAt_5068e_0 rfl ?_
  refine g_callVO0 kJ0_492 (mJ0_isLatin1 hK hs) hs.1 rfl rfl (Nat.le_of_ble_eq_true rfl) (by decide) (by decide) (by decide) (by decide) dJ0_charAt_5068e_1 ?_
  rintro v1 h2 z1 ⟨rfl, rfl, rfl⟩
  refine g_if_eq 16 dJ0_charAt_5068e_4 (by decide) (fun q => absurd q (by decide)) (fun _ => ?_)
  refine g_aload_n dJ0_charAt_5068e_7 rfl ?_
  refine g_getO hv wJ0_9 dJ0_charAt_5068e_8 ?_
  refine g_iload_n dJ0_charAt_5068e_11 rfl ?_
  refine g_callS0 kJ0_495 (mJ1_charAt hK hb hi hn h8) rfl rfl (Nat.le_of_ble_eq_true rfl) (by decide) (by decide) (by decide) (by decide) dJ0_charAt_5068e_12 ?_
  rintro v1 h2 z1 ⟨rfl, rfl, rfl⟩
  exact g_iret hE (byte_chr (h8 i)) ⟨rfl, rfl, rfl⟩ dJ0_charAt_5068e_15
set_option maxRecDepth 100000 in
set_option maxHeartbeats 4000000 in
theorem mJx_ordinal {X : gX} {h : gH} {z c : Nat} {K : gKo} (hK : gCo X K) (hc : c < 39) : gMp X yJx29ce0_ordinal_8abf5 cJx29ce0_ordinal_8abf5 1 (some .int) (0, 0, 0) [.ref (K.1 c)] h z (pR h z (nI c)) := by
  refine gMp.of pJx (Nat.le_of_ble_eq_true rfl) ?_
  intro F hE
  refine g_aload_n dJx29ce0_ordinal_8abf5_0 rfl ?_
  refine g_getO (hK.1 c hc).2.2.1 wJx_7 dJx29ce0_ordinal_8abf5_1 ?_
  exact g_iretp hE rfl ⟨rfl, rfl, rfl⟩ dJx29ce0_ordinal_8abf5_4
