/-! what holds at the start: the tokens, their texts, the rows, out of the statement's own premise -/
/-- the premise's parts in a row: given_1's two stand first -/
def nwL : List Cond := flatC (Jvm.Cond.and given_1 narrow_1)
theorem nwB {args : Array Value} {s : State} (h : (Jvm.Cond.and given_1 narrow_1).before args s = true) {w : Cond} (i : Nat) (hi : nwL[i + 2]? = some w) : w.before args s = true := flat_of_before _ h w (List.mem_of_getElem? hi)
def nwE : List Nat := [2, 5, 57, 60, 126, 63, 66, 69, 72, 75, 147, 210, 213, 216, 219, 222, 225, 120, 159, 150, 177, 180, 228, 231, 129, 132, 153, 156, 183, 135, 144, 123, 138, 141, 162, 165, 168, 171, 174]
def nwO : List Nat := [3, 6, 58, 61, 127, 64, 67, 70, 73, 76, 148, 211, 214, 217, 220, 223, 226, 121, 160, 151, 178, 181, 229, 232, 130, 133, 154, 157, 184, 136, 145, 124, 139, 142, 163, 166, 169, 172, 175]
def nwX : List Nat := [4, 7, 59, 62, 128, 65, 68, 71, 74, 77, 149, 212, 215, 218, 221, 224, 227, 122, 161, 152, 179, 182, 230, 233, 131, 134, 155, 158, 185, 137, 146, 125, 140, 143, 164, 167, 170, 173, 176]
def nwI : List Nat := [145, 145, 145, 145, 145, 155, 158, 161, 164, 167, 170, 173, 176, 179, 182, 185, 188, 191, 194, 197, 200, 203, 206, 209, 212, 215, 218, 221, 224, 227, 230, 233, 236, 239, 242, 245, 248, 251, 254]
def nwN : List String := [RX7, RX7, RX7, RX7, RX7, RX12, RX12, RX12, RX12, RX12, RX12, RX7, RX7, RX7, RX7, RX7, RX7, RX12, RX12, RX12, RX12, RX12, RX7, RX7, RX7, RX7, RX7, RX7, RX7, RX7, RX7, RX7, RX7, RX7, RX7, RX7, RX7, RX7, RX7]
def nwK : List Nat := [145, 145, 145, 145, 145, 427, 428, 430, 432, 434, 436, 173, 176, 179, 182, 185, 188, 446, 448, 450, 452, 454, 206, 209, 212, 215, 218, 221, 224, 227, 230, 233, 236, 239, 242, 245, 248, 251, 254]
def nwS : List Nat := [565, 565, 565, 565, 565, 733, 744, 753, 762, 771, 782, 900, 908, 919, 931, 941, 951, 846, 853, 863, 871, 879, 961, 969, 624, 629, 669, 674, 728, 634, 649, 619, 639, 644, 688, 693, 698, 703, 709]
def nwT : List Nat := [0, 0, 0, 0, 0, 743, 752, 761, 770, 781, 790, 0, 0, 0, 0, 0, 0, 852, 862, 870, 878, 885, 0, 0, 0, 0, 0, 0, 0, 0, 0, 0, 0, 0, 0, 0, 0, 0, 0]
def nwW : List Nat := [427, 428, 430, 432, 434, 436, 438, 439, 440, 441, 443, 444, 446, 448, 450, 452, 454, 456, 457]
def nwQ : List Nat := [0, 0, 0, 0, 0, 0, 907, 918, 930, 940, 950, 960, 0, 0, 0, 0, 0, 968, 976]
def tmC (c : Nat) : Term := .static RX7 (tkN.getD c "") "LParrotSquawks$Token;"
def tmS (c : Nat) : Term := .string (nwN.getD c "") (nwK.getD c 0)
def tmV (c : Nat) : Term := .field (tmS c) "java/lang/String" "value" "[B"
def tmAll : Term := .static RX7 "ALL" "[LParrotSquawks$Token;"
def tmSw : Term := .static "ParrotSquawks$1" "$SwitchMap$ParrotSquawks$Token" "[I"
def tmWd : Term := .static RX12 "WORDS" "[Ljava/lang/String;"
set_option maxRecDepth 100000 in
set_option maxHeartbeats 4000000 in
theorem nwE_ok : ∀ c : Fin 39, nwL[nwE.getD c.val 0 + 2]? = some (.exactly (tmC c.val) RX7) := by decide +kernel
set_option maxRecDepth 100000 in
set_option maxHeartbeats 4000000 in
theorem nwO_ok : ∀ c : Fin 39, nwL[nwO.getD c.val 0 + 2]? = some (.eq (.field (tmC c.val) "java/lang/Enum" "ordinal" "I") (.int (nI c.val))) := by decide +kernel
set_option maxRecDepth 100000 in
set_option maxHeartbeats 4000000 in
theorem nwX_ok : ∀ c : Fin 39, nwL[nwX.getD c.val 0 + 2]? = some (.eq (.field (tmC c.val) RX7 "text" "Ljava/lang/String;") (.string RX7 (nwI.getD c.val 0))) := by decide +kernel
set_option maxRecDepth 100000 in
set_option maxHeartbeats 4000000 in
theorem nwT_ok : ∀ c : Fin 39, tmS c.val = .string RX7 (nwI.getD c.val 0) ∨ nwL[nwT.getD c.val 0 + 2]? = some (.eq (.string RX7 (nwI.getD c.val 0)) (tmS c.val)) := by decide +kernel
set_option maxRecDepth 100000 in
set_option maxHeartbeats 4000000 in
theorem nwS_ok : ∀ c : Fin 39, nwL[nwS.getD c.val 0 + 2]? = some (.exactly (tmS c.val) "java/lang/String") := by decide +kernel
set_option maxRecDepth 100000 in
set_option maxHeartbeats 4000000 in
theorem nwS1_ok : ∀ c : Fin 39, nwL[nwS.getD c.val 0 + 1 + 2]? = some (.eq (.field (tmS c.val) "java/lang/String" "coder" "B") (.int 0)) := by decide +kernel
set_option maxRecDepth 100000 in
set_option maxHeartbeats 4000000 in
theorem nwS2_ok : ∀ c : Fin 39, nwL[nwS.getD c.val 0 + 2 + 2]? = some (.arrayOf (tmV c.val) .byte) := by decide +kernel
set_option maxRecDepth 100000 in
set_option maxHeartbeats 4000000 in
theorem nwS3_ok : ∀ c : Fin 39, nwL[nwS.getD c.val 0 + 3 + 2]? = some (.eq (.length (tmV c.val)) (.int (Int32.ofNat (tkT.getD c.val []).length))) := by decide +kernel
set_option maxRecDepth 100000 in
set_option maxHeartbeats 4000000 in
theorem nwS4_ok : ∀ c : Fin 39, ∀ j : Fin (tkT.getD c.val []).length, nwL[nwS.getD c.val 0 + 4 + j.val + 2]? = some (.eq (.elem (tmV c.val) (.int (Int32.ofNat j.val))) (.int (nI ((tkT.getD c.val []).getD j.val 0)))) := by decide +kernel
set_option maxRecDepth 100000 in
set_option maxHeartbeats 4000000 in
theorem nwA_ok : ∀ j : Fin 39, nwL[13 + j.val + 2]? = some (.eq (.elem tmAll (.int (Int32.ofNat j.val))) (tmC j.val)) := by decide +kernel
set_option maxRecDepth 100000 in
set_option maxHeartbeats 4000000 in
theorem nwA1_ok : nwL[10 + 2]? = some (.arrayOf tmAll (.object RX7)) ∧ nwL[11 + 2]? = some (.eq (.length tmAll) (.int (Int32.ofNat 39))) := by decide +kernel
set_option maxRecDepth 100000 in
set_option maxHeartbeats 4000000 in
theorem nwM_ok : ∀ j : Fin 39, nwL[81 + j.val + 2]? = some (.eq (.elem tmSw (.int (Int32.ofNat j.val))) (.int (nI (swL.getD j.val 0)))) := by decide +kernel
set_option maxRecDepth 100000 in
set_option maxHeartbeats 4000000 in
theorem nwM1_ok : nwL[79 + 2]? = some (.arrayOf tmSw .int) ∧ nwL[80 + 2]? = some (.eq (.length tmSw) (.int (Int32.ofNat 39))) := by decide +kernel
set_option maxRecDepth 100000 in
set_option maxHeartbeats 4000000 in
theorem nwW_ok : ∀ j : Fin 19, nwL[191 + j.val + 2]? = some (.eq (.elem tmWd (.int (Int32.ofNat j.val))) (.string RX12 (nwW.getD j.val 0))) := by decide +kernel
set_option maxRecDepth 100000 in
set_option maxHeartbeats 4000000 in
theorem nwW1_ok : nwL[189 + 2]? = some (.arrayOf tmWd (.object "java/lang/String")) ∧ nwL[190 + 2]? = some (.eq (.length tmWd) (.int (Int32.ofNat 19))) := by decide +kernel
set_option maxRecDepth 100000 in
set_option maxHeartbeats 4000000 in
theorem nwQ_ok : ∀ j : Fin 19, tmS (j.val + 5) = .string RX12 (nwW.getD j.val 0) ∨ nwL[nwQ.getD j.val 0 + 2]? = some (.eq (.string RX12 (nwW.getD j.val 0)) (tmS (j.val + 5))) := by decide +kernel
set_option maxRecDepth 100000 in
set_option maxHeartbeats 4000000 in
theorem nwZ_ok : nwL[52 + 2]? = some (.eq (.static "java/lang/String" "COMPACT_STRINGS" "Z") (.int 1)) ∧ nwL[53 + 2]? = some (.isRef (.static "jdk/internal/util/Preconditions" "SIOOBE_FORMATTER" "Ljava/util/function/BiFunction;")) := by decide +kernel
set_option maxRecDepth 100000 in
set_option maxHeartbeats 4000000 in
theorem nwH_ok : nwL[186 + 2]? = some (.isRef (.static Bundle.tN "UNASSIGNED_STACK" Bundle.steD)) ∧ nwL[187 + 2]? = some (.isRef (.static Bundle.tN "SUPPRESSED_SENTINEL" Bundle.listD)) := by decide +kernel
theorem nwl : ∀ c : Nat, c < 39 → Cond.laysStatic RX7 (tkN.getD c "") "LParrotSquawks$Token;" ∈ lw_tbl
  | 0, _ => gm1 66 (by decide +kernel)
  | 1, _ => gm2 79 (by decide +kernel)
  | 2, _ => gm2 152 (by decide +kernel)
  | 3, _ => gm2 158 (by decide +kernel)
  | 4, _ => gm3 52 (by decide +kernel)
  | 5, _ => gm2 173 (by decide +kernel)
  | 6, _ => gm2 218 (by decide +kernel)
  | 7, _ => gm2 220 (by decide +kernel)
  | 8, _ => gm2 222 (by decide +kernel)
  | 9, _ => gm2 224 (by decide +kernel)
  | 10, _ => gm3 66 (by decide +kernel)
  | 11, _ => gm8 101 (by decide +kernel)
  | 12, _ => gm8 102 (by decide +kernel)
  | 13, _ => gm8 103 (by decide +kernel)
  | 14, _ => gm8 104 (by decide +kernel)
  | 15, _ => gm8 105 (by decide +kernel)
  | 16, _ => gm8 106 (by decide +kernel)
  | 17, _ => gm3 40 (by decide +kernel)
  | 18, _ => gm3 86 (by decide +kernel)
  | 19, _ => gm3 80 (by decide +kernel)
  | 20, _ => gm3 105 (by decide +kernel)
  | 21, _ => gm3 107 (by decide +kernel)
  | 22, _ => gm8 107 (by decide +kernel)
  | 23, _ => gm8 108 (by decide +kernel)
  | 24, _ => gm3 54 (by decide +kernel)
  | 25, _ => gm3 56 (by decide +kernel)
  | 26, _ => gm3 82 (by decide +kernel)
  | 27, _ => gm3 84 (by decide +kernel)
  | 28, _ => gm3 109 (by decide +kernel)
  | 29, _ => gm3 58 (by decide +kernel)
  | 30, _ => gm3 64 (by decide +kernel)
  | 31, _ => gm3 42 (by decide +kernel)
  | 32, _ => gm3 60 (by decide +kernel)
  | 33, _ => gm3 62 (by decide +kernel)
  | 34, _ => gm3 95 (by decide +kernel)
  | 35, _ => gm3 97 (by decide +kernel)
  | 36, _ => gm3 99 (by decide +kernel)
  | 37, _ => gm3 101 (by decide +kernel)
  | 38, _ => gm3 103 (by decide +kernel)
  | n + 39, h => absurd h (by omega)
theorem tkT_lt : ∀ c, c < 39 → (tkT.getD c []).length < 2 ^ 31 := by decide +kernel
def adr (v : Option Value) : Nat := match v with
  | some (.ref a) => a
  | _ => 0
theorem eqR {args : Array Value} {s : State} {t u : Term} {a : Nat} (h : (Cond.eq t u).before args s = true) (hu : u.eval args s none [] s = some (.ref a)) : t.eval args s none [] s = some (.ref a) := by
  cases hv : t.eval args s none [] s with
  | none => simp [Cond.before, Cond.holds, Cond.value, hv] at h
  | some w =>
    simp only [Cond.before, Cond.holds, Cond.value, hv, hu] at h
    cases w <;> simp_all
theorem exR {args : Array Value} {s : State} {t : Term} {C : String} (h : (Cond.exactly t C).before args s = true) : t.eval args s none [] s = some (.ref (adr (t.eval args s none [] s))) := by
  obtain ⟨a, c, cA, kA, q1, q2, q3, q4, q5, q6, -⟩ := Cond.exactly_spec (args := args) (first := s) (o := none) (s := s) (idx := []) (t := t) (cls := C) h
  rw [q1]
  rfl
