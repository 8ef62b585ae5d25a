/-! exceptions: their words, what is thrown, what goes on to the caller, what is caught -/
def tbk (k : Nat) : List Cond := match k with
  | 1 => tables_1_1 | 2 => tables_1_2 | 3 => tables_1_3 | 4 => tables_1_4 | 5 => tables_1_5 | 6 => tables_1_6 | 7 => tables_1_7 | 8 => tables_1_8 | _ => []
theorem gmk {w : Cond} (k i : Nat) (h : (tbk k)[i]? = some w) : w ∈ lw_tbl := by
  unfold tbk at h
  split at h
  · exact gm1 i h
  · exact gm2 i h
  · exact gm3 i h
  · exact gm4 i h
  · exact gm5 i h
  · exact gm6 i h
  · exact gm7 i h
  · exact gm8 i h
  · cases h
theorem gm_ps {L : List Cond} (ps : List (Nat × Nat)) (h : L = ps.filterMap (fun p => (tbk p.1)[p.2]?)) : ∀ w ∈ L, w ∈ lw_tbl := by
  intro w hw
  rw [h] at hw
  obtain ⟨p, -, hp⟩ := List.mem_filterMap.mp hw
  exact gmk p.1 p.2 hp
abbrev exN : List String := ["java/lang/RuntimeException", "java/lang/Exception"]
def exB (E : String) : List Cond := [.castable E E, .declares ⟨"java/lang/RuntimeException", "<init>", "(Ljava/lang/String;)V"⟩, .declares ⟨"java/lang/Exception", "<init>", "(Ljava/lang/String;)V"⟩, .declares ⟨"java/lang/Throwable", "<init>", "(Ljava/lang/String;)V"⟩]
abbrev ISE : String := "java/lang/IllegalStateException"
abbrev IAE : String := "java/lang/IllegalArgumentException"
abbrev IOE : String := "java/lang/IndexOutOfBoundsException"
theorem wthISE : ∀ w ∈ (vx_atS RX10 57 ISE exN).filter goodWord, w ∈ lw_tbl := gm_ps [(1, 14), (4, 55), (4, 64), (4, 68), (4, 71), (4, 73), (4, 56), (4, 57), (1, 33), (1, 34), (4, 58), (4, 63), (4, 69), (4, 89), (4, 45), (4, 90), (4, 47), (4, 91), (4, 49), (4, 59), (4, 61), (4, 51), (4, 85), (4, 86), (4, 88), (4, 51), (4, 177), (4, 178), (4, 179), (4, 79), (4, 79), (4, 80), (4, 81), (4, 82), (4, 82), (4, 83), (4, 84), (4, 85), (4, 176), (4, 167), (4, 169), (4, 67), (4, 170), (4, 171), (4, 172), (4, 173), (4, 54), (4, 53), (4, 174)] (by decide +kernel)
theorem wcaISE : Cond.castable ISE ISE ∈ lw_tbl := gm4 168 (by decide +kernel)
theorem wclISE : Cond.classLink RX10 53 ISE ∈ lw_tbl := gm4 166 (by decide +kernel)
theorem wlcISE : Cond.classLink RL 13 ISE ∈ lw_tbl := gm4 161 (by decide +kernel)
theorem winISE : Cond.initialized ISE ∈ lw_tbl := gm1 17 (by decide +kernel)
theorem wbcISE : ∀ w ∈ (vx_atS RX10 57 ISE exN).filter (fun w => !goodWord w), w ∈ exB ISE := by decide +kernel
theorem weBISE : ∀ w ∈ exB ISE, w ∈ lw_tbl := gm_ps [(4, 168), (4, 37), (4, 39), (4, 41)] (by decide +kernel)
theorem wotISE : ∀ w ∈ Cond.classLink RX10 53 ISE :: Cond.initialized ISE :: vx_atS RX10 57 ISE exN, vx_ot w = true := by decide +kernel
theorem wftISE : Bundle.fit ISE = true := by decide +kernel
theorem wthIAE : ∀ w ∈ (vx_atS RX10 68 IAE exN).filter goodWord, w ∈ lw_tbl := gm_ps [(1, 14), (4, 55), (4, 64), (4, 68), (4, 71), (4, 73), (4, 56), (4, 57), (1, 33), (1, 34), (4, 58), (4, 63), (4, 69), (4, 89), (4, 45), (4, 90), (4, 47), (4, 91), (4, 49), (4, 59), (4, 61), (4, 51), (4, 85), (4, 86), (4, 88), (4, 51), (4, 205), (4, 206), (4, 207), (4, 79), (4, 79), (4, 80), (4, 81), (4, 82), (4, 82), (4, 83), (4, 84), (4, 85), (4, 204), (4, 195), (4, 197), (4, 66), (4, 198), (4, 199), (4, 200), (4, 201), (4, 54), (4, 53), (4, 202)] (by decide +kernel)
theorem wcaIAE : Cond.castable IAE IAE ∈ lw_tbl := gm4 196 (by decide +kernel)
theorem wclIAE : Cond.classLink RX10 64 IAE ∈ lw_tbl := gm4 194 (by decide +kernel)
theorem wlcIAE : Cond.classLink RL 19 IAE ∈ lw_tbl := gm4 189 (by decide +kernel)
theorem winIAE : Cond.initialized IAE ∈ lw_tbl := gm1 18 (by decide +kernel)
theorem wbcIAE : ∀ w ∈ (vx_atS RX10 68 IAE exN).filter (fun w => !goodWord w), w ∈ exB IAE := by decide +kernel
theorem weBIAE : ∀ w ∈ exB IAE, w ∈ lw_tbl := gm_ps [(4, 196), (4, 37), (4, 39), (4, 41)] (by decide +kernel)
theorem wotIAE : ∀ w ∈ Cond.classLink RX10 64 IAE :: Cond.initialized IAE :: vx_atS RX10 68 IAE exN, vx_ot w = true := by decide +kernel
theorem wftIAE : Bundle.fit IAE = true := by decide +kernel
theorem wthIOE : ∀ w ∈ (vx_atS RX10 276 IOE exN).filter goodWord, w ∈ lw_tbl := gm_ps [(1, 14), (4, 55), (4, 64), (4, 68), (4, 71), (4, 73), (4, 56), (4, 57), (1, 33), (1, 34), (4, 58), (4, 63), (4, 69), (4, 89), (4, 45), (4, 90), (4, 47), (4, 91), (4, 49), (4, 59), (4, 61), (4, 51), (4, 85), (4, 86), (4, 88), (4, 51), (4, 76), (4, 77), (4, 78), (4, 79), (4, 79), (4, 80), (4, 81), (4, 82), (4, 82), (4, 83), (4, 84), (4, 85), (4, 75), (4, 34), (4, 42), (4, 43), (4, 44), (4, 46), (4, 48), (4, 50), (4, 54), (4, 53), (4, 52)] (by decide +kernel)
theorem wcaIOE : Cond.castable IOE IOE ∈ lw_tbl := gm4 35 (by decide +kernel)
theorem wclIOE : Cond.classLink RX10 272 IOE ∈ lw_tbl := gm4 33 (by decide +kernel)
theorem wlcIOE : Cond.classLink RL 24 IOE ∈ lw_tbl := gm4 213 (by decide +kernel)
theorem winIOE : Cond.initialized IOE ∈ lw_tbl := gm1 25 (by decide +kernel)
theorem wbcIOE : ∀ w ∈ (vx_atS RX10 276 IOE exN).filter (fun w => !goodWord w), w ∈ exB IOE := by decide +kernel
theorem weBIOE : ∀ w ∈ exB IOE, w ∈ lw_tbl := gm_ps [(4, 35), (4, 37), (4, 39), (4, 41)] (by decide +kernel)
theorem wotIOE : ∀ w ∈ Cond.classLink RX10 272 IOE :: Cond.initialized IOE :: vx_atS RX10 276 IOE exN, vx_ot w = true := by decide +kernel
theorem wftIOE : Bundle.fit IOE = true := by decide +kernel
theorem wftN : ∀ n ∈ exN, Bundle.fit n = true := by decide +kernel
