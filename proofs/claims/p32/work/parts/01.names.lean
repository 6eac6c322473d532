def q_tbl : List Cond := lw_tbl.filter goodWord
theorem q_mem {w : Cond} (h : w ∈ lw_tbl) (hg : goodWord w = true) : w ∈ q_tbl := List.mem_filter.mpr ⟨h, hg⟩
theorem q_tbl_in {w : Cond} (h : w ∈ q_tbl) : w ∈ lw_tbl := (List.mem_filter.mp h).1
theorem q_tbl_good {w : Cond} (h : w ∈ q_tbl) : goodWord w = true := (List.mem_filter.mp h).2
theorem tm_1 {w : Cond} (i : Nat) (h : tables_1_1[i]? = some w) (hg : goodWord w = true) : w ∈ q_tbl := by
  have h : w ∈ tables_1_1 := List.mem_of_getElem? h
  exact q_mem (List.mem_append_right _ (show w ∈ tables_1 from List.mem_append_left _ h)) hg
theorem tm_2 {w : Cond} (i : Nat) (h : tables_1_2[i]? = some w) (hg : goodWord w = true) : w ∈ q_tbl := by
  have h : w ∈ tables_1_2 := List.mem_of_getElem? h
  exact q_mem (List.mem_append_right _ (show w ∈ tables_1 from List.mem_append_right _ (List.mem_append_left _ h))) hg
theorem tm_3 {w : Cond} (i : Nat) (h : tables_1_3[i]? = some w) (hg : goodWord w = true) : w ∈ q_tbl := by
  have h : w ∈ tables_1_3 := List.mem_of_getElem? h
  exact q_mem (List.mem_append_right _ (show w ∈ tables_1 from List.mem_append_right _ (List.mem_append_right _ (List.mem_append_left _ h)))) hg
theorem tm_4 {w : Cond} (i : Nat) (h : tables_1_4[i]? = some w) (hg : goodWord w = true) : w ∈ q_tbl := by
  have h : w ∈ tables_1_4 := List.mem_of_getElem? h
  exact q_mem (List.mem_append_right _ (show w ∈ tables_1 from List.mem_append_right _ (List.mem_append_right _ (List.mem_append_right _ (List.mem_append_left _ h))))) hg
theorem tm_5 {w : Cond} (i : Nat) (h : tables_1_5[i]? = some w) (hg : goodWord w = true) : w ∈ q_tbl := by
  have h : w ∈ tables_1_5 := List.mem_of_getElem? h
  exact q_mem (List.mem_append_right _ (show w ∈ tables_1 from List.mem_append_right _ (List.mem_append_right _ (List.mem_append_right _ (List.mem_append_right _ (List.mem_append_left _ h)))))) hg
theorem tm_6 {w : Cond} (i : Nat) (h : tables_1_6[i]? = some w) (hg : goodWord w = true) : w ∈ q_tbl := by
  have h : w ∈ tables_1_6 := List.mem_of_getElem? h
  exact q_mem (List.mem_append_right _ (show w ∈ tables_1 from List.mem_append_right _ (List.mem_append_right _ (List.mem_append_right _ (List.mem_append_right _ (List.mem_append_right _ (List.mem_append_left _ h))))))) hg
theorem tm_7 {w : Cond} (i : Nat) (h : tables_1_7[i]? = some w) (hg : goodWord w = true) : w ∈ q_tbl := by
  have h : w ∈ tables_1_7 := List.mem_of_getElem? h
  exact q_mem (List.mem_append_right _ (show w ∈ tables_1 from List.mem_append_right _ (List.mem_append_right _ (List.mem_append_right _ (List.mem_append_right _ (List.mem_append_right _ (List.mem_append_right _ (h)))))))) hg
theorem tm_s {w : Cond} (i : Nat) (h : (k2_sels lw_privs)[i]? = some w) (hg : goodWord w = true) : w ∈ q_tbl := q_mem (List.mem_append_left _ (List.mem_of_getElem? h)) hg
def RX0 : String := "WhiteLine$Driver"
def TX0 : u_T := fun k => match k with
  | 0 => ("WhiteLine$Driver", "isLost", "[Z", true)
  | 1 => ("WhiteLine$Driver", "suspects", "I", false)
  | 2 => ("WhiteLine$Driver", "firstMinute", "I", false)
  | _ => ("WhiteLine$Driver", "firstWay", "I", false)
def tyX0 : Nat → FieldType := fun k => match k with
  | 0 => .array .boolean
  | 1 => .int
  | 2 => .int
  | _ => .int
theorem nmX0 : ∀ a, a < 4 → ∀ b, b < 4 → a ≠ b → (TX0 a).2.1 ≠ (TX0 b).2.1 := by decide +kernel
theorem tyX0_ok : ∀ k, k < 4 → parseFieldDescriptor (TX0 k).2.2.1 = some (tyX0 k) := by decide +kernel
abbrev cX0_init : ByteArray := prog_2_method_1_code
def yX0_init : MethodName := ⟨RX0, "<init>", "()V"⟩
abbrev cX0_belief : ByteArray := prog_2_method_2_code
def yX0_belief : MethodName := ⟨RX0, "belief", "(LWhiteLine$Road;LWhiteLine$Law;IZ)I"⟩
abbrev cX0_findLost : ByteArray := prog_2_method_3_code
def yX0_findLost : MethodName := ⟨RX0, "findLost", "(LWhiteLine$Road;LWhiteLine$Law;IZ)I"⟩
abbrev cX0_lostIn : ByteArray := prog_2_method_4_code
def yX0_lostIn : MethodName := ⟨RX0, "lostIn", "(II)I"⟩
abbrev cX0_suspect : ByteArray := prog_2_method_5_code
def yX0_suspect : MethodName := ⟨RX0, "suspect", "(LWhiteLine$Road;)V"⟩
abbrev cX0_suspectOneWay : ByteArray := prog_2_method_6_code
def yX0_suspectOneWay : MethodName := ⟨RX0, "suspectOneWay", "(LWhiteLine$Road;I)V"⟩
abbrev cX0_note : ByteArray := prog_2_method_7_code
def yX0_note : MethodName := ⟨RX0, "note", "(III)V"⟩
abbrev cX0_isHitByCar : ByteArray := prog_2_method_8_code
def yX0_isHitByCar : MethodName := ⟨RX0, "isHitByCar", "(LWhiteLine$Road;I)Z"⟩
abbrev cX0_mustBeSpared : ByteArray := prog_2_method_9_code
def yX0_mustBeSpared : MethodName := ⟨RX0, "mustBeSpared", "(LWhiteLine$Road;I)Z"⟩
abbrev cX0_hitsFrom : ByteArray := prog_2_method_10_code
def yX0_hitsFrom : MethodName := ⟨RX0, "hitsFrom", "(LWhiteLine$Road;II)I"⟩
abbrev cX0_freeFrom : ByteArray := prog_2_method_11_code
def yX0_freeFrom : MethodName := ⟨RX0, "freeFrom", "(LWhiteLine$Road;II)I"⟩
abbrev cX0_nextHit : ByteArray := prog_2_method_12_code
def yX0_nextHit : MethodName := ⟨RX0, "nextHit", "(LWhiteLine$Road;III)I"⟩
def RX1 : String := "WhiteLine$Fit"
def TX1 : u_T := fun k => match k with
  | 0 => ("WhiteLine$Fit", "offHere", "[I", true)
  | 1 => ("WhiteLine$Fit", "offBehind", "[I", true)
  | 2 => ("WhiteLine$Fit", "bestAt", "[I", true)
  | 3 => ("WhiteLine$Fit", "pinsBehind", "[I", true)
  | _ => ("WhiteLine$Fit", "chosen", "[I", true)
def tyX1 : Nat → FieldType := fun k => match k with
  | 0 => .array .int
  | 1 => .array .int
  | 2 => .array .int
  | 3 => .array .int
  | _ => .array .int
theorem nmX1 : ∀ a, a < 5 → ∀ b, b < 5 → a ≠ b → (TX1 a).2.1 ≠ (TX1 b).2.1 := by decide +kernel
theorem tyX1_ok : ∀ k, k < 5 → parseFieldDescriptor (TX1 k).2.2.1 = some (tyX1 k) := by decide +kernel
abbrev cX1_init : ByteArray := prog_3_method_1_code
def yX1_init : MethodName := ⟨RX1, "<init>", "()V"⟩
abbrev cX1_makeSmooth : ByteArray := prog_3_method_2_code
def yX1_makeSmooth : MethodName := ⟨RX1, "makeSmooth", "(LWhiteLine$Road;I)I"⟩
abbrev cX1_nearest : ByteArray := prog_3_method_3_code
def yX1_nearest : MethodName := ⟨RX1, "nearest", "(III)I"⟩
abbrev cX1_lowestBest : ByteArray := prog_3_method_4_code
def yX1_lowestBest : MethodName := ⟨RX1, "lowestBest", "()I"⟩
abbrev cX1_greatestApart : ByteArray := prog_3_method_5_code
def yX1_greatestApart : MethodName := ⟨RX1, "greatestApart", "(LWhiteLine$Road;I)I"⟩
abbrev cX1_fitsApart : ByteArray := prog_3_method_6_code
def yX1_fitsApart : MethodName := ⟨RX1, "fitsApart", "(LWhiteLine$Road;II)Z"⟩
abbrev cX1_offByApart : ByteArray := prog_3_method_7_code
def yX1_offByApart : MethodName := ⟨RX1, "offByApart", "(LWhiteLine$Road;I)I"⟩
abbrev cX1_pin : ByteArray := prog_3_method_8_code
def yX1_pin : MethodName := ⟨RX1, "pin", "(LWhiteLine$Road;I)I"⟩
abbrev cX1_offByPins : ByteArray := prog_3_method_9_code
def yX1_offByPins : MethodName := ⟨RX1, "offByPins", "(LWhiteLine$Road;I)I"⟩
abbrev cX1_fitsBetween : ByteArray := prog_3_method_10_code
def yX1_fitsBetween : MethodName := ⟨RX1, "fitsBetween", "(LWhiteLine$Road;III)Z"⟩
abbrev cX1_offBetween : ByteArray := prog_3_method_11_code
def yX1_offBetween : MethodName := ⟨RX1, "offBetween", "(LWhiteLine$Road;II)I"⟩
abbrev cX1_offAt : ByteArray := prog_3_method_12_code
def yX1_offAt : MethodName := ⟨RX1, "offAt", "(LWhiteLine$Road;III)I"⟩
def RX2 : String := "WhiteLine$Lane"
def TX2 : u_T := fun k => match k with
  | 0 => ("WhiteLine$Lane", "cars", "I", false)
  | 1 => ("WhiteLine$Lane", "came", "[I", true)
  | 2 => ("WhiteLine$Lane", "side", "[I", true)
  | _ => ("WhiteLine$Lane", "freeAt", "[I", true)
def tyX2 : Nat → FieldType := fun k => match k with
  | 0 => .int
  | 1 => .array .int
  | 2 => .array .int
  | _ => .array .int
theorem nmX2 : ∀ a, a < 4 → ∀ b, b < 4 → a ≠ b → (TX2 a).2.1 ≠ (TX2 b).2.1 := by decide +kernel
theorem tyX2_ok : ∀ k, k < 4 → parseFieldDescriptor (TX2 k).2.2.1 = some (tyX2 k) := by decide +kernel
abbrev cX2_init : ByteArray := prog_4_method_1_code
def yX2_init : MethodName := ⟨RX2, "<init>", "()V"⟩
abbrev cX2_take : ByteArray := prog_4_method_2_code
def yX2_take : MethodName := ⟨RX2, "take", "([II)Z"⟩
abbrev cX2_bestGreen : ByteArray := prog_4_method_3_code
def yX2_bestGreen : MethodName := ⟨RX2, "bestGreen", "(I)I"⟩
abbrev cX2_waits : ByteArray := prog_4_method_4_code
def yX2_waits : MethodName := ⟨RX2, "waits", "(II)I"⟩
abbrev cX2_nextGreen : ByteArray := prog_4_method_5_code
def yX2_nextGreen : MethodName := ⟨RX2, "nextGreen", "(IIII)I"⟩
def RX3 : String := "WhiteLine$Law"
def TX3 : u_T := fun k => match k with
  | 0 => ("WhiteLine$Law", "clauses", "I", false)
  | 1 => ("WhiteLine$Law", "steps", "I", false)
  | 2 => ("WhiteLine$Law", "asksForMinute", "Z", false)
  | 3 => ("WhiteLine$Law", "signs", "[I", true)
  | 4 => ("WhiteLine$Law", "values", "[I", true)
  | 5 => ("WhiteLine$Law", "letters", "[I", true)
  | 6 => ("WhiteLine$Law", "worthAt", "[I", true)
  | 7 => ("WhiteLine$Law", "holdsAt", "[I", true)
  | 8 => ("WhiteLine$Law", "stack", "[I", true)
  | 9 => ("WhiteLine$Law", "top", "I", false)
  | 10 => ("WhiteLine$Law", "isRefused", "Z", false)
  | 11 => ("WhiteLine$Law", "road", "LWhiteLine$Road;", false)
  | 12 => ("WhiteLine$Law", "dot", "I", false)
  | 13 => ("WhiteLine$Law", "minute", "I", false)
  | 14 => ("WhiteLine$Law", "party", "I", false)
  | _ => ("WhiteLine$Law", "rain", "I", false)
def tyX3 : Nat → FieldType := fun k => match k with
  | 0 => .int
  | 1 => .int
  | 2 => .boolean
  | 3 => .array .int
  | 4 => .array .int
  | 5 => .array .int
  | 6 => .array .int
  | 7 => .array .int
  | 8 => .array .int
  | 9 => .int
  | 10 => .boolean
  | 11 => .object "WhiteLine$Road"
  | 12 => .int
  | 13 => .int
  | 14 => .int
  | _ => .int
theorem nmX3 : ∀ a, a < 16 → ∀ b, b < 16 → a ≠ b → (TX3 a).2.1 ≠ (TX3 b).2.1 := by decide +kernel
theorem tyX3_ok : ∀ k, k < 16 → parseFieldDescriptor (TX3 k).2.2.1 = some (tyX3 k) := by decide +kernel
abbrev cX3_init : ByteArray := prog_5_method_1_code
def yX3_init : MethodName := ⟨RX3, "<init>", "()V"⟩
abbrev cX3_clear : ByteArray := prog_5_method_2_code
def yX3_clear : MethodName := ⟨RX3, "clear", "()V"⟩
abbrev cX3_beginClause : ByteArray := prog_5_method_3_code
def yX3_beginClause : MethodName := ⟨RX3, "beginClause", "(I)V"⟩
abbrev cX3_beginCondition : ByteArray := prog_5_method_4_code
def yX3_beginCondition : MethodName := ⟨RX3, "beginCondition", "()V"⟩
abbrev cX3_add : ByteArray := prog_5_method_5_code
def yX3_add : MethodName := ⟨RX3, "add", "(II)I"⟩
abbrev cX3_leadHere : ByteArray := prog_5_method_6_code
def yX3_leadHere : MethodName := ⟨RX3, "leadHere", "(I)V"⟩
abbrev cX3_ask : ByteArray := prog_5_method_7_code
def yX3_ask : MethodName := ⟨RX3, "ask", "(ILWhiteLine$Road;IIII)I"⟩
abbrev cX3_highest : ByteArray := prog_5_method_8_code
def yX3_highest : MethodName := ⟨RX3, "highest", "(I)I"⟩
abbrev cX3_run : ByteArray := prog_5_method_9_code
def yX3_run : MethodName := ⟨RX3, "run", "(I)I"⟩
abbrev cX3_take : ByteArray := prog_5_method_10_code
def yX3_take : MethodName := ⟨RX3, "take", "(I)I"⟩
abbrev cX3_skipOrGoOn : ByteArray := prog_5_method_11_code
def yX3_skipOrGoOn : MethodName := ⟨RX3, "skipOrGoOn", "(I)I"⟩
abbrev cX3_reckon : ByteArray := prog_5_method_12_code
def yX3_reckon : MethodName := ⟨RX3, "reckon", "(III)I"⟩
abbrev cX3_valueOf : ByteArray := prog_5_method_13_code
def yX3_valueOf : MethodName := ⟨RX3, "valueOf", "(I)I"⟩
abbrev cX3_push : ByteArray := prog_5_method_14_code
def yX3_push : MethodName := ⟨RX3, "push", "(I)V"⟩
abbrev cX3_pop : ByteArray := prog_5_method_15_code
def yX3_pop : MethodName := ⟨RX3, "pop", "()I"⟩
def RX4 : String := "WhiteLine$LawReader"
def TX4 : u_T := fun k => match k with
  | 0 => ("WhiteLine$LawReader", "text", "[I", false)
  | 1 => ("WhiteLine$LawReader", "size", "I", false)
  | 2 => ("WhiteLine$LawReader", "at", "I", false)
  | 3 => ("WhiteLine$LawReader", "fault", "I", false)
  | _ => ("WhiteLine$LawReader", "law", "LWhiteLine$Law;", false)
def tyX4 : Nat → FieldType := fun k => match k with
  | 0 => .array .int
  | 1 => .int
  | 2 => .int
  | 3 => .int
  | _ => .object "WhiteLine$Law"
theorem nmX4 : ∀ a, a < 5 → ∀ b, b < 5 → a ≠ b → (TX4 a).2.1 ≠ (TX4 b).2.1 := by decide +kernel
theorem tyX4_ok : ∀ k, k < 5 → parseFieldDescriptor (TX4 k).2.2.1 = some (tyX4 k) := by decide +kernel
abbrev cX4_init : ByteArray := prog_6_method_1_code
def yX4_init : MethodName := ⟨RX4, "<init>", "()V"⟩
abbrev cX4_read : ByteArray := prog_6_method_2_code
def yX4_read : MethodName := ⟨RX4, "read", "([II)I"⟩
abbrev cX4_readClause : ByteArray := prog_6_method_3_code
def yX4_readClause : MethodName := ⟨RX4, "readClause", "(I)Z"⟩
abbrev cX4_readParts : ByteArray := prog_6_method_4_code
def yX4_readParts : MethodName := ⟨RX4, "readParts", "(I)Z"⟩
abbrev cX4_readPart : ByteArray := prog_6_method_5_code
def yX4_readPart : MethodName := ⟨RX4, "readPart", "(I)Z"⟩
abbrev cX4_readPiece : ByteArray := prog_6_method_6_code
def yX4_readPiece : MethodName := ⟨RX4, "readPiece", "(I)Z"⟩
abbrev cX4_readSum : ByteArray := prog_6_method_7_code
def yX4_readSum : MethodName := ⟨RX4, "readSum", "(I)Z"⟩
abbrev cX4_readTerm : ByteArray := prog_6_method_8_code
def yX4_readTerm : MethodName := ⟨RX4, "readTerm", "(I)Z"⟩
abbrev cX4_readFactor : ByteArray := prog_6_method_9_code
def yX4_readFactor : MethodName := ⟨RX4, "readFactor", "(I)Z"⟩
abbrev cX4_readNumber : ByteArray := prog_6_method_10_code
def yX4_readNumber : MethodName := ⟨RX4, "readNumber", "()Z"⟩
abbrev cX4_isTimes : ByteArray := prog_6_method_11_code
def yX4_isTimes : MethodName := ⟨RX4, "isTimes", "(I)Z"⟩
abbrev cX4_isValueLetter : ByteArray := prog_6_method_12_code
def yX4_isValueLetter : MethodName := ⟨RX4, "isValueLetter", "(I)Z"⟩
abbrev cX4_mayOpen : ByteArray := prog_6_method_13_code
def yX4_mayOpen : MethodName := ⟨RX4, "mayOpen", "(I)Z"⟩
abbrev cX4_expect : ByteArray := prog_6_method_14_code
def yX4_expect : MethodName := ⟨RX4, "expect", "(I)Z"⟩
abbrev cX4_peek : ByteArray := prog_6_method_15_code
def yX4_peek : MethodName := ⟨RX4, "peek", "()I"⟩
abbrev cX4_fail : ByteArray := prog_6_method_16_code
def yX4_fail : MethodName := ⟨RX4, "fail", "(I)Z"⟩
def RX5 : String := "WhiteLine$Night"
def TX5 : u_T := fun k => match k with
  | _ => ("", "", "", false)
def tyX5 : Nat → FieldType := fun k => match k with
  | _ => .int
theorem nmX5 : ∀ a, a < 0 → ∀ b, b < 0 → a ≠ b → (TX5 a).2.1 ≠ (TX5 b).2.1 := by decide +kernel
theorem tyX5_ok : ∀ k, k < 0 → parseFieldDescriptor (TX5 k).2.2.1 = some (tyX5 k) := by decide +kernel
abbrev cX5_pass : ByteArray := prog_7_method_2_code
def yX5_pass : MethodName := ⟨RX5, "pass", "(LWhiteLine$Road;LWhiteLine$Law;I)I"⟩
abbrev cX5_beginDots : ByteArray := prog_7_method_3_code
def yX5_beginDots : MethodName := ⟨RX5, "beginDots", "(LWhiteLine$Road;LWhiteLine$Law;)V"⟩
abbrev cX5_paintDots : ByteArray := prog_7_method_4_code
def yX5_paintDots : MethodName := ⟨RX5, "paintDots", "(LWhiteLine$Road;LWhiteLine$Law;)I"⟩
abbrev cX5_drive : ByteArray := prog_7_method_5_code
def yX5_drive : MethodName := ⟨RX5, "drive", "(LWhiteLine$Road;)V"⟩
abbrev cX5_letDewFall : ByteArray := prog_7_method_6_code
def yX5_letDewFall : MethodName := ⟨RX5, "letDewFall", "(LWhiteLine$Road;)V"⟩
def RX6 : String := "WhiteLine$Plan"
def TX6 : u_T := fun k => match k with
  | 0 => ("WhiteLine$Plan", "began", "[I", true)
  | 1 => ("WhiteLine$Plan", "dryAt", "[I", true)
  | 2 => ("WhiteLine$Plan", "freeAt", "[I", true)
  | 3 => ("WhiteLine$Plan", "allDry", "I", false)
  | 4 => ("WhiteLine$Plan", "lastEnd", "I", false)
  | 5 => ("WhiteLine$Plan", "lastDot", "I", false)
  | _ => ("WhiteLine$Plan", "highestOfFirst", "I", false)
def tyX6 : Nat → FieldType := fun k => match k with
  | 0 => .array .int
  | 1 => .array .int
  | 2 => .array .int
  | 3 => .int
  | 4 => .int
  | 5 => .int
  | _ => .int
theorem nmX6 : ∀ a, a < 7 → ∀ b, b < 7 → a ≠ b → (TX6 a).2.1 ≠ (TX6 b).2.1 := by decide +kernel
theorem tyX6_ok : ∀ k, k < 7 → parseFieldDescriptor (TX6 k).2.2.1 = some (tyX6 k) := by decide +kernel
abbrev cX6_init : ByteArray := prog_8_method_1_code
def yX6_init : MethodName := ⟨RX6, "<init>", "()V"⟩
abbrev cX6_paint : ByteArray := prog_8_method_2_code
def yX6_paint : MethodName := ⟨RX6, "paint", "(LWhiteLine$Road;LWhiteLine$Law;II)V"⟩
abbrev cX6_paintOne : ByteArray := prog_8_method_3_code
def yX6_paintOne : MethodName := ⟨RX6, "paintOne", "(LWhiteLine$Road;LWhiteLine$Law;II)V"⟩
abbrev cX6_conesNeeded : ByteArray := prog_8_method_4_code
def yX6_conesNeeded : MethodName := ⟨RX6, "conesNeeded", "(I)I"⟩
def RX7 : String := "WhiteLine$Road"
def TX7 : u_T := fun k => match k with
  | 0 => ("WhiteLine$Road", "dots", "I", false)
  | 1 => ("WhiteLine$Road", "kerb", "[I", true)
  | 2 => ("WhiteLine$Road", "height", "[I", true)
  | 3 => ("WhiteLine$Road", "wear", "[I", true)
  | 4 => ("WhiteLine$Road", "oldLine", "[I", true)
  | 5 => ("WhiteLine$Road", "line", "[I", true)
  | 6 => ("WhiteLine$Road", "ends", "[I", true)
  | 7 => ("WhiteLine$Road", "dries", "[I", true)
  | 8 => ("WhiteLine$Road", "spoiltBy", "[I", true)
  | 9 => ("WhiteLine$Road", "works", "[Z", true)
  | 10 => ("WhiteLine$Road", "paints", "[I", true)
  | 11 => ("WhiteLine$Road", "minutesLeft", "[I", true)
  | 12 => ("WhiteLine$Road", "offsets", "[I", true)
  | 13 => ("WhiteLine$Road", "carWays", "[I", true)
  | 14 => ("WhiteLine$Road", "carMinutes", "[I", true)
  | 15 => ("WhiteLine$Road", "coneCount", "I", false)
  | 16 => ("WhiteLine$Road", "dewMinute", "I", false)
  | _ => ("WhiteLine$Road", "minute", "I", false)
def tyX7 : Nat → FieldType := fun k => match k with
  | 0 => .int
  | 1 => .array .int
  | 2 => .array .int
  | 3 => .array .int
  | 4 => .array .int
  | 5 => .array .int
  | 6 => .array .int
  | 7 => .array .int
  | 8 => .array .int
  | 9 => .array .boolean
  | 10 => .array .int
  | 11 => .array .int
  | 12 => .array .int
  | 13 => .array .int
  | 14 => .array .int
  | 15 => .int
  | 16 => .int
  | _ => .int
theorem nmX7 : ∀ a, a < 18 → ∀ b, b < 18 → a ≠ b → (TX7 a).2.1 ≠ (TX7 b).2.1 := by decide +kernel
theorem tyX7_ok : ∀ k, k < 18 → parseFieldDescriptor (TX7 k).2.2.1 = some (tyX7 k) := by decide +kernel
abbrev cX7_init : ByteArray := prog_9_method_1_code
def yX7_init : MethodName := ⟨RX7, "<init>", "()V"⟩
abbrev cX7_layAnew : ByteArray := prog_9_method_2_code
def yX7_layAnew : MethodName := ⟨RX7, "layAnew", "(I)V"⟩
abbrev cX7_copyFrom : ByteArray := prog_9_method_3_code
def yX7_copyFrom : MethodName := ⟨RX7, "copyFrom", "(LWhiteLine$Road;)V"⟩
abbrev cX7_rowOf : ByteArray := prog_9_method_4_code
def yX7_rowOf : MethodName := ⟨RX7, "rowOf", "(I)[I"⟩
abbrev cX7_isDot : ByteArray := prog_9_method_5_code
def yX7_isDot : MethodName := ⟨RX7, "isDot", "(I)Z"⟩
abbrev cX7_isStretch : ByteArray := prog_9_method_6_code
def yX7_isStretch : MethodName := ⟨RX7, "isStretch", "(II)Z"⟩
abbrev cX7_isPainted : ByteArray := prog_9_method_7_code
def yX7_isPainted : MethodName := ⟨RX7, "isPainted", "(I)Z"⟩
abbrev cX7_isSpoilt : ByteArray := prog_9_method_8_code
def yX7_isSpoilt : MethodName := ⟨RX7, "isSpoilt", "(I)Z"⟩
abbrev cX7_isWet : ByteArray := prog_9_method_9_code
def yX7_isWet : MethodName := ⟨RX7, "isWet", "(I)Z"⟩
abbrev cX7_isBeingPainted : ByteArray := prog_9_method_10_code
def yX7_isBeingPainted : MethodName := ⟨RX7, "isBeingPainted", "(I)Z"⟩
abbrev cX7_painterOf : ByteArray := prog_9_method_11_code
def yX7_painterOf : MethodName := ⟨RX7, "painterOf", "(I)I"⟩
abbrev cX7_makeBare : ByteArray := prog_9_method_12_code
def yX7_makeBare : MethodName := ⟨RX7, "makeBare", "(I)V"⟩
abbrev cX7_spoil : ByteArray := prog_9_method_13_code
def yX7_spoil : MethodName := ⟨RX7, "spoil", "(II)V"⟩
abbrev cX7_offsetBy : ByteArray := prog_9_method_14_code
def yX7_offsetBy : MethodName := ⟨RX7, "offsetBy", "(II)I"⟩
abbrev cX7_nextFor : ByteArray := prog_9_method_15_code
def yX7_nextFor : MethodName := ⟨RX7, "nextFor", "(I)I"⟩
abbrev cX7_conesInUse : ByteArray := prog_9_method_16_code
def yX7_conesInUse : MethodName := ⟨RX7, "conesInUse", "()I"⟩
abbrev cX7_paintedDots : ByteArray := prog_9_method_17_code
def yX7_paintedDots : MethodName := ⟨RX7, "paintedDots", "()I"⟩
abbrev cX7_spoiltDots : ByteArray := prog_9_method_18_code
def yX7_spoiltDots : MethodName := ⟨RX7, "spoiltDots", "()I"⟩
abbrev cX7_wetDots : ByteArray := prog_9_method_19_code
def yX7_wetDots : MethodName := ⟨RX7, "wetDots", "()I"⟩
abbrev cX7_offKerb : ByteArray := prog_9_method_20_code
def yX7_offKerb : MethodName := ⟨RX7, "offKerb", "()I"⟩
def RX8 : String := "WhiteLine$RowReader"
def TX8 : u_T := fun k => match k with
  | 0 => ("WhiteLine$RowReader", "values", "[I", true)
  | 1 => ("WhiteLine$RowReader", "text", "[I", false)
  | 2 => ("WhiteLine$RowReader", "size", "I", false)
  | 3 => ("WhiteLine$RowReader", "at", "I", false)
  | 4 => ("WhiteLine$RowReader", "filled", "I", false)
  | _ => ("WhiteLine$RowReader", "fault", "I", false)
def tyX8 : Nat → FieldType := fun k => match k with
  | 0 => .array .int
  | 1 => .array .int
  | 2 => .int
  | 3 => .int
  | 4 => .int
  | _ => .int
theorem nmX8 : ∀ a, a < 6 → ∀ b, b < 6 → a ≠ b → (TX8 a).2.1 ≠ (TX8 b).2.1 := by decide +kernel
theorem tyX8_ok : ∀ k, k < 6 → parseFieldDescriptor (TX8 k).2.2.1 = some (tyX8 k) := by decide +kernel
abbrev cX8_init : ByteArray := prog_10_method_1_code
def yX8_init : MethodName := ⟨RX8, "<init>", "()V"⟩
abbrev cX8_read : ByteArray := prog_10_method_2_code
def yX8_read : MethodName := ⟨RX8, "read", "([IIIZ)I"⟩
abbrev cX8_writeTo : ByteArray := prog_10_method_3_code
def yX8_writeTo : MethodName := ⟨RX8, "writeTo", "([II)V"⟩
abbrev cX8_readValue : ByteArray := prog_10_method_4_code
def yX8_readValue : MethodName := ⟨RX8, "readValue", "(IZ)Z"⟩
abbrev cX8_readNumber : ByteArray := prog_10_method_5_code
def yX8_readNumber : MethodName := ⟨RX8, "readNumber", "()I"⟩
abbrev cX8_peek : ByteArray := prog_10_method_6_code
def yX8_peek : MethodName := ⟨RX8, "peek", "()I"⟩
abbrev cX8_fail : ByteArray := prog_10_method_7_code
def yX8_fail : MethodName := ⟨RX8, "fail", "(II)Z"⟩
abbrev cX8_sumOfAmounts : ByteArray := prog_10_method_8_code
def yX8_sumOfAmounts : MethodName := ⟨RX8, "sumOfAmounts", "()I"⟩
def RX9 : String := "WhiteLine$Sight"
def TX9 : u_T := fun k => match k with
  | _ => ("", "", "", false)
def tyX9 : Nat → FieldType := fun k => match k with
  | _ => .int
theorem nmX9 : ∀ a, a < 0 → ∀ b, b < 0 → a ≠ b → (TX9 a).2.1 ≠ (TX9 b).2.1 := by decide +kernel
theorem tyX9_ok : ∀ k, k < 0 → parseFieldDescriptor (TX9 k).2.2.1 = some (tyX9 k) := by decide +kernel
abbrev cX9_dotsAhead : ByteArray := prog_11_method_2_code
def yX9_dotsAhead : MethodName := ⟨RX9, "dotsAhead", "(LWhiteLine$Road;III)I"⟩
abbrev cX9_suffices : ByteArray := prog_11_method_3_code
def yX9_suffices : MethodName := ⟨RX9, "suffices", "(LWhiteLine$Road;IIII)Z"⟩
abbrev cX9_isBroken : ByteArray := prog_11_method_4_code
def yX9_isBroken : MethodName := ⟨RX9, "isBroken", "(LWhiteLine$Road;LWhiteLine$Law;III)Z"⟩
abbrev cX9_marking : ByteArray := prog_11_method_5_code
def yX9_marking : MethodName := ⟨RX9, "marking", "(LWhiteLine$Road;LWhiteLine$Law;II)I"⟩
def RX10 : String := "WhiteLine$Stretches"
def TX10 : u_T := fun k => match k with
  | 0 => ("WhiteLine$Stretches", "most", "[[I", true)
  | _ => ("WhiteLine$Stretches", "starts", "[I", true)
def tyX10 : Nat → FieldType := fun k => match k with
  | 0 => .array (.array .int)
  | _ => .array .int
theorem nmX10 : ∀ a, a < 2 → ∀ b, b < 2 → a ≠ b → (TX10 a).2.1 ≠ (TX10 b).2.1 := by decide +kernel
theorem tyX10_ok : ∀ k, k < 2 → parseFieldDescriptor (TX10 k).2.2.1 = some (tyX10 k) := by decide +kernel
abbrev cX10_init : ByteArray := prog_12_method_1_code
def yX10_init : MethodName := ⟨RX10, "<init>", "()V"⟩
abbrev cX10_choose : ByteArray := prog_12_method_2_code
def yX10_choose : MethodName := ⟨RX10, "choose", "(LWhiteLine$Road;II)I"⟩
abbrev cX10_mostFrom : ByteArray := prog_12_method_3_code
def yX10_mostFrom : MethodName := ⟨RX10, "mostFrom", "(LWhiteLine$Road;III)I"⟩
abbrev cX10_mostBegunAt : ByteArray := prog_12_method_4_code
def yX10_mostBegunAt : MethodName := ⟨RX10, "mostBegunAt", "(LWhiteLine$Road;III)I"⟩
def RX11 : String := "WhiteLine"
def TX11 : u_T := fun k => match k with
  | 0 => ("WhiteLine", "tape", "[I", true)
  | 1 => ("WhiteLine", "tapeSize", "I", false)
  | 2 => ("WhiteLine", "rowReader", "LWhiteLine$RowReader;", true)
  | 3 => ("WhiteLine", "lawReader", "LWhiteLine$LawReader;", true)
  | 4 => ("WhiteLine", "inForce", "LWhiteLine$Law;", false)
  | 5 => ("WhiteLine", "now", "LWhiteLine$Road;", true)
  | 6 => ("WhiteLine", "kept", "LWhiteLine$Road;", true)
  | 7 => ("WhiteLine", "trial", "LWhiteLine$Road;", true)
  | 8 => ("WhiteLine", "isKept", "Z", false)
  | 9 => ("WhiteLine", "plan", "LWhiteLine$Plan;", true)
  | 10 => ("WhiteLine", "fit", "LWhiteLine$Fit;", true)
  | 11 => ("WhiteLine", "driver", "LWhiteLine$Driver;", true)
  | 12 => ("WhiteLine", "stretches", "LWhiteLine$Stretches;", true)
  | _ => ("WhiteLine", "lane", "LWhiteLine$Lane;", true)
def tyX11 : Nat → FieldType := fun k => match k with
  | 0 => .array .int
  | 1 => .int
  | 2 => .object "WhiteLine$RowReader"
  | 3 => .object "WhiteLine$LawReader"
  | 4 => .object "WhiteLine$Law"
  | 5 => .object "WhiteLine$Road"
  | 6 => .object "WhiteLine$Road"
  | 7 => .object "WhiteLine$Road"
  | 8 => .boolean
  | 9 => .object "WhiteLine$Plan"
  | 10 => .object "WhiteLine$Fit"
  | 11 => .object "WhiteLine$Driver"
  | 12 => .object "WhiteLine$Stretches"
  | _ => .object "WhiteLine$Lane"
theorem nmX11 : ∀ a, a < 14 → ∀ b, b < 14 → a ≠ b → (TX11 a).2.1 ≠ (TX11 b).2.1 := by decide +kernel
theorem tyX11_ok : ∀ k, k < 14 → parseFieldDescriptor (TX11 k).2.2.1 = some (tyX11 k) := by decide +kernel
abbrev cX11_init : ByteArray := prog_1_method_1_code
def yX11_init : MethodName := ⟨RX11, "<init>", "()V"⟩
abbrev cX11_road : ByteArray := prog_1_method_2_code
def yX11_road : MethodName := ⟨RX11, "road", "(I)Z"⟩
abbrev cX11_row : ByteArray := prog_1_method_3_code
def yX11_row : MethodName := ⟨RX11, "row", "(II)I"⟩
abbrev cX11_old : ByteArray := prog_1_method_4_code
def yX11_old : MethodName := ⟨RX11, "old", "(III)Z"⟩
abbrev cX11_feed : ByteArray := prog_1_method_5_code
def yX11_feed : MethodName := ⟨RX11, "feed", "(IIIII)I"⟩
abbrev cX11_law : ByteArray := prog_1_method_6_code
def yX11_law : MethodName := ⟨RX11, "law", "(I)I"⟩
abbrev cX11_party : ByteArray := prog_1_method_7_code
def yX11_party : MethodName := ⟨RX11, "party", "(IZI)Z"⟩
abbrev cX11_car : ByteArray := prog_1_method_8_code
def yX11_car : MethodName := ⟨RX11, "car", "(III)Z"⟩
abbrev cX11_cones : ByteArray := prog_1_method_9_code
def yX11_cones : MethodName := ⟨RX11, "cones", "(I)Z"⟩
abbrev cX11_dew : ByteArray := prog_1_method_10_code
def yX11_dew : MethodName := ⟨RX11, "dew", "(I)Z"⟩
abbrev cX11_burns : ByteArray := prog_1_method_11_code
def yX11_burns : MethodName := ⟨RX11, "burns", "(II)I"⟩
abbrev cX11_minutes : ByteArray := prog_1_method_12_code
def yX11_minutes : MethodName := ⟨RX11, "minutes", "(I)I"⟩
abbrev cX11_tried : ByteArray := prog_1_method_13_code
def yX11_tried : MethodName := ⟨RX11, "tried", "(II)I"⟩
abbrev cX11_dot : ByteArray := prog_1_method_14_code
def yX11_dot : MethodName := ⟨RX11, "dot", "(II)I"⟩
abbrev cX11_smooth : ByteArray := prog_1_method_15_code
def yX11_smooth : MethodName := ⟨RX11, "smooth", "(II)I"⟩
abbrev cX11_apart : ByteArray := prog_1_method_16_code
def yX11_apart : MethodName := ⟨RX11, "apart", "(II)I"⟩
abbrev cX11_seen : ByteArray := prog_1_method_17_code
def yX11_seen : MethodName := ⟨RX11, "seen", "(III)I"⟩
abbrev cX11_marked : ByteArray := prog_1_method_18_code
def yX11_marked : MethodName := ⟨RX11, "marked", "(II)I"⟩
abbrev cX11_markings : ByteArray := prog_1_method_19_code
def yX11_markings : MethodName := ⟨RX11, "markings", "(III)I"⟩
abbrev cX11_joins : ByteArray := prog_1_method_20_code
def yX11_joins : MethodName := ⟨RX11, "joins", "(III)I"⟩
abbrev cX11_begins : ByteArray := prog_1_method_21_code
def yX11_begins : MethodName := ⟨RX11, "begins", "(II)I"⟩
abbrev cX11_latest : ByteArray := prog_1_method_22_code
def yX11_latest : MethodName := ⟨RX11, "latest", "(I)I"⟩
abbrev cX11_dewOdds : ByteArray := prog_1_method_23_code
def yX11_dewOdds : MethodName := ⟨RX11, "dewOdds", "(IIII)I"⟩
abbrev cX11_meet : ByteArray := prog_1_method_24_code
def yX11_meet : MethodName := ⟨RX11, "meet", "(III)I"⟩
abbrev cX11_pinned : ByteArray := prog_1_method_25_code
def yX11_pinned : MethodName := ⟨RX11, "pinned", "(II)I"⟩
abbrev cX11_lights : ByteArray := prog_1_method_26_code
def yX11_lights : MethodName := ⟨RX11, "lights", "(III)I"⟩
abbrev cX11_believed : ByteArray := prog_1_method_27_code
def yX11_believed : MethodName := ⟨RX11, "believed", "(IZ)I"⟩
abbrev cX11_lost : ByteArray := prog_1_method_28_code
def yX11_lost : MethodName := ⟨RX11, "lost", "(IZ)I"⟩
abbrev cX11_burnFirst : ByteArray := prog_1_method_29_code
def yX11_burnFirst : MethodName := ⟨RX11, "burnFirst", "(IIZI)I"⟩
abbrev cX11_cut : ByteArray := prog_1_method_30_code
def yX11_cut : MethodName := ⟨RX11, "cut", "(III)I"⟩
abbrev cX11_renewed : ByteArray := prog_1_method_31_code
def yX11_renewed : MethodName := ⟨RX11, "renewed", "(III)I"⟩
abbrev cX11_who : ByteArray := prog_1_method_32_code
def yX11_who : MethodName := ⟨RX11, "who", "(I)I"⟩
abbrev cX11_keep : ByteArray := prog_1_method_33_code
def yX11_keep : MethodName := ⟨RX11, "keep", "()I"⟩
abbrev cX11_undo : ByteArray := prog_1_method_34_code
def yX11_undo : MethodName := ⟨RX11, "undo", "()Z"⟩
abbrev cX11_check : ByteArray := prog_1_method_35_code
def yX11_check : MethodName := ⟨RX11, "check", "(I)I"⟩
abbrev cX11_count : ByteArray := prog_1_method_36_code
def yX11_count : MethodName := ⟨RX11, "count", "(I)I"⟩
abbrev cX11_putOnTape : ByteArray := prog_1_method_37_code
def yX11_putOnTape : MethodName := ⟨RX11, "putOnTape", "(I)V"⟩
abbrev cX11_isIn : ByteArray := prog_1_method_38_code
def yX11_isIn : MethodName := ⟨RX11, "isIn", "(III)Z"⟩
abbrev cX11_isOffset : ByteArray := prog_1_method_39_code
def yX11_isOffset : MethodName := ⟨RX11, "isOffset", "(I)Z"⟩
abbrev cX11_isEye : ByteArray := prog_1_method_40_code
def yX11_isEye : MethodName := ⟨RX11, "isEye", "(I)Z"⟩
abbrev cX11_shifted : ByteArray := prog_1_method_41_code
def yX11_shifted : MethodName := ⟨RX11, "shifted", "(I)I"⟩
abbrev cX11_heldIn : ByteArray := prog_1_method_42_code
def yX11_heldIn : MethodName := ⟨RX11, "heldIn", "(III)I"⟩
abbrev cX11_commonDivisor : ByteArray := prog_1_method_43_code
def yX11_commonDivisor : MethodName := ⟨RX11, "commonDivisor", "(II)I"⟩
def RX12 : String := "WhiteLineModel"
def TX12 : u_T := fun k => match k with
  | 0 => ("WhiteLineModel", "now", "[I", true)
  | 1 => ("WhiteLineModel", "aside", "[I", true)
  | 2 => ("WhiteLineModel", "kept", "[I", true)
  | 3 => ("WhiteLineModel", "tape", "[B", true)
  | 4 => ("WhiteLineModel", "taped", "I", false)
  | 5 => ("WhiteLineModel", "place0", "I", false)
  | 6 => ("WhiteLineModel", "length0", "I", false)
  | 7 => ("WhiteLineModel", "fault", "I", false)
  | 8 => ("WhiteLineModel", "number0", "I", false)
  | 9 => ("WhiteLineModel", "open", "I", false)
  | 10 => ("WhiteLineModel", "codeMany", "I", false)
  | 11 => ("WhiteLineModel", "waiting", "I", false)
  | 12 => ("WhiteLineModel", "saidMany", "I", false)
  | 13 => ("WhiteLineModel", "clauses", "I", false)
  | 14 => ("WhiteLineModel", "newMany", "I", false)
  | 15 => ("WhiteLineModel", "said", "[I", true)
  | 16 => ("WhiteLineModel", "waitsAt", "[I", true)
  | 17 => ("WhiteLineModel", "saidLetter", "[I", true)
  | 18 => ("WhiteLineModel", "saidFrom", "[I", true)
  | 19 => ("WhiteLineModel", "saidHalf", "[I", true)
  | 20 => ("WhiteLineModel", "saidTo", "[I", true)
  | 21 => ("WhiteLineModel", "codes", "[I", true)
  | 22 => ("WhiteLineModel", "clauseOf", "[I", true)
  | 23 => ("WhiteLineModel", "codeFrom", "[I", true)
  | 24 => ("WhiteLineModel", "codeHalf", "[I", true)
  | 25 => ("WhiteLineModel", "codeTo", "[I", true)
  | 26 => ("WhiteLineModel", "newValue", "[I", true)
  | 27 => ("WhiteLineModel", "stack", "[I", true)
  | 28 => ("WhiteLineModel", "facts", "[I", true)
  | 29 => ("WhiteLineModel", "paintedNow", "I", false)
  | 30 => ("WhiteLineModel", "offOf", "[I", true)
  | 31 => ("WhiteLineModel", "pinsOf", "[I", true)
  | 32 => ("WhiteLineModel", "pinNow", "[I", true)
  | 33 => ("WhiteLineModel", "endOf", "[I", true)
  | 34 => ("WhiteLineModel", "byOf", "[I", true)
  | 35 => ("WhiteLineModel", "waitFrom", "[I", true)
  | 36 => ("WhiteLineModel", "dryAt", "[I", true)
  | 37 => ("WhiteLineModel", "dotNow", "[I", true)
  | 38 => ("WhiteLineModel", "leftNow", "[I", true)
  | 39 => ("WhiteLineModel", "lowFree", "I", false)
  | 40 => ("WhiteLineModel", "highFree", "I", false)
  | 41 => ("WhiteLineModel", "lastDot", "I", false)
  | 42 => ("WhiteLineModel", "lastEnd", "I", false)
  | 43 => ("WhiteLineModel", "wearOf", "[I", true)
  | 44 => ("WhiteLineModel", "beginOf", "[I", true)
  | _ => ("WhiteLineModel", "isKept", "Z", false)
def tyX12 : Nat → FieldType := fun k => match k with
  | 0 => .array .int
  | 1 => .array .int
  | 2 => .array .int
  | 3 => .array .byte
  | 4 => .int
  | 5 => .int
  | 6 => .int
  | 7 => .int
  | 8 => .int
  | 9 => .int
  | 10 => .int
  | 11 => .int
  | 12 => .int
  | 13 => .int
  | 14 => .int
  | 15 => .array .int
  | 16 => .array .int
  | 17 => .array .int
  | 18 => .array .int
  | 19 => .array .int
  | 20 => .array .int
  | 21 => .array .int
  | 22 => .array .int
  | 23 => .array .int
  | 24 => .array .int
  | 25 => .array .int
  | 26 => .array .int
  | 27 => .array .int
  | 28 => .array .int
  | 29 => .int
  | 30 => .array .int
  | 31 => .array .int
  | 32 => .array .int
  | 33 => .array .int
  | 34 => .array .int
  | 35 => .array .int
  | 36 => .array .int
  | 37 => .array .int
  | 38 => .array .int
  | 39 => .int
  | 40 => .int
  | 41 => .int
  | 42 => .int
  | 43 => .array .int
  | 44 => .array .int
  | _ => .boolean
theorem nmX12 : ∀ a, a < 46 → ∀ b, b < 46 → a ≠ b → (TX12 a).2.1 ≠ (TX12 b).2.1 := by decide +kernel
theorem tyX12_ok : ∀ k, k < 46 → parseFieldDescriptor (TX12 k).2.2.1 = some (tyX12 k) := by decide +kernel
abbrev cX12_init : ByteArray := prog_14_method_1_code
def yX12_init : MethodName := ⟨RX12, "<init>", "()V"⟩
abbrev cX12_in : ByteArray := prog_14_method_2_code
def yX12_in : MethodName := ⟨RX12, "in", "(III)Z"⟩
abbrev cX12_min : ByteArray := prog_14_method_3_code
def yX12_min : MethodName := ⟨RX12, "min", "(II)I"⟩
abbrev cX12_max : ByteArray := prog_14_method_4_code
def yX12_max : MethodName := ⟨RX12, "max", "(II)I"⟩
abbrev cX12_size : ByteArray := prog_14_method_5_code
def yX12_size : MethodName := ⟨RX12, "size", "(I)I"⟩
abbrev cX12_has : ByteArray := prog_14_method_6_code
def yX12_has : MethodName := ⟨RX12, "has", "(II)Z"⟩
abbrev cX12_copies : ByteArray := prog_14_method_7_code
def yX12_copies : MethodName := ⟨RX12, "copies", "([I[I)V"⟩
abbrev cX12_isDot : ByteArray := prog_14_method_8_code
def yX12_isDot : MethodName := ⟨RX12, "isDot", "(I)Z"⟩
abbrev cX12_isPainted : ByteArray := prog_14_method_9_code
def yX12_isPainted : MethodName := ⟨RX12, "isPainted", "(I)Z"⟩
abbrev cX12_road : ByteArray := prog_14_method_10_code
def yX12_road : MethodName := ⟨RX12, "road", "(I)Z"⟩
abbrev cX12_bares : ByteArray := prog_14_method_11_code
def yX12_bares : MethodName := ⟨RX12, "bares", "(I)V"⟩
abbrev cX12_old : ByteArray := prog_14_method_12_code
def yX12_old : MethodName := ⟨RX12, "old", "(III)Z"⟩
abbrev cX12_leaves : ByteArray := prog_14_method_13_code
def yX12_leaves : MethodName := ⟨RX12, "leaves", "(I)V"⟩
abbrev cX12_party : ByteArray := prog_14_method_14_code
def yX12_party : MethodName := ⟨RX12, "party", "(IZI)Z"⟩
abbrev cX12_car : ByteArray := prog_14_method_15_code
def yX12_car : MethodName := ⟨RX12, "car", "(III)Z"⟩
abbrev cX12_cones : ByteArray := prog_14_method_16_code
def yX12_cones : MethodName := ⟨RX12, "cones", "(I)Z"⟩
abbrev cX12_dew : ByteArray := prog_14_method_17_code
def yX12_dew : MethodName := ⟨RX12, "dew", "(I)Z"⟩
abbrev cX12_burns : ByteArray := prog_14_method_18_code
def yX12_burns : MethodName := ⟨RX12, "burns", "(II)I"⟩
abbrev cX12_types : ByteArray := prog_14_method_19_code
def yX12_types : MethodName := ⟨RX12, "types", "(I)V"⟩
abbrev cX12_feed : ByteArray := prog_14_method_20_code
def yX12_feed : MethodName := ⟨RX12, "feed", "(IIIII)I"⟩
abbrev cX12_here : ByteArray := prog_14_method_21_code
def yX12_here : MethodName := ⟨RX12, "here", "()I"⟩
abbrev cX12_isDigit : ByteArray := prog_14_method_22_code
def yX12_isDigit : MethodName := ⟨RX12, "isDigit", "()Z"⟩
abbrev cX12_wrongAt : ByteArray := prog_14_method_23_code
def yX12_wrongAt : MethodName := ⟨RX12, "wrongAt", "(II)Z"⟩
abbrev cX12_takes : ByteArray := prog_14_method_24_code
def yX12_takes : MethodName := ⟨RX12, "takes", "(I)Z"⟩
abbrev cX12_readsNumber : ByteArray := prog_14_method_25_code
def yX12_readsNumber : MethodName := ⟨RX12, "readsNumber", "()Z"⟩
abbrev cX12_notes : ByteArray := prog_14_method_26_code
def yX12_notes : MethodName := ⟨RX12, "notes", "(II)V"⟩
abbrev cX12_opens : ByteArray := prog_14_method_27_code
def yX12_opens : MethodName := ⟨RX12, "opens", "(I)Z"⟩
abbrev cX12_waitTop : ByteArray := prog_14_method_28_code
def yX12_waitTop : MethodName := ⟨RX12, "waitTop", "()I"⟩
abbrev cX12_factOf : ByteArray := prog_14_method_29_code
def yX12_factOf : MethodName := ⟨RX12, "factOf", "(I)I"⟩
abbrev cX12_sumSign : ByteArray := prog_14_method_30_code
def yX12_sumSign : MethodName := ⟨RX12, "sumSign", "(I)I"⟩
abbrev cX12_closesSums : ByteArray := prog_14_method_31_code
def yX12_closesSums : MethodName := ⟨RX12, "closesSums", "(Z)V"⟩
abbrev cX12_readsFactor : ByteArray := prog_14_method_32_code
def yX12_readsFactor : MethodName := ⟨RX12, "readsFactor", "()Z"⟩
abbrev cX12_hasOpenSum : ByteArray := prog_14_method_33_code
def yX12_hasOpenSum : MethodName := ⟨RX12, "hasOpenSum", "(I)Z"⟩
abbrev cX12_readsSum : ByteArray := prog_14_method_34_code
def yX12_readsSum : MethodName := ⟨RX12, "readsSum", "()Z"⟩
abbrev cX12_endsPiece : ByteArray := prog_14_method_35_code
def yX12_endsPiece : MethodName := ⟨RX12, "endsPiece", "()V"⟩
abbrev cX12_lands : ByteArray := prog_14_method_36_code
def yX12_lands : MethodName := ⟨RX12, "lands", "(Z)V"⟩
abbrev cX12_jumps : ByteArray := prog_14_method_37_code
def yX12_jumps : MethodName := ⟨RX12, "jumps", "(I)V"⟩
abbrev cX12_readsCompared : ByteArray := prog_14_method_38_code
def yX12_readsCompared : MethodName := ⟨RX12, "readsCompared", "()Z"⟩
abbrev cX12_readsCondition : ByteArray := prog_14_method_39_code
def yX12_readsCondition : MethodName := ⟨RX12, "readsCondition", "()Z"⟩
abbrev cX12_readsTwo : ByteArray := prog_14_method_40_code
def yX12_readsTwo : MethodName := ⟨RX12, "readsTwo", "()Z"⟩
abbrev cX12_readsValue : ByteArray := prog_14_method_41_code
def yX12_readsValue : MethodName := ⟨RX12, "readsValue", "(Z)Z"⟩
abbrev cX12_row : ByteArray := prog_14_method_42_code
def yX12_row : MethodName := ⟨RX12, "row", "(II)I"⟩
abbrev cX12_isClause : ByteArray := prog_14_method_43_code
def yX12_isClause : MethodName := ⟨RX12, "isClause", "(I)Z"⟩
abbrev cX12_readsClause : ByteArray := prog_14_method_44_code
def yX12_readsClause : MethodName := ⟨RX12, "readsClause", "()Z"⟩
abbrev cX12_law : ByteArray := prog_14_method_45_code
def yX12_law : MethodName := ⟨RX12, "law", "(I)I"⟩
abbrev cX12_reckon : ByteArray := prog_14_method_46_code
def yX12_reckon : MethodName := ⟨RX12, "reckon", "(III)I"⟩
abbrev cX12_comesTo : ByteArray := prog_14_method_47_code
def yX12_comesTo : MethodName := ⟨RX12, "comesTo", "(II)I"⟩
abbrev cX12_byLaw : ByteArray := prog_14_method_48_code
def yX12_byLaw : MethodName := ⟨RX12, "byLaw", "(III)I"⟩
abbrev cX12_feels : ByteArray := prog_14_method_49_code
def yX12_feels : MethodName := ⟨RX12, "feels", "(IIIZ)V"⟩
abbrev cX12_paintsFor : ByteArray := prog_14_method_50_code
def yX12_paintsFor : MethodName := ⟨RX12, "paintsFor", "(III)I"⟩
abbrev cX12_driesFor : ByteArray := prog_14_method_51_code
def yX12_driesFor : MethodName := ⟨RX12, "driesFor", "(III)I"⟩
abbrev cX12_mustSee : ByteArray := prog_14_method_52_code
def yX12_mustSee : MethodName := ⟨RX12, "mustSee", "(I)I"⟩
abbrev cX12_plain : ByteArray := prog_14_method_53_code
def yX12_plain : MethodName := ⟨RX12, "plain", "(IIZ)I"⟩
abbrev cX12_isWet : ByteArray := prog_14_method_54_code
def yX12_isWet : MethodName := ⟨RX12, "isWet", "(II)Z"⟩
abbrev cX12_isPainting : ByteArray := prog_14_method_55_code
def yX12_isPainting : MethodName := ⟨RX12, "isPainting", "(I)Z"⟩
abbrev cX12_nextOf : ByteArray := prog_14_method_56_code
def yX12_nextOf : MethodName := ⟨RX12, "nextOf", "(I)I"⟩
abbrev cX12_busy : ByteArray := prog_14_method_57_code
def yX12_busy : MethodName := ⟨RX12, "busy", "(I)I"⟩
abbrev cX12_held : ByteArray := prog_14_method_58_code
def yX12_held : MethodName := ⟨RX12, "held", "(I)I"⟩
abbrev cX12_beginsWith : ByteArray := prog_14_method_59_code
def yX12_beginsWith : MethodName := ⟨RX12, "beginsWith", "(I)V"⟩
abbrev cX12_paintsOn : ByteArray := prog_14_method_60_code
def yX12_paintsOn : MethodName := ⟨RX12, "paintsOn", "(I)V"⟩
abbrev cX12_drives : ByteArray := prog_14_method_61_code
def yX12_drives : MethodName := ⟨RX12, "drives", "(I)V"⟩
abbrev cX12_minuteGoes : ByteArray := prog_14_method_62_code
def yX12_minuteGoes : MethodName := ⟨RX12, "minuteGoes", "()V"⟩
abbrev cX12_minutesGo : ByteArray := prog_14_method_63_code
def yX12_minutesGo : MethodName := ⟨RX12, "minutesGo", "(I)V"⟩
abbrev cX12_minutes : ByteArray := prog_14_method_64_code
def yX12_minutes : MethodName := ⟨RX12, "minutes", "(I)I"⟩
abbrev cX12_paintedAll : ByteArray := prog_14_method_65_code
def yX12_paintedAll : MethodName := ⟨RX12, "paintedAll", "()I"⟩
abbrev cX12_spoiltAll : ByteArray := prog_14_method_66_code
def yX12_spoiltAll : MethodName := ⟨RX12, "spoiltAll", "()I"⟩
abbrev cX12_wetAll : ByteArray := prog_14_method_67_code
def yX12_wetAll : MethodName := ⟨RX12, "wetAll", "()I"⟩
abbrev cX12_offAll : ByteArray := prog_14_method_68_code
def yX12_offAll : MethodName := ⟨RX12, "offAll", "()I"⟩
abbrev cX12_tried : ByteArray := prog_14_method_69_code
def yX12_tried : MethodName := ⟨RX12, "tried", "(II)I"⟩
abbrev cX12_paintedBy : ByteArray := prog_14_method_70_code
def yX12_paintedBy : MethodName := ⟨RX12, "paintedBy", "(I)I"⟩
abbrev cX12_dot : ByteArray := prog_14_method_71_code
def yX12_dot : MethodName := ⟨RX12, "dot", "(II)I"⟩
abbrev cX12_offBy : ByteArray := prog_14_method_72_code
def yX12_offBy : MethodName := ⟨RX12, "offBy", "(II)I"⟩
abbrev cX12_laysSmooth : ByteArray := prog_14_method_73_code
def yX12_laysSmooth : MethodName := ⟨RX12, "laysSmooth", "(I)V"⟩
abbrev cX12_smooth : ByteArray := prog_14_method_74_code
def yX12_smooth : MethodName := ⟨RX12, "smooth", "(II)I"⟩
abbrev cX12_straight : ByteArray := prog_14_method_75_code
def yX12_straight : MethodName := ⟨RX12, "straight", "(III)I"⟩
abbrev cX12_worst : ByteArray := prog_14_method_76_code
def yX12_worst : MethodName := ⟨RX12, "worst", "(II)I"⟩
abbrev cX12_offBetween : ByteArray := prog_14_method_77_code
def yX12_offBetween : MethodName := ⟨RX12, "offBetween", "(II)I"⟩
abbrev cX12_apart : ByteArray := prog_14_method_78_code
def yX12_apart : MethodName := ⟨RX12, "apart", "(II)I"⟩
abbrev cX12_laysPins : ByteArray := prog_14_method_79_code
def yX12_laysPins : MethodName := ⟨RX12, "laysPins", "(I)I"⟩
abbrev cX12_pinned : ByteArray := prog_14_method_80_code
def yX12_pinned : MethodName := ⟨RX12, "pinned", "(II)I"⟩
abbrev cX12_isHidden : ByteArray := prog_14_method_81_code
def yX12_isHidden : MethodName := ⟨RX12, "isHidden", "(IIII)Z"⟩
abbrev cX12_ahead : ByteArray := prog_14_method_82_code
def yX12_ahead : MethodName := ⟨RX12, "ahead", "(II)I"⟩
abbrev cX12_seenFrom : ByteArray := prog_14_method_83_code
def yX12_seenFrom : MethodName := ⟨RX12, "seenFrom", "(III)I"⟩
abbrev cX12_seen : ByteArray := prog_14_method_84_code
def yX12_seen : MethodName := ⟨RX12, "seen", "(III)I"⟩
abbrev cX12_isEnough : ByteArray := prog_14_method_85_code
def yX12_isEnough : MethodName := ⟨RX12, "isEnough", "(IIII)Z"⟩
abbrev cX12_markAt : ByteArray := prog_14_method_86_code
def yX12_markAt : MethodName := ⟨RX12, "markAt", "(II)I"⟩
abbrev cX12_marked : ByteArray := prog_14_method_87_code
def yX12_marked : MethodName := ⟨RX12, "marked", "(II)I"⟩
abbrev cX12_markings : ByteArray := prog_14_method_88_code
def yX12_markings : MethodName := ⟨RX12, "markings", "(III)I"⟩
abbrev cX12_cut : ByteArray := prog_14_method_89_code
def yX12_cut : MethodName := ⟨RX12, "cut", "(III)I"⟩
abbrev cX12_joins : ByteArray := prog_14_method_90_code
def yX12_joins : MethodName := ⟨RX12, "joins", "(III)I"⟩
abbrev cX12_startsOne : ByteArray := prog_14_method_91_code
def yX12_startsOne : MethodName := ⟨RX12, "startsOne", "(II)V"⟩
abbrev cX12_endsOne : ByteArray := prog_14_method_92_code
def yX12_endsOne : MethodName := ⟨RX12, "endsOne", "(II)V"⟩
abbrev cX12_paintsBare : ByteArray := prog_14_method_93_code
def yX12_paintsBare : MethodName := ⟨RX12, "paintsBare", "(II)V"⟩
abbrev cX12_allDry : ByteArray := prog_14_method_94_code
def yX12_allDry : MethodName := ⟨RX12, "allDry", "()I"⟩
abbrev cX12_conesFor : ByteArray := prog_14_method_95_code
def yX12_conesFor : MethodName := ⟨RX12, "conesFor", "()I"⟩
abbrev cX12_begins : ByteArray := prog_14_method_96_code
def yX12_begins : MethodName := ⟨RX12, "begins", "(II)I"⟩
abbrev cX12_dryFrom : ByteArray := prog_14_method_97_code
def yX12_dryFrom : MethodName := ⟨RX12, "dryFrom", "(I)I"⟩
abbrev cX12_latest : ByteArray := prog_14_method_98_code
def yX12_latest : MethodName := ⟨RX12, "latest", "(I)I"⟩
abbrev cX12_gcd : ByteArray := prog_14_method_99_code
def yX12_gcd : MethodName := ⟨RX12, "gcd", "(II)I"⟩
abbrev cX12_dewOdds : ByteArray := prog_14_method_100_code
def yX12_dewOdds : MethodName := ⟨RX12, "dewOdds", "(IIII)I"⟩
abbrev cX12_meet : ByteArray := prog_14_method_101_code
def yX12_meet : MethodName := ⟨RX12, "meet", "(III)I"⟩
abbrev cX12_waitsBy : ByteArray := prog_14_method_102_code
def yX12_waitsBy : MethodName := ⟨RX12, "waitsBy", "(III)I"⟩
abbrev cX12_isGreen : ByteArray := prog_14_method_103_code
def yX12_isGreen : MethodName := ⟨RX12, "isGreen", "(IIII)Z"⟩
abbrev cX12_areCars : ByteArray := prog_14_method_104_code
def yX12_areCars : MethodName := ⟨RX12, "areCars", "(I)Z"⟩
abbrev cX12_lights : ByteArray := prog_14_method_105_code
def yX12_lights : MethodName := ⟨RX12, "lights", "(III)I"⟩
abbrev cX12_believedAt : ByteArray := prog_14_method_106_code
def yX12_believedAt : MethodName := ⟨RX12, "believedAt", "(IZZ)I"⟩
abbrev cX12_believed : ByteArray := prog_14_method_107_code
def yX12_believed : MethodName := ⟨RX12, "believed", "(IZ)I"⟩
abbrev cX12_isLost : ByteArray := prog_14_method_108_code
def yX12_isLost : MethodName := ⟨RX12, "isLost", "(IIZ)Z"⟩
abbrev cX12_lostBut : ByteArray := prog_14_method_109_code
def yX12_lostBut : MethodName := ⟨RX12, "lostBut", "(IIIZ)I"⟩
abbrev cX12_lost : ByteArray := prog_14_method_110_code
def yX12_lost : MethodName := ⟨RX12, "lost", "(IZ)I"⟩
abbrev cX12_burnFirst : ByteArray := prog_14_method_111_code
def yX12_burnFirst : MethodName := ⟨RX12, "burnFirst", "(IIZI)I"⟩
abbrev cX12_wearIn : ByteArray := prog_14_method_112_code
def yX12_wearIn : MethodName := ⟨RX12, "wearIn", "(II)I"⟩
abbrev cX12_wearFrom : ByteArray := prog_14_method_113_code
def yX12_wearFrom : MethodName := ⟨RX12, "wearFrom", "(II)I"⟩
abbrev cX12_laysWear : ByteArray := prog_14_method_114_code
def yX12_laysWear : MethodName := ⟨RX12, "laysWear", "(II)V"⟩
abbrev cX12_renewed : ByteArray := prog_14_method_115_code
def yX12_renewed : MethodName := ⟨RX12, "renewed", "(III)I"⟩
abbrev cX12_couldBe : ByteArray := prog_14_method_116_code
def yX12_couldBe : MethodName := ⟨RX12, "couldBe", "(II)Z"⟩
abbrev cX12_who : ByteArray := prog_14_method_117_code
def yX12_who : MethodName := ⟨RX12, "who", "(I)I"⟩
abbrev cX12_keep : ByteArray := prog_14_method_118_code
def yX12_keep : MethodName := ⟨RX12, "keep", "()I"⟩
abbrev cX12_undo : ByteArray := prog_14_method_119_code
def yX12_undo : MethodName := ⟨RX12, "undo", "()Z"⟩
abbrev cX12_check : ByteArray := prog_14_method_120_code
def yX12_check : MethodName := ⟨RX12, "check", "(I)I"⟩
abbrev cX12_count : ByteArray := prog_14_method_121_code
def yX12_count : MethodName := ⟨RX12, "count", "(I)I"⟩
def RJ9 : String := "java/lang/Math"
def TJ9 : u_T := fun k => match k with
  | _ => ("", "", "", false)
def tyJ9 : Nat → FieldType := fun k => match k with
  | _ => .int
abbrev cJ9_floorMod_7cf53 : ByteArray := prog_15_method_50_code
def yJ9_floorMod_7cf53 : MethodName := ⟨RJ9, "floorMod", "(II)I"⟩
abbrev cJ9_abs_0f7a4 : ByteArray := prog_15_method_59_code
def yJ9_abs_0f7a4 : MethodName := ⟨RJ9, "abs", "(I)I"⟩
abbrev cJ9_max_7cf53 : ByteArray := prog_15_method_65_code
def yJ9_max_7cf53 : MethodName := ⟨RJ9, "max", "(II)I"⟩
abbrev cJ9_min_7cf53 : ByteArray := prog_15_method_69_code
def yJ9_min_7cf53 : MethodName := ⟨RJ9, "min", "(II)I"⟩
def RJ10 : String := "java/lang/System"
def TJ10 : u_T := fun k => match k with
  | _ => ("", "", "", false)
def tyJ10 : Nat → FieldType := fun k => match k with
  | _ => .int
def RL : String := "WhiteLineLaw"
abbrev cL_law : ByteArray := code
def yL_law : MethodName := ⟨RL, "law", "([I)Z"⟩
abbrev vwCl : List vw_C := [(RX0, TX0, 4), (RX1, TX1, 5), (RX2, TX2, 4), (RX3, TX3, 16), (RX4, TX4, 5), (RX6, TX6, 7), (RX7, TX7, 18), (RX8, TX8, 6), (RX10, TX10, 2), (RX11, TX11, 14), (RX12, TX12, 46)]
def yObj : MethodName := ⟨"java/lang/Object", "<init>", "()V"⟩
theorem w0 : (Jvm.Cond.initialized "WhiteLineLaw") ∈ q_tbl := tm_1 0 rfl rfl
theorem w1 : (Jvm.Cond.initialized "WhiteLine") ∈ q_tbl := tm_1 1 rfl rfl
theorem w2 : (Jvm.Cond.initialized "WhiteLine$RowReader") ∈ q_tbl := tm_1 2 rfl rfl
theorem w3 : (Jvm.Cond.initialized "WhiteLine$LawReader") ∈ q_tbl := tm_1 3 rfl rfl
theorem w4 : (Jvm.Cond.initialized "WhiteLine$Law") ∈ q_tbl := tm_1 4 rfl rfl
theorem w5 : (Jvm.Cond.initialized "WhiteLine$Road") ∈ q_tbl := tm_1 5 rfl rfl
theorem w6 : (Jvm.Cond.initialized "WhiteLine$Plan") ∈ q_tbl := tm_1 6 rfl rfl
theorem w7 : (Jvm.Cond.initialized "WhiteLine$Fit") ∈ q_tbl := tm_1 7 rfl rfl
theorem w8 : (Jvm.Cond.initialized "WhiteLine$Driver") ∈ q_tbl := tm_1 8 rfl rfl
theorem w9 : (Jvm.Cond.initialized "WhiteLine$Stretches") ∈ q_tbl := tm_1 9 rfl rfl
theorem w10 : (Jvm.Cond.initialized "WhiteLine$Lane") ∈ q_tbl := tm_1 10 rfl rfl
theorem w11 : (Jvm.Cond.initialized "WhiteLineModel") ∈ q_tbl := tm_1 11 rfl rfl
theorem w12 : (Jvm.Cond.initialized "java/lang/Math") ∈ q_tbl := tm_1 12 rfl rfl
theorem w13 : (Jvm.Cond.initialized "WhiteLine$Night") ∈ q_tbl := tm_1 13 rfl rfl
theorem w14 : (Jvm.Cond.initialized "java/lang/System") ∈ q_tbl := tm_1 14 rfl rfl
theorem w15 : (Jvm.Cond.initialized "WhiteLine$Sight") ∈ q_tbl := tm_1 15 rfl rfl
theorem w16 : (Jvm.Cond.classLink "WhiteLineLaw" (7 : Nat) "WhiteLine") ∈ q_tbl := tm_1 16 rfl rfl
theorem w17 : (Jvm.Cond.instantiable "WhiteLine" (14 : Nat)) ∈ q_tbl := tm_1 17 rfl rfl
theorem w18 : (Jvm.Cond.methodLink "WhiteLineLaw" (9 : Nat) ({ cls := "WhiteLine", name := "<init>", desc := "()V" } : Jvm.MethodName)) ∈ q_tbl := tm_1 18 rfl rfl
theorem w19 : (Jvm.Cond.instanceMethod ({ cls := "WhiteLine", name := "<init>", desc := "()V" } : Jvm.MethodName)) ∈ q_tbl := tm_1 19 rfl rfl
theorem w20 : (Jvm.Cond.code ({ cls := "WhiteLine", name := "<init>", desc := "()V" } : Jvm.MethodName) prog_1_method_1_code (1 : Nat) (Option.none : Option Jvm.ClassFile.FieldType)) ∈ q_tbl := tm_1 20 rfl rfl
theorem w21 : (Jvm.Cond.methodLink "WhiteLine" (1 : Nat) ({ cls := "java/lang/Object", name := "<init>", desc := "()V" } : Jvm.MethodName)) ∈ q_tbl := tm_1 21 rfl rfl
theorem w22 : (Jvm.Cond.instanceMethod ({ cls := "java/lang/Object", name := "<init>", desc := "()V" } : Jvm.MethodName)) ∈ q_tbl := tm_1 22 rfl rfl
theorem w23 : (Jvm.Cond.code ({ cls := "java/lang/Object", name := "<init>", desc := "()V" } : Jvm.MethodName) object_method_1_code (1 : Nat) (Option.none : Option Jvm.ClassFile.FieldType)) ∈ q_tbl := tm_1 23 rfl rfl
theorem w24 : (Jvm.Cond.classLink "WhiteLine" (17 : Nat) "WhiteLine$RowReader") ∈ q_tbl := tm_1 24 rfl rfl
theorem w25 : (Jvm.Cond.instantiable "WhiteLine$RowReader" (6 : Nat)) ∈ q_tbl := tm_1 25 rfl rfl
theorem w26 : (Jvm.Cond.instanceMethod ({ cls := "WhiteLine$RowReader", name := "<init>", desc := "()V" } : Jvm.MethodName)) ∈ q_tbl := tm_1 27 rfl rfl
theorem w27 : (Jvm.Cond.code ({ cls := "WhiteLine$RowReader", name := "<init>", desc := "()V" } : Jvm.MethodName) prog_10_method_1_code (1 : Nat) (Option.none : Option Jvm.ClassFile.FieldType)) ∈ q_tbl := tm_1 28 rfl rfl
theorem w28 : (Jvm.Cond.methodLink "WhiteLine$RowReader" (3 : Nat) ({ cls := "java/lang/Object", name := "<init>", desc := "()V" } : Jvm.MethodName)) ∈ q_tbl := tm_1 29 rfl rfl
theorem w29 : (Jvm.Cond.fieldLink "WhiteLine$RowReader" (9 : Nat) "WhiteLine$RowReader" "values" "[I") ∈ q_tbl := tm_1 32 rfl rfl
theorem w30 : (Jvm.Cond.fieldLink "WhiteLine$RowReader" (18 : Nat) "WhiteLine$RowReader" "text" "[I") ∈ q_tbl := tm_1 33 rfl rfl
theorem w31 : (Jvm.Cond.fieldLink "WhiteLine$RowReader" (21 : Nat) "WhiteLine$RowReader" "size" "I") ∈ q_tbl := tm_1 34 rfl rfl
theorem w32 : (Jvm.Cond.fieldLink "WhiteLine$RowReader" (25 : Nat) "WhiteLine$RowReader" "at" "I") ∈ q_tbl := tm_1 35 rfl rfl
theorem w33 : (Jvm.Cond.fieldLink "WhiteLine$RowReader" (28 : Nat) "WhiteLine$RowReader" "filled" "I") ∈ q_tbl := tm_1 36 rfl rfl
theorem w34 : (Jvm.Cond.fieldLink "WhiteLine$RowReader" (31 : Nat) "WhiteLine$RowReader" "fault" "I") ∈ q_tbl := tm_1 37 rfl rfl
theorem w35 : (Jvm.Cond.superclass "WhiteLine$RowReader" "java/lang/Object") ∈ q_tbl := tm_1 50 rfl rfl
theorem w36 : (Jvm.Cond.arrayClass Jvm.ClassFile.FieldType.int) ∈ q_tbl := tm_1 51 rfl rfl
theorem w37 : (Jvm.Cond.classLink "WhiteLine" (24 : Nat) "WhiteLine$LawReader") ∈ q_tbl := tm_1 52 rfl rfl
theorem w38 : (Jvm.Cond.instantiable "WhiteLine$LawReader" (5 : Nat)) ∈ q_tbl := tm_1 53 rfl rfl
theorem w39 : (Jvm.Cond.instanceMethod ({ cls := "WhiteLine$LawReader", name := "<init>", desc := "()V" } : Jvm.MethodName)) ∈ q_tbl := tm_1 55 rfl rfl
theorem w40 : (Jvm.Cond.code ({ cls := "WhiteLine$LawReader", name := "<init>", desc := "()V" } : Jvm.MethodName) prog_6_method_1_code (1 : Nat) (Option.none : Option Jvm.ClassFile.FieldType)) ∈ q_tbl := tm_1 56 rfl rfl
theorem w41 : (Jvm.Cond.methodLink "WhiteLine$LawReader" (3 : Nat) ({ cls := "java/lang/Object", name := "<init>", desc := "()V" } : Jvm.MethodName)) ∈ q_tbl := tm_1 57 rfl rfl
theorem w42 : (Jvm.Cond.classLink "WhiteLine$LawReader" (28 : Nat) "WhiteLine$Law") ∈ q_tbl := tm_1 59 rfl rfl
theorem w43 : (Jvm.Cond.instantiable "WhiteLine$Law" (16 : Nat)) ∈ q_tbl := tm_1 60 rfl rfl
theorem w44 : (Jvm.Cond.instanceMethod ({ cls := "WhiteLine$Law", name := "<init>", desc := "()V" } : Jvm.MethodName)) ∈ q_tbl := tm_1 62 rfl rfl
theorem w45 : (Jvm.Cond.code ({ cls := "WhiteLine$Law", name := "<init>", desc := "()V" } : Jvm.MethodName) prog_5_method_1_code (1 : Nat) (Option.none : Option Jvm.ClassFile.FieldType)) ∈ q_tbl := tm_1 63 rfl rfl
theorem w46 : (Jvm.Cond.methodLink "WhiteLine$Law" (3 : Nat) ({ cls := "java/lang/Object", name := "<init>", desc := "()V" } : Jvm.MethodName)) ∈ q_tbl := tm_1 64 rfl rfl
theorem w47 : (Jvm.Cond.fieldLink "WhiteLine$Law" (9 : Nat) "WhiteLine$Law" "clauses" "I") ∈ q_tbl := tm_1 65 rfl rfl
theorem w48 : (Jvm.Cond.fieldLink "WhiteLine" (129 : Nat) "WhiteLine$Law" "clauses" "I") ∈ q_tbl := tm_1 66 rfl rfl
theorem w49 : (Jvm.Cond.fieldLink "WhiteLine$Law" (15 : Nat) "WhiteLine$Law" "steps" "I") ∈ q_tbl := tm_1 67 rfl rfl
theorem w50 : (Jvm.Cond.fieldLink "WhiteLine$Law" (18 : Nat) "WhiteLine$Law" "asksForMinute" "Z") ∈ q_tbl := tm_1 68 rfl rfl
theorem w51 : (Jvm.Cond.fieldLink "WhiteLine" (266 : Nat) "WhiteLine$Law" "asksForMinute" "Z") ∈ q_tbl := tm_1 69 rfl rfl
theorem w52 : (Jvm.Cond.fieldLink "WhiteLine$Law" (22 : Nat) "WhiteLine$Law" "signs" "[I") ∈ q_tbl := tm_1 70 rfl rfl
theorem w53 : (Jvm.Cond.fieldLink "WhiteLine$Law" (26 : Nat) "WhiteLine$Law" "values" "[I") ∈ q_tbl := tm_1 71 rfl rfl
theorem w54 : (Jvm.Cond.fieldLink "WhiteLine$Law" (29 : Nat) "WhiteLine$Law" "letters" "[I") ∈ q_tbl := tm_1 72 rfl rfl
theorem w55 : (Jvm.Cond.fieldLink "WhiteLine$Law" (32 : Nat) "WhiteLine$Law" "worthAt" "[I") ∈ q_tbl := tm_1 73 rfl rfl
theorem w56 : (Jvm.Cond.fieldLink "WhiteLine$Law" (35 : Nat) "WhiteLine$Law" "holdsAt" "[I") ∈ q_tbl := tm_1 74 rfl rfl
theorem w57 : (Jvm.Cond.fieldLink "WhiteLine$Law" (38 : Nat) "WhiteLine$Law" "stack" "[I") ∈ q_tbl := tm_1 75 rfl rfl
theorem w58 : (Jvm.Cond.fieldLink "WhiteLine$Law" (41 : Nat) "WhiteLine$Law" "top" "I") ∈ q_tbl := tm_1 76 rfl rfl
theorem w59 : (Jvm.Cond.fieldLink "WhiteLine$Law" (44 : Nat) "WhiteLine$Law" "isRefused" "Z") ∈ q_tbl := tm_1 77 rfl rfl
theorem w60 : (Jvm.Cond.fieldLink "WhiteLine$Law" (47 : Nat) "WhiteLine$Law" "road" "LWhiteLine$Road;") ∈ q_tbl := tm_1 78 rfl rfl
theorem w61 : (Jvm.Cond.fieldLink "WhiteLine$Law" (51 : Nat) "WhiteLine$Law" "dot" "I") ∈ q_tbl := tm_1 79 rfl rfl
theorem w62 : (Jvm.Cond.fieldLink "WhiteLine$Law" (54 : Nat) "WhiteLine$Law" "minute" "I") ∈ q_tbl := tm_1 80 rfl rfl
theorem w63 : (Jvm.Cond.fieldLink "WhiteLine$Law" (57 : Nat) "WhiteLine$Law" "party" "I") ∈ q_tbl := tm_1 81 rfl rfl
theorem w64 : (Jvm.Cond.fieldLink "WhiteLine$Law" (60 : Nat) "WhiteLine$Law" "rain" "I") ∈ q_tbl := tm_1 82 rfl rfl
theorem w65 : (Jvm.Cond.superclass "WhiteLine$Law" "java/lang/Object") ∈ q_tbl := tm_1 115 rfl rfl
theorem w66 : (Jvm.Cond.fieldLink "WhiteLine$LawReader" (13 : Nat) "WhiteLine$LawReader" "text" "[I") ∈ q_tbl := tm_1 116 rfl rfl
theorem w67 : (Jvm.Cond.fieldLink "WhiteLine$LawReader" (18 : Nat) "WhiteLine$LawReader" "size" "I") ∈ q_tbl := tm_1 117 rfl rfl
theorem w68 : (Jvm.Cond.fieldLink "WhiteLine$LawReader" (22 : Nat) "WhiteLine$LawReader" "at" "I") ∈ q_tbl := tm_1 118 rfl rfl
theorem w69 : (Jvm.Cond.fieldLink "WhiteLine$LawReader" (25 : Nat) "WhiteLine$LawReader" "fault" "I") ∈ q_tbl := tm_1 119 rfl rfl
theorem w70 : (Jvm.Cond.fieldLink "WhiteLine$LawReader" (31 : Nat) "WhiteLine$LawReader" "law" "LWhiteLine$Law;") ∈ q_tbl := tm_1 120 rfl rfl
theorem w71 : (Jvm.Cond.fieldLink "WhiteLine" (126 : Nat) "WhiteLine$LawReader" "law" "LWhiteLine$Law;") ∈ q_tbl := tm_1 121 rfl rfl
theorem w72 : (Jvm.Cond.superclass "WhiteLine$LawReader" "java/lang/Object") ∈ q_tbl := tm_1 132 rfl rfl
theorem w73 : (Jvm.Cond.classLink "WhiteLine" (31 : Nat) "WhiteLine$Law") ∈ q_tbl := tm_1 133 rfl rfl
theorem w74 : (Jvm.Cond.classLink "WhiteLine" (38 : Nat) "WhiteLine$Road") ∈ q_tbl := tm_1 135 rfl rfl
theorem w75 : (Jvm.Cond.instantiable "WhiteLine$Road" (18 : Nat)) ∈ q_tbl := tm_1 136 rfl rfl
theorem w76 : (Jvm.Cond.methodLink "WhiteLine" (40 : Nat) ({ cls := "WhiteLine$Road", name := "<init>", desc := "()V" } : Jvm.MethodName)) ∈ q_tbl := tm_1 137 rfl rfl
theorem w77 : (Jvm.Cond.instanceMethod ({ cls := "WhiteLine$Road", name := "<init>", desc := "()V" } : Jvm.MethodName)) ∈ q_tbl := tm_1 138 rfl rfl
theorem w78 : (Jvm.Cond.code ({ cls := "WhiteLine$Road", name := "<init>", desc := "()V" } : Jvm.MethodName) prog_9_method_1_code (2 : Nat) (Option.none : Option Jvm.ClassFile.FieldType)) ∈ q_tbl := tm_1 139 rfl rfl
theorem w79 : (Jvm.Cond.methodLink "WhiteLine$Road" (3 : Nat) ({ cls := "java/lang/Object", name := "<init>", desc := "()V" } : Jvm.MethodName)) ∈ q_tbl := tm_1 140 rfl rfl
theorem w80 : (Jvm.Cond.methodLink "WhiteLine$Road" (68 : Nat) ({ cls := "WhiteLine$Road", name := "layAnew", desc := "(I)V" } : Jvm.MethodName)) ∈ q_tbl := tm_1 141 rfl rfl
theorem w81 : (Jvm.Cond.instanceMethod ({ cls := "WhiteLine$Road", name := "layAnew", desc := "(I)V" } : Jvm.MethodName)) ∈ q_tbl := tm_1 142 rfl rfl
theorem w82 : (Jvm.Cond.selects "WhiteLine$Road" ({ cls := "WhiteLine$Road", name := "layAnew", desc := "(I)V" } : Jvm.MethodName) ({ cls := "WhiteLine$Road", name := "layAnew", desc := "(I)V" } : Jvm.MethodName)) ∈ q_tbl := tm_1 143 rfl rfl
theorem w83 : (Jvm.Cond.code ({ cls := "WhiteLine$Road", name := "layAnew", desc := "(I)V" } : Jvm.MethodName) prog_9_method_2_code (3 : Nat) (Option.none : Option Jvm.ClassFile.FieldType)) ∈ q_tbl := tm_1 144 rfl rfl
theorem w84 : (Jvm.Cond.methodLink "WhiteLine$Road" (72 : Nat) ({ cls := "WhiteLine$Road", name := "makeBare", desc := "(I)V" } : Jvm.MethodName)) ∈ q_tbl := tm_1 145 rfl rfl
theorem w85 : (Jvm.Cond.instanceMethod ({ cls := "WhiteLine$Road", name := "makeBare", desc := "(I)V" } : Jvm.MethodName)) ∈ q_tbl := tm_1 146 rfl rfl
theorem w86 : (Jvm.Cond.selects "WhiteLine$Road" ({ cls := "WhiteLine$Road", name := "makeBare", desc := "(I)V" } : Jvm.MethodName) ({ cls := "WhiteLine$Road", name := "makeBare", desc := "(I)V" } : Jvm.MethodName)) ∈ q_tbl := tm_1 147 rfl rfl
theorem w87 : (Jvm.Cond.code ({ cls := "WhiteLine$Road", name := "makeBare", desc := "(I)V" } : Jvm.MethodName) prog_9_method_12_code (3 : Nat) (Option.none : Option Jvm.ClassFile.FieldType)) ∈ q_tbl := tm_1 148 rfl rfl
theorem w88 : (Jvm.Cond.fieldLink "WhiteLine$Road" (9 : Nat) "WhiteLine$Road" "dots" "I") ∈ q_tbl := tm_1 149 rfl rfl
theorem w89 : (Jvm.Cond.fieldLink "WhiteLine$Fit" (27 : Nat) "WhiteLine$Road" "dots" "I") ∈ q_tbl := tm_1 150 rfl rfl
theorem w90 : (Jvm.Cond.fieldLink "WhiteLine$Stretches" (20 : Nat) "WhiteLine$Road" "dots" "I") ∈ q_tbl := tm_1 151 rfl rfl
theorem w91 : (Jvm.Cond.fieldLink "WhiteLine$Plan" (34 : Nat) "WhiteLine$Road" "dots" "I") ∈ q_tbl := tm_1 152 rfl rfl
theorem w92 : (Jvm.Cond.fieldLink "WhiteLine$Sight" (19 : Nat) "WhiteLine$Road" "dots" "I") ∈ q_tbl := tm_1 153 rfl rfl
theorem w93 : (Jvm.Cond.fieldLink "WhiteLine$Driver" (47 : Nat) "WhiteLine$Road" "dots" "I") ∈ q_tbl := tm_1 154 rfl rfl
theorem w94 : (Jvm.Cond.fieldLink "WhiteLine" (98 : Nat) "WhiteLine$Road" "dots" "I") ∈ q_tbl := tm_1 155 rfl rfl
theorem w95 : (Jvm.Cond.fieldLink "WhiteLine$Night" (83 : Nat) "WhiteLine$Road" "dots" "I") ∈ q_tbl := tm_1 156 rfl rfl
theorem w96 : (Jvm.Cond.fieldLink "WhiteLine$Law" (94 : Nat) "WhiteLine$Road" "dots" "I") ∈ q_tbl := tm_1 157 rfl rfl
theorem w97 : (Jvm.Cond.fieldLink "WhiteLine$Road" (15 : Nat) "WhiteLine$Road" "kerb" "[I") ∈ q_tbl := tm_1 158 rfl rfl
theorem w98 : (Jvm.Cond.fieldLink "WhiteLine$Fit" (43 : Nat) "WhiteLine$Road" "kerb" "[I") ∈ q_tbl := tm_1 159 rfl rfl
theorem w99 : (Jvm.Cond.fieldLink "WhiteLine$Driver" (53 : Nat) "WhiteLine$Road" "kerb" "[I") ∈ q_tbl := tm_1 160 rfl rfl
theorem w100 : (Jvm.Cond.fieldLink "WhiteLine$Law" (99 : Nat) "WhiteLine$Road" "kerb" "[I") ∈ q_tbl := tm_1 161 rfl rfl
theorem w101 : (Jvm.Cond.fieldLink "WhiteLine" (187 : Nat) "WhiteLine$Road" "kerb" "[I") ∈ q_tbl := tm_1 162 rfl rfl
theorem w102 : (Jvm.Cond.fieldLink "WhiteLine$Road" (19 : Nat) "WhiteLine$Road" "height" "[I") ∈ q_tbl := tm_1 163 rfl rfl
theorem w103 : (Jvm.Cond.fieldLink "WhiteLine$Sight" (9 : Nat) "WhiteLine$Road" "height" "[I") ∈ q_tbl := tm_1 164 rfl rfl
theorem w104 : (Jvm.Cond.fieldLink "WhiteLine$Law" (102 : Nat) "WhiteLine$Road" "height" "[I") ∈ q_tbl := tm_1 165 rfl rfl
theorem w105 : (Jvm.Cond.fieldLink "WhiteLine" (190 : Nat) "WhiteLine$Road" "height" "[I") ∈ q_tbl := tm_1 166 rfl rfl
theorem w106 : (Jvm.Cond.fieldLink "WhiteLine$Road" (22 : Nat) "WhiteLine$Road" "wear" "[I") ∈ q_tbl := tm_1 167 rfl rfl
theorem w107 : (Jvm.Cond.fieldLink "WhiteLine$Stretches" (39 : Nat) "WhiteLine$Road" "wear" "[I") ∈ q_tbl := tm_1 168 rfl rfl
theorem w108 : (Jvm.Cond.fieldLink "WhiteLine$Law" (105 : Nat) "WhiteLine$Road" "wear" "[I") ∈ q_tbl := tm_1 169 rfl rfl
theorem w109 : (Jvm.Cond.fieldLink "WhiteLine" (193 : Nat) "WhiteLine$Road" "wear" "[I") ∈ q_tbl := tm_1 170 rfl rfl
theorem w110 : (Jvm.Cond.fieldLink "WhiteLine$Road" (25 : Nat) "WhiteLine$Road" "oldLine" "[I") ∈ q_tbl := tm_1 171 rfl rfl
theorem w111 : (Jvm.Cond.fieldLink "WhiteLine$Driver" (25 : Nat) "WhiteLine$Road" "oldLine" "[I") ∈ q_tbl := tm_1 172 rfl rfl
theorem w112 : (Jvm.Cond.fieldLink "WhiteLine" (117 : Nat) "WhiteLine$Road" "oldLine" "[I") ∈ q_tbl := tm_1 173 rfl rfl
theorem w113 : (Jvm.Cond.fieldLink "WhiteLine$Road" (28 : Nat) "WhiteLine$Road" "line" "[I") ∈ q_tbl := tm_1 174 rfl rfl
theorem w114 : (Jvm.Cond.fieldLink "WhiteLine$Driver" (50 : Nat) "WhiteLine$Road" "line" "[I") ∈ q_tbl := tm_1 175 rfl rfl
theorem w115 : (Jvm.Cond.fieldLink "WhiteLine$Night" (64 : Nat) "WhiteLine$Road" "line" "[I") ∈ q_tbl := tm_1 176 rfl rfl
theorem w116 : (Jvm.Cond.fieldLink "WhiteLine" (200 : Nat) "WhiteLine$Road" "line" "[I") ∈ q_tbl := tm_1 177 rfl rfl
theorem w117 : (Jvm.Cond.fieldLink "WhiteLine$Road" (31 : Nat) "WhiteLine$Road" "ends" "[I") ∈ q_tbl := tm_1 178 rfl rfl
theorem w118 : (Jvm.Cond.fieldLink "WhiteLine$Night" (71 : Nat) "WhiteLine$Road" "ends" "[I") ∈ q_tbl := tm_1 179 rfl rfl
theorem w119 : (Jvm.Cond.fieldLink "WhiteLine$Driver" (106 : Nat) "WhiteLine$Road" "ends" "[I") ∈ q_tbl := tm_1 180 rfl rfl
theorem w120 : (Jvm.Cond.fieldLink "WhiteLine" (203 : Nat) "WhiteLine$Road" "ends" "[I") ∈ q_tbl := tm_1 181 rfl rfl
theorem w121 : (Jvm.Cond.fieldLink "WhiteLine$Road" (34 : Nat) "WhiteLine$Road" "dries" "[I") ∈ q_tbl := tm_1 182 rfl rfl
theorem w122 : (Jvm.Cond.fieldLink "WhiteLine$Night" (74 : Nat) "WhiteLine$Road" "dries" "[I") ∈ q_tbl := tm_1 183 rfl rfl
theorem w123 : (Jvm.Cond.fieldLink "WhiteLine$Driver" (82 : Nat) "WhiteLine$Road" "dries" "[I") ∈ q_tbl := tm_1 184 rfl rfl
theorem w124 : (Jvm.Cond.fieldLink "WhiteLine$Road" (37 : Nat) "WhiteLine$Road" "spoiltBy" "[I") ∈ q_tbl := tm_1 185 rfl rfl
theorem w125 : (Jvm.Cond.fieldLink "WhiteLine$Driver" (99 : Nat) "WhiteLine$Road" "spoiltBy" "[I") ∈ q_tbl := tm_1 186 rfl rfl
theorem w126 : (Jvm.Cond.fieldLink "WhiteLine" (206 : Nat) "WhiteLine$Road" "spoiltBy" "[I") ∈ q_tbl := tm_1 187 rfl rfl
theorem w127 : (Jvm.Cond.fieldLink "WhiteLine$Road" (40 : Nat) "WhiteLine$Road" "works" "[Z") ∈ q_tbl := tm_1 188 rfl rfl
theorem w128 : (Jvm.Cond.fieldLink "WhiteLine$Night" (32 : Nat) "WhiteLine$Road" "works" "[Z") ∈ q_tbl := tm_1 189 rfl rfl
theorem w129 : (Jvm.Cond.fieldLink "WhiteLine" (138 : Nat) "WhiteLine$Road" "works" "[Z") ∈ q_tbl := tm_1 190 rfl rfl
theorem w130 : (Jvm.Cond.fieldLink "WhiteLine$Road" (44 : Nat) "WhiteLine$Road" "paints" "[I") ∈ q_tbl := tm_1 191 rfl rfl
theorem w131 : (Jvm.Cond.fieldLink "WhiteLine$Night" (36 : Nat) "WhiteLine$Road" "paints" "[I") ∈ q_tbl := tm_1 192 rfl rfl
theorem w132 : (Jvm.Cond.fieldLink "WhiteLine" (132 : Nat) "WhiteLine$Road" "paints" "[I") ∈ q_tbl := tm_1 193 rfl rfl
theorem w133 : (Jvm.Cond.fieldLink "WhiteLine$Road" (47 : Nat) "WhiteLine$Road" "minutesLeft" "[I") ∈ q_tbl := tm_1 194 rfl rfl
theorem w134 : (Jvm.Cond.fieldLink "WhiteLine$Night" (51 : Nat) "WhiteLine$Road" "minutesLeft" "[I") ∈ q_tbl := tm_1 195 rfl rfl
theorem w135 : (Jvm.Cond.fieldLink "WhiteLine$Road" (50 : Nat) "WhiteLine$Road" "offsets" "[I") ∈ q_tbl := tm_1 196 rfl rfl
theorem w136 : (Jvm.Cond.fieldLink "WhiteLine" (142 : Nat) "WhiteLine$Road" "offsets" "[I") ∈ q_tbl := tm_1 197 rfl rfl
theorem w137 : (Jvm.Cond.fieldLink "WhiteLine$Road" (53 : Nat) "WhiteLine$Road" "carWays" "[I") ∈ q_tbl := tm_1 198 rfl rfl
theorem w138 : (Jvm.Cond.fieldLink "WhiteLine$Night" (80 : Nat) "WhiteLine$Road" "carWays" "[I") ∈ q_tbl := tm_1 199 rfl rfl
theorem w139 : (Jvm.Cond.fieldLink "WhiteLine" (145 : Nat) "WhiteLine$Road" "carWays" "[I") ∈ q_tbl := tm_1 200 rfl rfl
theorem w140 : (Jvm.Cond.fieldLink "WhiteLine$Road" (56 : Nat) "WhiteLine$Road" "carMinutes" "[I") ∈ q_tbl := tm_1 201 rfl rfl
theorem w141 : (Jvm.Cond.fieldLink "WhiteLine$Night" (77 : Nat) "WhiteLine$Road" "carMinutes" "[I") ∈ q_tbl := tm_1 202 rfl rfl
theorem w142 : (Jvm.Cond.fieldLink "WhiteLine" (148 : Nat) "WhiteLine$Road" "carMinutes" "[I") ∈ q_tbl := tm_1 203 rfl rfl
theorem w143 : (Jvm.Cond.fieldLink "WhiteLine$Road" (59 : Nat) "WhiteLine$Road" "coneCount" "I") ∈ q_tbl := tm_1 204 rfl rfl
theorem w144 : (Jvm.Cond.fieldLink "WhiteLine$Night" (48 : Nat) "WhiteLine$Road" "coneCount" "I") ∈ q_tbl := tm_1 205 rfl rfl
theorem w145 : (Jvm.Cond.fieldLink "WhiteLine" (151 : Nat) "WhiteLine$Road" "coneCount" "I") ∈ q_tbl := tm_1 206 rfl rfl
theorem w146 : (Jvm.Cond.fieldLink "WhiteLine$Road" (62 : Nat) "WhiteLine$Road" "dewMinute" "I") ∈ q_tbl := tm_1 207 rfl rfl
theorem w147 : (Jvm.Cond.fieldLink "WhiteLine$Night" (96 : Nat) "WhiteLine$Road" "dewMinute" "I") ∈ q_tbl := tm_1 208 rfl rfl
theorem w148 : (Jvm.Cond.fieldLink "WhiteLine" (154 : Nat) "WhiteLine$Road" "dewMinute" "I") ∈ q_tbl := tm_1 209 rfl rfl
theorem w149 : (Jvm.Cond.fieldLink "WhiteLine$Road" (65 : Nat) "WhiteLine$Road" "minute" "I") ∈ q_tbl := tm_1 210 rfl rfl
theorem w150 : (Jvm.Cond.fieldLink "WhiteLine$Night" (9 : Nat) "WhiteLine$Road" "minute" "I") ∈ q_tbl := tm_1 211 rfl rfl
theorem w151 : (Jvm.Cond.fieldLink "WhiteLine$Driver" (31 : Nat) "WhiteLine$Road" "minute" "I") ∈ q_tbl := tm_1 212 rfl rfl
theorem w152 : (Jvm.Cond.fieldLink "WhiteLine$Sight" (29 : Nat) "WhiteLine$Road" "minute" "I") ∈ q_tbl := tm_1 213 rfl rfl
theorem w153 : (Jvm.Cond.fieldLink "WhiteLine" (334 : Nat) "WhiteLine$Road" "minute" "I") ∈ q_tbl := tm_1 214 rfl rfl
theorem w154 : (Jvm.Cond.superclass "WhiteLine$Road" "java/lang/Object") ∈ q_tbl := tm_2 11 rfl rfl
theorem w155 : (Jvm.Cond.arrayClass Jvm.ClassFile.FieldType.boolean) ∈ q_tbl := tm_2 12 rfl rfl
theorem w156 : (Jvm.Cond.classLink "WhiteLine" (55 : Nat) "WhiteLine$Plan") ∈ q_tbl := tm_2 13 rfl rfl
theorem w157 : (Jvm.Cond.instantiable "WhiteLine$Plan" (7 : Nat)) ∈ q_tbl := tm_2 14 rfl rfl
theorem w158 : (Jvm.Cond.instanceMethod ({ cls := "WhiteLine$Plan", name := "<init>", desc := "()V" } : Jvm.MethodName)) ∈ q_tbl := tm_2 16 rfl rfl
theorem w159 : (Jvm.Cond.code ({ cls := "WhiteLine$Plan", name := "<init>", desc := "()V" } : Jvm.MethodName) prog_8_method_1_code (1 : Nat) (Option.none : Option Jvm.ClassFile.FieldType)) ∈ q_tbl := tm_2 17 rfl rfl
theorem w160 : (Jvm.Cond.methodLink "WhiteLine$Plan" (3 : Nat) ({ cls := "java/lang/Object", name := "<init>", desc := "()V" } : Jvm.MethodName)) ∈ q_tbl := tm_2 18 rfl rfl
theorem w161 : (Jvm.Cond.fieldLink "WhiteLine$Plan" (9 : Nat) "WhiteLine$Plan" "began" "[I") ∈ q_tbl := tm_2 19 rfl rfl
theorem w162 : (Jvm.Cond.fieldLink "WhiteLine$Plan" (15 : Nat) "WhiteLine$Plan" "dryAt" "[I") ∈ q_tbl := tm_2 20 rfl rfl
theorem w163 : (Jvm.Cond.fieldLink "WhiteLine$Plan" (18 : Nat) "WhiteLine$Plan" "freeAt" "[I") ∈ q_tbl := tm_2 21 rfl rfl
theorem w164 : (Jvm.Cond.fieldLink "WhiteLine$Plan" (21 : Nat) "WhiteLine$Plan" "allDry" "I") ∈ q_tbl := tm_2 22 rfl rfl
theorem w165 : (Jvm.Cond.fieldLink "WhiteLine" (257 : Nat) "WhiteLine$Plan" "allDry" "I") ∈ q_tbl := tm_2 23 rfl rfl
theorem w166 : (Jvm.Cond.fieldLink "WhiteLine$Plan" (25 : Nat) "WhiteLine$Plan" "lastEnd" "I") ∈ q_tbl := tm_2 24 rfl rfl
theorem w167 : (Jvm.Cond.fieldLink "WhiteLine" (275 : Nat) "WhiteLine$Plan" "lastEnd" "I") ∈ q_tbl := tm_2 25 rfl rfl
theorem w168 : (Jvm.Cond.fieldLink "WhiteLine$Plan" (28 : Nat) "WhiteLine$Plan" "lastDot" "I") ∈ q_tbl := tm_2 26 rfl rfl
theorem w169 : (Jvm.Cond.fieldLink "WhiteLine" (263 : Nat) "WhiteLine$Plan" "lastDot" "I") ∈ q_tbl := tm_2 27 rfl rfl
theorem w170 : (Jvm.Cond.fieldLink "WhiteLine$Plan" (31 : Nat) "WhiteLine$Plan" "highestOfFirst" "I") ∈ q_tbl := tm_2 28 rfl rfl
theorem w171 : (Jvm.Cond.fieldLink "WhiteLine" (272 : Nat) "WhiteLine$Plan" "highestOfFirst" "I") ∈ q_tbl := tm_2 29 rfl rfl
theorem w172 : (Jvm.Cond.superclass "WhiteLine$Plan" "java/lang/Object") ∈ q_tbl := tm_2 44 rfl rfl
theorem w173 : (Jvm.Cond.classLink "WhiteLine" (62 : Nat) "WhiteLine$Fit") ∈ q_tbl := tm_2 45 rfl rfl
theorem w174 : (Jvm.Cond.instantiable "WhiteLine$Fit" (5 : Nat)) ∈ q_tbl := tm_2 46 rfl rfl
theorem w175 : (Jvm.Cond.instanceMethod ({ cls := "WhiteLine$Fit", name := "<init>", desc := "()V" } : Jvm.MethodName)) ∈ q_tbl := tm_2 48 rfl rfl
theorem w176 : (Jvm.Cond.code ({ cls := "WhiteLine$Fit", name := "<init>", desc := "()V" } : Jvm.MethodName) prog_3_method_1_code (1 : Nat) (Option.none : Option Jvm.ClassFile.FieldType)) ∈ q_tbl := tm_2 49 rfl rfl
theorem w177 : (Jvm.Cond.methodLink "WhiteLine$Fit" (3 : Nat) ({ cls := "java/lang/Object", name := "<init>", desc := "()V" } : Jvm.MethodName)) ∈ q_tbl := tm_2 50 rfl rfl
theorem w178 : (Jvm.Cond.fieldLink "WhiteLine$Fit" (11 : Nat) "WhiteLine$Fit" "offHere" "[I") ∈ q_tbl := tm_2 51 rfl rfl
theorem w179 : (Jvm.Cond.fieldLink "WhiteLine$Fit" (15 : Nat) "WhiteLine$Fit" "offBehind" "[I") ∈ q_tbl := tm_2 52 rfl rfl
theorem w180 : (Jvm.Cond.fieldLink "WhiteLine$Fit" (18 : Nat) "WhiteLine$Fit" "bestAt" "[I") ∈ q_tbl := tm_2 53 rfl rfl
theorem w181 : (Jvm.Cond.fieldLink "WhiteLine$Fit" (21 : Nat) "WhiteLine$Fit" "pinsBehind" "[I") ∈ q_tbl := tm_2 54 rfl rfl
theorem w182 : (Jvm.Cond.fieldLink "WhiteLine$Fit" (24 : Nat) "WhiteLine$Fit" "chosen" "[I") ∈ q_tbl := tm_2 55 rfl rfl
theorem w183 : (Jvm.Cond.fieldLink "WhiteLine" (219 : Nat) "WhiteLine$Fit" "chosen" "[I") ∈ q_tbl := tm_2 56 rfl rfl
theorem w184 : (Jvm.Cond.superclass "WhiteLine$Fit" "java/lang/Object") ∈ q_tbl := tm_2 67 rfl rfl
theorem w185 : (Jvm.Cond.classLink "WhiteLine" (69 : Nat) "WhiteLine$Driver") ∈ q_tbl := tm_2 68 rfl rfl
theorem w186 : (Jvm.Cond.instantiable "WhiteLine$Driver" (4 : Nat)) ∈ q_tbl := tm_2 69 rfl rfl
theorem w187 : (Jvm.Cond.instanceMethod ({ cls := "WhiteLine$Driver", name := "<init>", desc := "()V" } : Jvm.MethodName)) ∈ q_tbl := tm_2 71 rfl rfl
theorem w188 : (Jvm.Cond.code ({ cls := "WhiteLine$Driver", name := "<init>", desc := "()V" } : Jvm.MethodName) prog_2_method_1_code (1 : Nat) (Option.none : Option Jvm.ClassFile.FieldType)) ∈ q_tbl := tm_2 72 rfl rfl
theorem w189 : (Jvm.Cond.methodLink "WhiteLine$Driver" (3 : Nat) ({ cls := "java/lang/Object", name := "<init>", desc := "()V" } : Jvm.MethodName)) ∈ q_tbl := tm_2 73 rfl rfl
theorem w190 : (Jvm.Cond.fieldLink "WhiteLine$Driver" (9 : Nat) "WhiteLine$Driver" "isLost" "[Z") ∈ q_tbl := tm_2 74 rfl rfl
theorem w191 : (Jvm.Cond.fieldLink "WhiteLine$Driver" (15 : Nat) "WhiteLine$Driver" "suspects" "I") ∈ q_tbl := tm_2 75 rfl rfl
theorem w192 : (Jvm.Cond.fieldLink "WhiteLine" (325 : Nat) "WhiteLine$Driver" "suspects" "I") ∈ q_tbl := tm_2 76 rfl rfl
theorem w193 : (Jvm.Cond.fieldLink "WhiteLine$Driver" (19 : Nat) "WhiteLine$Driver" "firstMinute" "I") ∈ q_tbl := tm_2 77 rfl rfl
theorem w194 : (Jvm.Cond.fieldLink "WhiteLine" (328 : Nat) "WhiteLine$Driver" "firstMinute" "I") ∈ q_tbl := tm_2 78 rfl rfl
theorem w195 : (Jvm.Cond.fieldLink "WhiteLine$Driver" (22 : Nat) "WhiteLine$Driver" "firstWay" "I") ∈ q_tbl := tm_2 79 rfl rfl
theorem w196 : (Jvm.Cond.fieldLink "WhiteLine" (331 : Nat) "WhiteLine$Driver" "firstWay" "I") ∈ q_tbl := tm_2 80 rfl rfl
theorem w197 : (Jvm.Cond.superclass "WhiteLine$Driver" "java/lang/Object") ∈ q_tbl := tm_2 89 rfl rfl
theorem w198 : (Jvm.Cond.classLink "WhiteLine" (76 : Nat) "WhiteLine$Stretches") ∈ q_tbl := tm_2 90 rfl rfl
theorem w199 : (Jvm.Cond.instantiable "WhiteLine$Stretches" (2 : Nat)) ∈ q_tbl := tm_2 91 rfl rfl
theorem w200 : (Jvm.Cond.instanceMethod ({ cls := "WhiteLine$Stretches", name := "<init>", desc := "()V" } : Jvm.MethodName)) ∈ q_tbl := tm_2 93 rfl rfl
theorem w201 : (Jvm.Cond.code ({ cls := "WhiteLine$Stretches", name := "<init>", desc := "()V" } : Jvm.MethodName) prog_12_method_1_code (1 : Nat) (Option.none : Option Jvm.ClassFile.FieldType)) ∈ q_tbl := tm_2 94 rfl rfl
theorem w202 : (Jvm.Cond.methodLink "WhiteLine$Stretches" (3 : Nat) ({ cls := "java/lang/Object", name := "<init>", desc := "()V" } : Jvm.MethodName)) ∈ q_tbl := tm_2 95 rfl rfl
theorem w203 : (Jvm.Cond.classLink "WhiteLine$Stretches" (9 : Nat) "[[I") ∈ q_tbl := tm_2 96 rfl rfl
theorem w204 : (Jvm.Cond.fieldLink "WhiteLine$Stretches" (11 : Nat) "WhiteLine$Stretches" "most" "[[I") ∈ q_tbl := tm_2 98 rfl rfl
theorem w205 : (Jvm.Cond.fieldLink "WhiteLine$Stretches" (16 : Nat) "WhiteLine$Stretches" "starts" "[I") ∈ q_tbl := tm_2 99 rfl rfl
theorem w206 : (Jvm.Cond.fieldLink "WhiteLine" (319 : Nat) "WhiteLine$Stretches" "starts" "[I") ∈ q_tbl := tm_2 100 rfl rfl
theorem w207 : (Jvm.Cond.superclass "WhiteLine$Stretches" "java/lang/Object") ∈ q_tbl := tm_2 105 rfl rfl
theorem w208 : (Jvm.Cond.classLink "WhiteLine" (83 : Nat) "WhiteLine$Lane") ∈ q_tbl := tm_2 106 rfl rfl
theorem w209 : (Jvm.Cond.instantiable "WhiteLine$Lane" (4 : Nat)) ∈ q_tbl := tm_2 107 rfl rfl
theorem w210 : (Jvm.Cond.instanceMethod ({ cls := "WhiteLine$Lane", name := "<init>", desc := "()V" } : Jvm.MethodName)) ∈ q_tbl := tm_2 109 rfl rfl
theorem w211 : (Jvm.Cond.code ({ cls := "WhiteLine$Lane", name := "<init>", desc := "()V" } : Jvm.MethodName) prog_4_method_1_code (1 : Nat) (Option.none : Option Jvm.ClassFile.FieldType)) ∈ q_tbl := tm_2 110 rfl rfl
theorem w212 : (Jvm.Cond.methodLink "WhiteLine$Lane" (3 : Nat) ({ cls := "java/lang/Object", name := "<init>", desc := "()V" } : Jvm.MethodName)) ∈ q_tbl := tm_2 111 rfl rfl
theorem w213 : (Jvm.Cond.fieldLink "WhiteLine$Lane" (9 : Nat) "WhiteLine$Lane" "cars" "I") ∈ q_tbl := tm_2 112 rfl rfl
theorem w214 : (Jvm.Cond.fieldLink "WhiteLine$Lane" (15 : Nat) "WhiteLine$Lane" "came" "[I") ∈ q_tbl := tm_2 113 rfl rfl
theorem w215 : (Jvm.Cond.fieldLink "WhiteLine$Lane" (19 : Nat) "WhiteLine$Lane" "side" "[I") ∈ q_tbl := tm_2 114 rfl rfl
theorem w216 : (Jvm.Cond.fieldLink "WhiteLine$Lane" (22 : Nat) "WhiteLine$Lane" "freeAt" "[I") ∈ q_tbl := tm_2 115 rfl rfl
theorem w217 : (Jvm.Cond.superclass "WhiteLine$Lane" "java/lang/Object") ∈ q_tbl := tm_2 124 rfl rfl
theorem w218 : (Jvm.Cond.fieldLink "WhiteLine" (9 : Nat) "WhiteLine" "tape" "[I") ∈ q_tbl := tm_2 125 rfl rfl
theorem w219 : (Jvm.Cond.fieldLink "WhiteLine" (13 : Nat) "WhiteLine" "tapeSize" "I") ∈ q_tbl := tm_2 126 rfl rfl
theorem w220 : (Jvm.Cond.fieldLink "WhiteLine" (20 : Nat) "WhiteLine" "rowReader" "LWhiteLine$RowReader;") ∈ q_tbl := tm_2 127 rfl rfl
theorem w221 : (Jvm.Cond.fieldLink "WhiteLine" (27 : Nat) "WhiteLine" "lawReader" "LWhiteLine$LawReader;") ∈ q_tbl := tm_2 128 rfl rfl
theorem w222 : (Jvm.Cond.fieldLink "WhiteLine" (34 : Nat) "WhiteLine" "inForce" "LWhiteLine$Law;") ∈ q_tbl := tm_2 129 rfl rfl
theorem w223 : (Jvm.Cond.fieldLink "WhiteLine" (41 : Nat) "WhiteLine" "now" "LWhiteLine$Road;") ∈ q_tbl := tm_2 130 rfl rfl
theorem w224 : (Jvm.Cond.fieldLink "WhiteLine" (45 : Nat) "WhiteLine" "kept" "LWhiteLine$Road;") ∈ q_tbl := tm_2 131 rfl rfl
theorem w225 : (Jvm.Cond.fieldLink "WhiteLine" (48 : Nat) "WhiteLine" "trial" "LWhiteLine$Road;") ∈ q_tbl := tm_2 132 rfl rfl
theorem w226 : (Jvm.Cond.fieldLink "WhiteLine" (51 : Nat) "WhiteLine" "isKept" "Z") ∈ q_tbl := tm_2 133 rfl rfl
theorem w227 : (Jvm.Cond.fieldLink "WhiteLine" (58 : Nat) "WhiteLine" "plan" "LWhiteLine$Plan;") ∈ q_tbl := tm_2 134 rfl rfl
theorem w228 : (Jvm.Cond.fieldLink "WhiteLine" (65 : Nat) "WhiteLine" "fit" "LWhiteLine$Fit;") ∈ q_tbl := tm_2 135 rfl rfl
theorem w229 : (Jvm.Cond.fieldLink "WhiteLine" (72 : Nat) "WhiteLine" "driver" "LWhiteLine$Driver;") ∈ q_tbl := tm_2 136 rfl rfl
theorem w230 : (Jvm.Cond.fieldLink "WhiteLine" (79 : Nat) "WhiteLine" "stretches" "LWhiteLine$Stretches;") ∈ q_tbl := tm_2 137 rfl rfl
theorem w231 : (Jvm.Cond.fieldLink "WhiteLine" (86 : Nat) "WhiteLine" "lane" "LWhiteLine$Lane;") ∈ q_tbl := tm_2 138 rfl rfl
theorem w232 : (Jvm.Cond.superclass "WhiteLine" "java/lang/Object") ∈ q_tbl := tm_2 167 rfl rfl
theorem w233 : (Jvm.Cond.methodLink "WhiteLineLaw" (13 : Nat) ({ cls := "WhiteLine", name := "road", desc := "(I)Z" } : Jvm.MethodName)) ∈ q_tbl := tm_2 168 rfl rfl
theorem w234 : (Jvm.Cond.instanceMethod ({ cls := "WhiteLine", name := "road", desc := "(I)Z" } : Jvm.MethodName)) ∈ q_tbl := tm_2 169 rfl rfl
theorem w235 : (Jvm.Cond.selects "WhiteLine" ({ cls := "WhiteLine", name := "road", desc := "(I)Z" } : Jvm.MethodName) ({ cls := "WhiteLine", name := "road", desc := "(I)Z" } : Jvm.MethodName)) ∈ q_tbl := tm_2 170 rfl rfl
theorem w236 : (Jvm.Cond.code ({ cls := "WhiteLine", name := "road", desc := "(I)Z" } : Jvm.MethodName) prog_1_method_2_code (2 : Nat) (Option.some Jvm.ClassFile.FieldType.boolean)) ∈ q_tbl := tm_2 171 rfl rfl
theorem w237 : (Jvm.Cond.methodLink "WhiteLine" (90 : Nat) ({ cls := "WhiteLine", name := "isIn", desc := "(III)Z" } : Jvm.MethodName)) ∈ q_tbl := tm_2 172 rfl rfl
theorem w238 : (Jvm.Cond.static ({ cls := "WhiteLine", name := "isIn", desc := "(III)Z" } : Jvm.MethodName)) ∈ q_tbl := tm_2 173 rfl rfl
theorem w239 : (Jvm.Cond.code ({ cls := "WhiteLine", name := "isIn", desc := "(III)Z" } : Jvm.MethodName) prog_1_method_38_code (3 : Nat) (Option.some Jvm.ClassFile.FieldType.boolean)) ∈ q_tbl := tm_2 174 rfl rfl
theorem w240 : (Jvm.Cond.methodLink "WhiteLine" (94 : Nat) ({ cls := "WhiteLine$Road", name := "layAnew", desc := "(I)V" } : Jvm.MethodName)) ∈ q_tbl := tm_2 175 rfl rfl
theorem w241 : (Jvm.Cond.methodLink "WhiteLineLaw" (18 : Nat) ({ cls := "WhiteLine", name := "row", desc := "(II)I" } : Jvm.MethodName)) ∈ q_tbl := tm_2 176 rfl rfl
theorem w242 : (Jvm.Cond.instanceMethod ({ cls := "WhiteLine", name := "row", desc := "(II)I" } : Jvm.MethodName)) ∈ q_tbl := tm_2 177 rfl rfl
theorem w243 : (Jvm.Cond.selects "WhiteLine" ({ cls := "WhiteLine", name := "row", desc := "(II)I" } : Jvm.MethodName) ({ cls := "WhiteLine", name := "row", desc := "(II)I" } : Jvm.MethodName)) ∈ q_tbl := tm_2 178 rfl rfl
theorem w244 : (Jvm.Cond.code ({ cls := "WhiteLine", name := "row", desc := "(II)I" } : Jvm.MethodName) prog_1_method_3_code (4 : Nat) (Option.some Jvm.ClassFile.FieldType.int)) ∈ q_tbl := tm_2 179 rfl rfl
theorem w245 : (Jvm.Cond.methodLink "WhiteLine" (101 : Nat) ({ cls := "WhiteLine$RowReader", name := "read", desc := "([IIIZ)I" } : Jvm.MethodName)) ∈ q_tbl := tm_2 180 rfl rfl
theorem w246 : (Jvm.Cond.instanceMethod ({ cls := "WhiteLine$RowReader", name := "read", desc := "([IIIZ)I" } : Jvm.MethodName)) ∈ q_tbl := tm_2 181 rfl rfl
theorem w247 : (Jvm.Cond.selects "WhiteLine$RowReader" ({ cls := "WhiteLine$RowReader", name := "read", desc := "([IIIZ)I" } : Jvm.MethodName) ({ cls := "WhiteLine$RowReader", name := "read", desc := "([IIIZ)I" } : Jvm.MethodName)) ∈ q_tbl := tm_2 182 rfl rfl
theorem w248 : (Jvm.Cond.code ({ cls := "WhiteLine$RowReader", name := "read", desc := "([IIIZ)I" } : Jvm.MethodName) prog_10_method_2_code (6 : Nat) (Option.some Jvm.ClassFile.FieldType.int)) ∈ q_tbl := tm_2 183 rfl rfl
theorem w249 : (Jvm.Cond.methodLink "WhiteLine$RowReader" (34 : Nat) ({ cls := "java/lang/Math", name := "min", desc := "(II)I" } : Jvm.MethodName)) ∈ q_tbl := tm_2 184 rfl rfl
theorem w250 : (Jvm.Cond.static ({ cls := "java/lang/Math", name := "min", desc := "(II)I" } : Jvm.MethodName)) ∈ q_tbl := tm_2 185 rfl rfl
theorem w251 : (Jvm.Cond.code ({ cls := "java/lang/Math", name := "min", desc := "(II)I" } : Jvm.MethodName) prog_15_method_69_code (2 : Nat) (Option.some Jvm.ClassFile.FieldType.int)) ∈ q_tbl := tm_2 186 rfl rfl
theorem w252 : (Jvm.Cond.methodLink "WhiteLine$RowReader" (40 : Nat) ({ cls := "WhiteLine$RowReader", name := "readValue", desc := "(IZ)Z" } : Jvm.MethodName)) ∈ q_tbl := tm_2 187 rfl rfl
theorem w253 : (Jvm.Cond.instanceMethod ({ cls := "WhiteLine$RowReader", name := "readValue", desc := "(IZ)Z" } : Jvm.MethodName)) ∈ q_tbl := tm_2 189 rfl rfl
theorem w254 : (Jvm.Cond.code ({ cls := "WhiteLine$RowReader", name := "readValue", desc := "(IZ)Z" } : Jvm.MethodName) prog_10_method_4_code (9 : Nat) (Option.some Jvm.ClassFile.FieldType.boolean)) ∈ q_tbl := tm_2 190 rfl rfl
theorem w255 : (Jvm.Cond.methodLink "WhiteLine$RowReader" (44 : Nat) ({ cls := "WhiteLine$RowReader", name := "peek", desc := "()I" } : Jvm.MethodName)) ∈ q_tbl := tm_2 191 rfl rfl
theorem w256 : (Jvm.Cond.instanceMethod ({ cls := "WhiteLine$RowReader", name := "peek", desc := "()I" } : Jvm.MethodName)) ∈ q_tbl := tm_2 193 rfl rfl
theorem w257 : (Jvm.Cond.code ({ cls := "WhiteLine$RowReader", name := "peek", desc := "()I" } : Jvm.MethodName) prog_10_method_6_code (1 : Nat) (Option.some Jvm.ClassFile.FieldType.int)) ∈ q_tbl := tm_2 194 rfl rfl
theorem w258 : (Jvm.Cond.methodLink "WhiteLine$RowReader" (55 : Nat) ({ cls := "WhiteLine$RowReader", name := "readNumber", desc := "()I" } : Jvm.MethodName)) ∈ q_tbl := tm_2 195 rfl rfl
theorem w259 : (Jvm.Cond.instanceMethod ({ cls := "WhiteLine$RowReader", name := "readNumber", desc := "()I" } : Jvm.MethodName)) ∈ q_tbl := tm_2 197 rfl rfl
theorem w260 : (Jvm.Cond.code ({ cls := "WhiteLine$RowReader", name := "readNumber", desc := "()I" } : Jvm.MethodName) prog_10_method_5_code (3 : Nat) (Option.some Jvm.ClassFile.FieldType.int)) ∈ q_tbl := tm_2 198 rfl rfl
theorem w261 : (Jvm.Cond.methodLink "WhiteLine$RowReader" (62 : Nat) ({ cls := "java/lang/Math", name := "max", desc := "(II)I" } : Jvm.MethodName)) ∈ q_tbl := tm_2 200 rfl rfl
theorem w262 : (Jvm.Cond.static ({ cls := "java/lang/Math", name := "max", desc := "(II)I" } : Jvm.MethodName)) ∈ q_tbl := tm_2 201 rfl rfl
theorem w263 : (Jvm.Cond.code ({ cls := "java/lang/Math", name := "max", desc := "(II)I" } : Jvm.MethodName) prog_15_method_65_code (2 : Nat) (Option.some Jvm.ClassFile.FieldType.int)) ∈ q_tbl := tm_2 202 rfl rfl
theorem w264 : (Jvm.Cond.methodLink "WhiteLine$RowReader" (48 : Nat) ({ cls := "WhiteLine$RowReader", name := "fail", desc := "(II)Z" } : Jvm.MethodName)) ∈ q_tbl := tm_2 203 rfl rfl
theorem w265 : (Jvm.Cond.instanceMethod ({ cls := "WhiteLine$RowReader", name := "fail", desc := "(II)Z" } : Jvm.MethodName)) ∈ q_tbl := tm_2 205 rfl rfl
theorem w266 : (Jvm.Cond.code ({ cls := "WhiteLine$RowReader", name := "fail", desc := "(II)Z" } : Jvm.MethodName) prog_10_method_7_code (3 : Nat) (Option.some Jvm.ClassFile.FieldType.boolean)) ∈ q_tbl := tm_2 206 rfl rfl
theorem w267 : (Jvm.Cond.methodLink "WhiteLine$RowReader" (52 : Nat) ({ cls := "WhiteLine$RowReader", name := "sumOfAmounts", desc := "()I" } : Jvm.MethodName)) ∈ q_tbl := tm_2 207 rfl rfl
theorem w268 : (Jvm.Cond.instanceMethod ({ cls := "WhiteLine$RowReader", name := "sumOfAmounts", desc := "()I" } : Jvm.MethodName)) ∈ q_tbl := tm_2 209 rfl rfl
theorem w269 : (Jvm.Cond.code ({ cls := "WhiteLine$RowReader", name := "sumOfAmounts", desc := "()I" } : Jvm.MethodName) prog_10_method_8_code (3 : Nat) (Option.some Jvm.ClassFile.FieldType.int)) ∈ q_tbl := tm_2 210 rfl rfl
theorem w270 : (Jvm.Cond.methodLink "WhiteLine$RowReader" (65 : Nat) ({ cls := "java/lang/Math", name := "abs", desc := "(I)I" } : Jvm.MethodName)) ∈ q_tbl := tm_2 211 rfl rfl
theorem w271 : (Jvm.Cond.static ({ cls := "java/lang/Math", name := "abs", desc := "(I)I" } : Jvm.MethodName)) ∈ q_tbl := tm_2 212 rfl rfl
theorem w272 : (Jvm.Cond.code ({ cls := "java/lang/Math", name := "abs", desc := "(I)I" } : Jvm.MethodName) prog_15_method_59_code (1 : Nat) (Option.some Jvm.ClassFile.FieldType.int)) ∈ q_tbl := tm_2 213 rfl rfl
theorem w273 : (Jvm.Cond.methodLink "WhiteLine" (105 : Nat) ({ cls := "WhiteLine$Road", name := "rowOf", desc := "(I)[I" } : Jvm.MethodName)) ∈ q_tbl := tm_2 214 rfl rfl
theorem w274 : (Jvm.Cond.instanceMethod ({ cls := "WhiteLine$Road", name := "rowOf", desc := "(I)[I" } : Jvm.MethodName)) ∈ q_tbl := tm_2 215 rfl rfl
theorem w275 : (Jvm.Cond.selects "WhiteLine$Road" ({ cls := "WhiteLine$Road", name := "rowOf", desc := "(I)[I" } : Jvm.MethodName) ({ cls := "WhiteLine$Road", name := "rowOf", desc := "(I)[I" } : Jvm.MethodName)) ∈ q_tbl := tm_2 216 rfl rfl
theorem w276 : (Jvm.Cond.code ({ cls := "WhiteLine$Road", name := "rowOf", desc := "(I)[I" } : Jvm.MethodName) prog_9_method_4_code (2 : Nat) (Option.some (Jvm.ClassFile.FieldType.array Jvm.ClassFile.FieldType.int))) ∈ q_tbl := tm_2 217 rfl rfl
theorem w277 : (Jvm.Cond.methodLink "WhiteLine" (109 : Nat) ({ cls := "WhiteLine$RowReader", name := "writeTo", desc := "([II)V" } : Jvm.MethodName)) ∈ q_tbl := tm_2 218 rfl rfl
theorem w278 : (Jvm.Cond.instanceMethod ({ cls := "WhiteLine$RowReader", name := "writeTo", desc := "([II)V" } : Jvm.MethodName)) ∈ q_tbl := tm_2 219 rfl rfl
theorem w279 : (Jvm.Cond.selects "WhiteLine$RowReader" ({ cls := "WhiteLine$RowReader", name := "writeTo", desc := "([II)V" } : Jvm.MethodName) ({ cls := "WhiteLine$RowReader", name := "writeTo", desc := "([II)V" } : Jvm.MethodName)) ∈ q_tbl := tm_2 220 rfl rfl
theorem w280 : (Jvm.Cond.code ({ cls := "WhiteLine$RowReader", name := "writeTo", desc := "([II)V" } : Jvm.MethodName) prog_10_method_3_code (4 : Nat) (Option.none : Option Jvm.ClassFile.FieldType)) ∈ q_tbl := tm_2 221 rfl rfl
theorem w281 : (Jvm.Cond.methodLink "WhiteLineLaw" (23 : Nat) ({ cls := "WhiteLine", name := "old", desc := "(III)Z" } : Jvm.MethodName)) ∈ q_tbl := tm_2 222 rfl rfl
theorem w282 : (Jvm.Cond.instanceMethod ({ cls := "WhiteLine", name := "old", desc := "(III)Z" } : Jvm.MethodName)) ∈ q_tbl := tm_2 223 rfl rfl
theorem w283 : (Jvm.Cond.selects "WhiteLine" ({ cls := "WhiteLine", name := "old", desc := "(III)Z" } : Jvm.MethodName) ({ cls := "WhiteLine", name := "old", desc := "(III)Z" } : Jvm.MethodName)) ∈ q_tbl := tm_2 224 rfl rfl
theorem w284 : (Jvm.Cond.code ({ cls := "WhiteLine", name := "old", desc := "(III)Z" } : Jvm.MethodName) prog_1_method_4_code (5 : Nat) (Option.some Jvm.ClassFile.FieldType.boolean)) ∈ q_tbl := tm_2 225 rfl rfl
theorem w285 : (Jvm.Cond.methodLink "WhiteLine" (113 : Nat) ({ cls := "WhiteLine$Road", name := "isStretch", desc := "(II)Z" } : Jvm.MethodName)) ∈ q_tbl := tm_2 226 rfl rfl
theorem w286 : (Jvm.Cond.instanceMethod ({ cls := "WhiteLine$Road", name := "isStretch", desc := "(II)Z" } : Jvm.MethodName)) ∈ q_tbl := tm_2 227 rfl rfl
theorem w287 : (Jvm.Cond.selects "WhiteLine$Road" ({ cls := "WhiteLine$Road", name := "isStretch", desc := "(II)Z" } : Jvm.MethodName) ({ cls := "WhiteLine$Road", name := "isStretch", desc := "(II)Z" } : Jvm.MethodName)) ∈ q_tbl := tm_2 228 rfl rfl
theorem w288 : (Jvm.Cond.code ({ cls := "WhiteLine$Road", name := "isStretch", desc := "(II)Z" } : Jvm.MethodName) prog_9_method_6_code (3 : Nat) (Option.some Jvm.ClassFile.FieldType.boolean)) ∈ q_tbl := tm_2 229 rfl rfl
theorem w289 : (Jvm.Cond.methodLink "WhiteLine$Road" (81 : Nat) ({ cls := "WhiteLine$Road", name := "isDot", desc := "(I)Z" } : Jvm.MethodName)) ∈ q_tbl := tm_2 230 rfl rfl
theorem w290 : (Jvm.Cond.instanceMethod ({ cls := "WhiteLine$Road", name := "isDot", desc := "(I)Z" } : Jvm.MethodName)) ∈ q_tbl := tm_2 231 rfl rfl
theorem w291 : (Jvm.Cond.selects "WhiteLine$Road" ({ cls := "WhiteLine$Road", name := "isDot", desc := "(I)Z" } : Jvm.MethodName) ({ cls := "WhiteLine$Road", name := "isDot", desc := "(I)Z" } : Jvm.MethodName)) ∈ q_tbl := tm_2 232 rfl rfl
theorem w292 : (Jvm.Cond.code ({ cls := "WhiteLine$Road", name := "isDot", desc := "(I)Z" } : Jvm.MethodName) prog_9_method_5_code (2 : Nat) (Option.some Jvm.ClassFile.FieldType.boolean)) ∈ q_tbl := tm_2 233 rfl rfl
theorem w293 : (Jvm.Cond.methodLink "WhiteLineLaw" (28 : Nat) ({ cls := "WhiteLine", name := "feed", desc := "(IIIII)I" } : Jvm.MethodName)) ∈ q_tbl := tm_2 234 rfl rfl
theorem w294 : (Jvm.Cond.instanceMethod ({ cls := "WhiteLine", name := "feed", desc := "(IIIII)I" } : Jvm.MethodName)) ∈ q_tbl := tm_2 235 rfl rfl
theorem w295 : (Jvm.Cond.selects "WhiteLine" ({ cls := "WhiteLine", name := "feed", desc := "(IIIII)I" } : Jvm.MethodName) ({ cls := "WhiteLine", name := "feed", desc := "(IIIII)I" } : Jvm.MethodName)) ∈ q_tbl := tm_2 236 rfl rfl
theorem w296 : (Jvm.Cond.code ({ cls := "WhiteLine", name := "feed", desc := "(IIIII)I" } : Jvm.MethodName) prog_1_method_5_code (6 : Nat) (Option.some Jvm.ClassFile.FieldType.int)) ∈ q_tbl := tm_2 237 rfl rfl
theorem w297 : (Jvm.Cond.methodLink "WhiteLine" (120 : Nat) ({ cls := "WhiteLine", name := "putOnTape", desc := "(I)V" } : Jvm.MethodName)) ∈ q_tbl := tm_2 238 rfl rfl
theorem w298 : (Jvm.Cond.instanceMethod ({ cls := "WhiteLine", name := "putOnTape", desc := "(I)V" } : Jvm.MethodName)) ∈ q_tbl := tm_3 0 rfl rfl
theorem w299 : (Jvm.Cond.code ({ cls := "WhiteLine", name := "putOnTape", desc := "(I)V" } : Jvm.MethodName) prog_1_method_37_code (3 : Nat) (Option.none : Option Jvm.ClassFile.FieldType)) ∈ q_tbl := tm_3 1 rfl rfl
theorem w300 : (Jvm.Cond.methodLink "WhiteLineLaw" (33 : Nat) ({ cls := "WhiteLine", name := "law", desc := "(I)I" } : Jvm.MethodName)) ∈ q_tbl := tm_3 2 rfl rfl
theorem w301 : (Jvm.Cond.instanceMethod ({ cls := "WhiteLine", name := "law", desc := "(I)I" } : Jvm.MethodName)) ∈ q_tbl := tm_3 3 rfl rfl
theorem w302 : (Jvm.Cond.selects "WhiteLine" ({ cls := "WhiteLine", name := "law", desc := "(I)I" } : Jvm.MethodName) ({ cls := "WhiteLine", name := "law", desc := "(I)I" } : Jvm.MethodName)) ∈ q_tbl := tm_3 4 rfl rfl
theorem w303 : (Jvm.Cond.code ({ cls := "WhiteLine", name := "law", desc := "(I)I" } : Jvm.MethodName) prog_1_method_6_code (4 : Nat) (Option.some Jvm.ClassFile.FieldType.int)) ∈ q_tbl := tm_3 5 rfl rfl
theorem w304 : (Jvm.Cond.methodLink "WhiteLine" (123 : Nat) ({ cls := "WhiteLine$LawReader", name := "read", desc := "([II)I" } : Jvm.MethodName)) ∈ q_tbl := tm_3 6 rfl rfl
theorem w305 : (Jvm.Cond.instanceMethod ({ cls := "WhiteLine$LawReader", name := "read", desc := "([II)I" } : Jvm.MethodName)) ∈ q_tbl := tm_3 7 rfl rfl
theorem w306 : (Jvm.Cond.selects "WhiteLine$LawReader" ({ cls := "WhiteLine$LawReader", name := "read", desc := "([II)I" } : Jvm.MethodName) ({ cls := "WhiteLine$LawReader", name := "read", desc := "([II)I" } : Jvm.MethodName)) ∈ q_tbl := tm_3 8 rfl rfl
theorem w307 : (Jvm.Cond.code ({ cls := "WhiteLine$LawReader", name := "read", desc := "([II)I" } : Jvm.MethodName) prog_6_method_2_code (4 : Nat) (Option.some Jvm.ClassFile.FieldType.int)) ∈ q_tbl := tm_3 9 rfl rfl
theorem w308 : (Jvm.Cond.methodLink "WhiteLine$LawReader" (35 : Nat) ({ cls := "java/lang/Math", name := "min", desc := "(II)I" } : Jvm.MethodName)) ∈ q_tbl := tm_3 10 rfl rfl
theorem w309 : (Jvm.Cond.methodLink "WhiteLine$LawReader" (41 : Nat) ({ cls := "WhiteLine$Law", name := "clear", desc := "()V" } : Jvm.MethodName)) ∈ q_tbl := tm_3 11 rfl rfl
theorem w310 : (Jvm.Cond.instanceMethod ({ cls := "WhiteLine$Law", name := "clear", desc := "()V" } : Jvm.MethodName)) ∈ q_tbl := tm_3 12 rfl rfl
theorem w311 : (Jvm.Cond.selects "WhiteLine$Law" ({ cls := "WhiteLine$Law", name := "clear", desc := "()V" } : Jvm.MethodName) ({ cls := "WhiteLine$Law", name := "clear", desc := "()V" } : Jvm.MethodName)) ∈ q_tbl := tm_3 13 rfl rfl
theorem w312 : (Jvm.Cond.code ({ cls := "WhiteLine$Law", name := "clear", desc := "()V" } : Jvm.MethodName) prog_5_method_2_code (1 : Nat) (Option.none : Option Jvm.ClassFile.FieldType)) ∈ q_tbl := tm_3 14 rfl rfl
theorem w313 : (Jvm.Cond.methodLink "WhiteLine$LawReader" (44 : Nat) ({ cls := "WhiteLine$LawReader", name := "readClause", desc := "(I)Z" } : Jvm.MethodName)) ∈ q_tbl := tm_3 15 rfl rfl
theorem w314 : (Jvm.Cond.instanceMethod ({ cls := "WhiteLine$LawReader", name := "readClause", desc := "(I)Z" } : Jvm.MethodName)) ∈ q_tbl := tm_3 17 rfl rfl
theorem w315 : (Jvm.Cond.code ({ cls := "WhiteLine$LawReader", name := "readClause", desc := "(I)Z" } : Jvm.MethodName) prog_6_method_3_code (3 : Nat) (Option.some Jvm.ClassFile.FieldType.boolean)) ∈ q_tbl := tm_3 18 rfl rfl
theorem w316 : (Jvm.Cond.methodLink "WhiteLine$LawReader" (51 : Nat) ({ cls := "WhiteLine$LawReader", name := "peek", desc := "()I" } : Jvm.MethodName)) ∈ q_tbl := tm_3 19 rfl rfl
theorem w317 : (Jvm.Cond.instanceMethod ({ cls := "WhiteLine$LawReader", name := "peek", desc := "()I" } : Jvm.MethodName)) ∈ q_tbl := tm_3 21 rfl rfl
theorem w318 : (Jvm.Cond.code ({ cls := "WhiteLine$LawReader", name := "peek", desc := "()I" } : Jvm.MethodName) prog_6_method_15_code (1 : Nat) (Option.some Jvm.ClassFile.FieldType.int)) ∈ q_tbl := tm_3 22 rfl rfl
theorem w319 : (Jvm.Cond.methodLink "WhiteLine$LawReader" (55 : Nat) ({ cls := "WhiteLine$LawReader", name := "fail", desc := "(I)Z" } : Jvm.MethodName)) ∈ q_tbl := tm_3 23 rfl rfl
theorem w320 : (Jvm.Cond.instanceMethod ({ cls := "WhiteLine$LawReader", name := "fail", desc := "(I)Z" } : Jvm.MethodName)) ∈ q_tbl := tm_3 25 rfl rfl
theorem w321 : (Jvm.Cond.code ({ cls := "WhiteLine$LawReader", name := "fail", desc := "(I)Z" } : Jvm.MethodName) prog_6_method_16_code (2 : Nat) (Option.some Jvm.ClassFile.FieldType.boolean)) ∈ q_tbl := tm_3 26 rfl rfl
theorem w322 : (Jvm.Cond.methodLink "WhiteLine$LawReader" (58 : Nat) ({ cls := "WhiteLine$Law", name := "beginClause", desc := "(I)V" } : Jvm.MethodName)) ∈ q_tbl := tm_3 27 rfl rfl
theorem w323 : (Jvm.Cond.instanceMethod ({ cls := "WhiteLine$Law", name := "beginClause", desc := "(I)V" } : Jvm.MethodName)) ∈ q_tbl := tm_3 28 rfl rfl
theorem w324 : (Jvm.Cond.selects "WhiteLine$Law" ({ cls := "WhiteLine$Law", name := "beginClause", desc := "(I)V" } : Jvm.MethodName) ({ cls := "WhiteLine$Law", name := "beginClause", desc := "(I)V" } : Jvm.MethodName)) ∈ q_tbl := tm_3 29 rfl rfl
theorem w325 : (Jvm.Cond.code ({ cls := "WhiteLine$Law", name := "beginClause", desc := "(I)V" } : Jvm.MethodName) prog_5_method_3_code (2 : Nat) (Option.none : Option Jvm.ClassFile.FieldType)) ∈ q_tbl := tm_3 30 rfl rfl
theorem w326 : (Jvm.Cond.methodLink "WhiteLine$LawReader" (62 : Nat) ({ cls := "WhiteLine$LawReader", name := "readSum", desc := "(I)Z" } : Jvm.MethodName)) ∈ q_tbl := tm_3 31 rfl rfl
theorem w327 : (Jvm.Cond.instanceMethod ({ cls := "WhiteLine$LawReader", name := "readSum", desc := "(I)Z" } : Jvm.MethodName)) ∈ q_tbl := tm_3 33 rfl rfl
theorem w328 : (Jvm.Cond.code ({ cls := "WhiteLine$LawReader", name := "readSum", desc := "(I)Z" } : Jvm.MethodName) prog_6_method_7_code (5 : Nat) (Option.some Jvm.ClassFile.FieldType.boolean)) ∈ q_tbl := tm_3 34 rfl rfl
theorem w329 : (Jvm.Cond.methodLink "WhiteLine$LawReader" (86 : Nat) ({ cls := "WhiteLine$LawReader", name := "readTerm", desc := "(I)Z" } : Jvm.MethodName)) ∈ q_tbl := tm_3 35 rfl rfl
theorem w330 : (Jvm.Cond.instanceMethod ({ cls := "WhiteLine$LawReader", name := "readTerm", desc := "(I)Z" } : Jvm.MethodName)) ∈ q_tbl := tm_3 37 rfl rfl
theorem w331 : (Jvm.Cond.code ({ cls := "WhiteLine$LawReader", name := "readTerm", desc := "(I)Z" } : Jvm.MethodName) prog_6_method_8_code (5 : Nat) (Option.some Jvm.ClassFile.FieldType.boolean)) ∈ q_tbl := tm_3 38 rfl rfl
theorem w332 : (Jvm.Cond.methodLink "WhiteLine$LawReader" (89 : Nat) ({ cls := "WhiteLine$LawReader", name := "readFactor", desc := "(I)Z" } : Jvm.MethodName)) ∈ q_tbl := tm_3 39 rfl rfl
theorem w333 : (Jvm.Cond.instanceMethod ({ cls := "WhiteLine$LawReader", name := "readFactor", desc := "(I)Z" } : Jvm.MethodName)) ∈ q_tbl := tm_3 41 rfl rfl
theorem w334 : (Jvm.Cond.code ({ cls := "WhiteLine$LawReader", name := "readFactor", desc := "(I)Z" } : Jvm.MethodName) prog_6_method_9_code (3 : Nat) (Option.some Jvm.ClassFile.FieldType.boolean)) ∈ q_tbl := tm_3 42 rfl rfl
theorem w335 : (Jvm.Cond.methodLink "WhiteLine$LawReader" (83 : Nat) ({ cls := "WhiteLine$LawReader", name := "mayOpen", desc := "(I)Z" } : Jvm.MethodName)) ∈ q_tbl := tm_3 43 rfl rfl
theorem w336 : (Jvm.Cond.instanceMethod ({ cls := "WhiteLine$LawReader", name := "mayOpen", desc := "(I)Z" } : Jvm.MethodName)) ∈ q_tbl := tm_3 45 rfl rfl
theorem w337 : (Jvm.Cond.code ({ cls := "WhiteLine$LawReader", name := "mayOpen", desc := "(I)Z" } : Jvm.MethodName) prog_6_method_13_code (2 : Nat) (Option.some Jvm.ClassFile.FieldType.boolean)) ∈ q_tbl := tm_3 46 rfl rfl
theorem w338 : (Jvm.Cond.methodLink "WhiteLine$LawReader" (48 : Nat) ({ cls := "WhiteLine$LawReader", name := "expect", desc := "(I)Z" } : Jvm.MethodName)) ∈ q_tbl := tm_3 47 rfl rfl
theorem w339 : (Jvm.Cond.instanceMethod ({ cls := "WhiteLine$LawReader", name := "expect", desc := "(I)Z" } : Jvm.MethodName)) ∈ q_tbl := tm_3 49 rfl rfl
theorem w340 : (Jvm.Cond.code ({ cls := "WhiteLine$LawReader", name := "expect", desc := "(I)Z" } : Jvm.MethodName) prog_6_method_14_code (2 : Nat) (Option.some Jvm.ClassFile.FieldType.boolean)) ∈ q_tbl := tm_3 50 rfl rfl
theorem w341 : (Jvm.Cond.methodLink "WhiteLine$LawReader" (99 : Nat) ({ cls := "WhiteLine$LawReader", name := "readNumber", desc := "()Z" } : Jvm.MethodName)) ∈ q_tbl := tm_3 52 rfl rfl
theorem w342 : (Jvm.Cond.instanceMethod ({ cls := "WhiteLine$LawReader", name := "readNumber", desc := "()Z" } : Jvm.MethodName)) ∈ q_tbl := tm_3 54 rfl rfl
theorem w343 : (Jvm.Cond.code ({ cls := "WhiteLine$LawReader", name := "readNumber", desc := "()Z" } : Jvm.MethodName) prog_6_method_10_code (3 : Nat) (Option.some Jvm.ClassFile.FieldType.boolean)) ∈ q_tbl := tm_3 55 rfl rfl
theorem w344 : (Jvm.Cond.methodLink "WhiteLine$LawReader" (65 : Nat) ({ cls := "WhiteLine$Law", name := "add", desc := "(II)I" } : Jvm.MethodName)) ∈ q_tbl := tm_3 56 rfl rfl
theorem w345 : (Jvm.Cond.instanceMethod ({ cls := "WhiteLine$Law", name := "add", desc := "(II)I" } : Jvm.MethodName)) ∈ q_tbl := tm_3 57 rfl rfl
theorem w346 : (Jvm.Cond.selects "WhiteLine$Law" ({ cls := "WhiteLine$Law", name := "add", desc := "(II)I" } : Jvm.MethodName) ({ cls := "WhiteLine$Law", name := "add", desc := "(II)I" } : Jvm.MethodName)) ∈ q_tbl := tm_3 58 rfl rfl
theorem w347 : (Jvm.Cond.code ({ cls := "WhiteLine$Law", name := "add", desc := "(II)I" } : Jvm.MethodName) prog_5_method_5_code (3 : Nat) (Option.some Jvm.ClassFile.FieldType.int)) ∈ q_tbl := tm_3 59 rfl rfl
theorem w348 : (Jvm.Cond.methodLink "WhiteLine$LawReader" (103 : Nat) ({ cls := "WhiteLine$LawReader", name := "isValueLetter", desc := "(I)Z" } : Jvm.MethodName)) ∈ q_tbl := tm_3 60 rfl rfl
theorem w349 : (Jvm.Cond.static ({ cls := "WhiteLine$LawReader", name := "isValueLetter", desc := "(I)Z" } : Jvm.MethodName)) ∈ q_tbl := tm_3 61 rfl rfl
theorem w350 : (Jvm.Cond.code ({ cls := "WhiteLine$LawReader", name := "isValueLetter", desc := "(I)Z" } : Jvm.MethodName) prog_6_method_12_code (1 : Nat) (Option.some Jvm.ClassFile.FieldType.boolean)) ∈ q_tbl := tm_3 62 rfl rfl
theorem w351 : (Jvm.Cond.methodLink "WhiteLine$LawReader" (92 : Nat) ({ cls := "WhiteLine$LawReader", name := "isTimes", desc := "(I)Z" } : Jvm.MethodName)) ∈ q_tbl := tm_3 63 rfl rfl
theorem w352 : (Jvm.Cond.static ({ cls := "WhiteLine$LawReader", name := "isTimes", desc := "(I)Z" } : Jvm.MethodName)) ∈ q_tbl := tm_3 64 rfl rfl
theorem w353 : (Jvm.Cond.code ({ cls := "WhiteLine$LawReader", name := "isTimes", desc := "(I)Z" } : Jvm.MethodName) prog_6_method_11_code (1 : Nat) (Option.some Jvm.ClassFile.FieldType.boolean)) ∈ q_tbl := tm_3 65 rfl rfl
theorem w354 : (Jvm.Cond.methodLink "WhiteLine$LawReader" (68 : Nat) ({ cls := "WhiteLine$Law", name := "beginCondition", desc := "()V" } : Jvm.MethodName)) ∈ q_tbl := tm_3 66 rfl rfl
theorem w355 : (Jvm.Cond.instanceMethod ({ cls := "WhiteLine$Law", name := "beginCondition", desc := "()V" } : Jvm.MethodName)) ∈ q_tbl := tm_3 67 rfl rfl
theorem w356 : (Jvm.Cond.selects "WhiteLine$Law" ({ cls := "WhiteLine$Law", name := "beginCondition", desc := "()V" } : Jvm.MethodName) ({ cls := "WhiteLine$Law", name := "beginCondition", desc := "()V" } : Jvm.MethodName)) ∈ q_tbl := tm_3 68 rfl rfl
theorem w357 : (Jvm.Cond.code ({ cls := "WhiteLine$Law", name := "beginCondition", desc := "()V" } : Jvm.MethodName) prog_5_method_4_code (1 : Nat) (Option.none : Option Jvm.ClassFile.FieldType)) ∈ q_tbl := tm_3 69 rfl rfl
theorem w358 : (Jvm.Cond.methodLink "WhiteLine$LawReader" (71 : Nat) ({ cls := "WhiteLine$LawReader", name := "readParts", desc := "(I)Z" } : Jvm.MethodName)) ∈ q_tbl := tm_3 70 rfl rfl
theorem w359 : (Jvm.Cond.instanceMethod ({ cls := "WhiteLine$LawReader", name := "readParts", desc := "(I)Z" } : Jvm.MethodName)) ∈ q_tbl := tm_3 72 rfl rfl
theorem w360 : (Jvm.Cond.code ({ cls := "WhiteLine$LawReader", name := "readParts", desc := "(I)Z" } : Jvm.MethodName) prog_6_method_4_code (5 : Nat) (Option.some Jvm.ClassFile.FieldType.boolean)) ∈ q_tbl := tm_3 73 rfl rfl
theorem w361 : (Jvm.Cond.methodLink "WhiteLine$LawReader" (74 : Nat) ({ cls := "WhiteLine$LawReader", name := "readPart", desc := "(I)Z" } : Jvm.MethodName)) ∈ q_tbl := tm_3 74 rfl rfl
theorem w362 : (Jvm.Cond.instanceMethod ({ cls := "WhiteLine$LawReader", name := "readPart", desc := "(I)Z" } : Jvm.MethodName)) ∈ q_tbl := tm_3 76 rfl rfl
theorem w363 : (Jvm.Cond.code ({ cls := "WhiteLine$LawReader", name := "readPart", desc := "(I)Z" } : Jvm.MethodName) prog_6_method_5_code (5 : Nat) (Option.some Jvm.ClassFile.FieldType.boolean)) ∈ q_tbl := tm_3 77 rfl rfl
theorem w364 : (Jvm.Cond.methodLink "WhiteLine$LawReader" (80 : Nat) ({ cls := "WhiteLine$LawReader", name := "readPiece", desc := "(I)Z" } : Jvm.MethodName)) ∈ q_tbl := tm_3 78 rfl rfl
theorem w365 : (Jvm.Cond.instanceMethod ({ cls := "WhiteLine$LawReader", name := "readPiece", desc := "(I)Z" } : Jvm.MethodName)) ∈ q_tbl := tm_3 80 rfl rfl
theorem w366 : (Jvm.Cond.code ({ cls := "WhiteLine$LawReader", name := "readPiece", desc := "(I)Z" } : Jvm.MethodName) prog_6_method_6_code (3 : Nat) (Option.some Jvm.ClassFile.FieldType.boolean)) ∈ q_tbl := tm_3 81 rfl rfl
theorem w367 : (Jvm.Cond.methodLink "WhiteLine$LawReader" (77 : Nat) ({ cls := "WhiteLine$Law", name := "leadHere", desc := "(I)V" } : Jvm.MethodName)) ∈ q_tbl := tm_3 82 rfl rfl
theorem w368 : (Jvm.Cond.instanceMethod ({ cls := "WhiteLine$Law", name := "leadHere", desc := "(I)V" } : Jvm.MethodName)) ∈ q_tbl := tm_3 83 rfl rfl
theorem w369 : (Jvm.Cond.selects "WhiteLine$Law" ({ cls := "WhiteLine$Law", name := "leadHere", desc := "(I)V" } : Jvm.MethodName) ({ cls := "WhiteLine$Law", name := "leadHere", desc := "(I)V" } : Jvm.MethodName)) ∈ q_tbl := tm_3 84 rfl rfl
theorem w370 : (Jvm.Cond.code ({ cls := "WhiteLine$Law", name := "leadHere", desc := "(I)V" } : Jvm.MethodName) prog_5_method_6_code (2 : Nat) (Option.none : Option Jvm.ClassFile.FieldType)) ∈ q_tbl := tm_3 85 rfl rfl
theorem w371 : (Jvm.Cond.methodLink "WhiteLineLaw" (38 : Nat) ({ cls := "WhiteLine", name := "party", desc := "(IZI)Z" } : Jvm.MethodName)) ∈ q_tbl := tm_3 86 rfl rfl
theorem w372 : (Jvm.Cond.instanceMethod ({ cls := "WhiteLine", name := "party", desc := "(IZI)Z" } : Jvm.MethodName)) ∈ q_tbl := tm_3 87 rfl rfl
theorem w373 : (Jvm.Cond.selects "WhiteLine" ({ cls := "WhiteLine", name := "party", desc := "(IZI)Z" } : Jvm.MethodName) ({ cls := "WhiteLine", name := "party", desc := "(IZI)Z" } : Jvm.MethodName)) ∈ q_tbl := tm_3 88 rfl rfl
theorem w374 : (Jvm.Cond.code ({ cls := "WhiteLine", name := "party", desc := "(IZI)Z" } : Jvm.MethodName) prog_1_method_7_code (4 : Nat) (Option.some Jvm.ClassFile.FieldType.boolean)) ∈ q_tbl := tm_3 89 rfl rfl
theorem w375 : (Jvm.Cond.methodLink "WhiteLine" (135 : Nat) ({ cls := "WhiteLine$Road", name := "makeBare", desc := "(I)V" } : Jvm.MethodName)) ∈ q_tbl := tm_3 90 rfl rfl
theorem w376 : (Jvm.Cond.methodLink "WhiteLineLaw" (43 : Nat) ({ cls := "WhiteLine", name := "car", desc := "(III)Z" } : Jvm.MethodName)) ∈ q_tbl := tm_3 91 rfl rfl
theorem w377 : (Jvm.Cond.instanceMethod ({ cls := "WhiteLine", name := "car", desc := "(III)Z" } : Jvm.MethodName)) ∈ q_tbl := tm_3 92 rfl rfl
theorem w378 : (Jvm.Cond.selects "WhiteLine" ({ cls := "WhiteLine", name := "car", desc := "(III)Z" } : Jvm.MethodName) ({ cls := "WhiteLine", name := "car", desc := "(III)Z" } : Jvm.MethodName)) ∈ q_tbl := tm_3 93 rfl rfl
theorem w379 : (Jvm.Cond.code ({ cls := "WhiteLine", name := "car", desc := "(III)Z" } : Jvm.MethodName) prog_1_method_8_code (4 : Nat) (Option.some Jvm.ClassFile.FieldType.boolean)) ∈ q_tbl := tm_3 94 rfl rfl
theorem w380 : (Jvm.Cond.methodLink "WhiteLineLaw" (47 : Nat) ({ cls := "WhiteLine", name := "cones", desc := "(I)Z" } : Jvm.MethodName)) ∈ q_tbl := tm_3 95 rfl rfl
theorem w381 : (Jvm.Cond.instanceMethod ({ cls := "WhiteLine", name := "cones", desc := "(I)Z" } : Jvm.MethodName)) ∈ q_tbl := tm_3 96 rfl rfl
theorem w382 : (Jvm.Cond.selects "WhiteLine" ({ cls := "WhiteLine", name := "cones", desc := "(I)Z" } : Jvm.MethodName) ({ cls := "WhiteLine", name := "cones", desc := "(I)Z" } : Jvm.MethodName)) ∈ q_tbl := tm_3 97 rfl rfl
theorem w383 : (Jvm.Cond.code ({ cls := "WhiteLine", name := "cones", desc := "(I)Z" } : Jvm.MethodName) prog_1_method_9_code (2 : Nat) (Option.some Jvm.ClassFile.FieldType.boolean)) ∈ q_tbl := tm_3 98 rfl rfl
theorem w384 : (Jvm.Cond.methodLink "WhiteLineLaw" (51 : Nat) ({ cls := "WhiteLine", name := "dew", desc := "(I)Z" } : Jvm.MethodName)) ∈ q_tbl := tm_3 99 rfl rfl
theorem w385 : (Jvm.Cond.instanceMethod ({ cls := "WhiteLine", name := "dew", desc := "(I)Z" } : Jvm.MethodName)) ∈ q_tbl := tm_3 100 rfl rfl
theorem w386 : (Jvm.Cond.selects "WhiteLine" ({ cls := "WhiteLine", name := "dew", desc := "(I)Z" } : Jvm.MethodName) ({ cls := "WhiteLine", name := "dew", desc := "(I)Z" } : Jvm.MethodName)) ∈ q_tbl := tm_3 101 rfl rfl
theorem w387 : (Jvm.Cond.code ({ cls := "WhiteLine", name := "dew", desc := "(I)Z" } : Jvm.MethodName) prog_1_method_10_code (2 : Nat) (Option.some Jvm.ClassFile.FieldType.boolean)) ∈ q_tbl := tm_3 102 rfl rfl
theorem w388 : (Jvm.Cond.methodLink "WhiteLineLaw" (55 : Nat) ({ cls := "WhiteLine", name := "burns", desc := "(II)I" } : Jvm.MethodName)) ∈ q_tbl := tm_3 103 rfl rfl
theorem w389 : (Jvm.Cond.instanceMethod ({ cls := "WhiteLine", name := "burns", desc := "(II)I" } : Jvm.MethodName)) ∈ q_tbl := tm_3 104 rfl rfl
theorem w390 : (Jvm.Cond.selects "WhiteLine" ({ cls := "WhiteLine", name := "burns", desc := "(II)I" } : Jvm.MethodName) ({ cls := "WhiteLine", name := "burns", desc := "(II)I" } : Jvm.MethodName)) ∈ q_tbl := tm_3 105 rfl rfl
theorem w391 : (Jvm.Cond.code ({ cls := "WhiteLine", name := "burns", desc := "(II)I" } : Jvm.MethodName) prog_1_method_11_code (5 : Nat) (Option.some Jvm.ClassFile.FieldType.int)) ∈ q_tbl := tm_3 106 rfl rfl
theorem w392 : (Jvm.Cond.methodLink "WhiteLine" (157 : Nat) ({ cls := "WhiteLine$Road", name := "isPainted", desc := "(I)Z" } : Jvm.MethodName)) ∈ q_tbl := tm_3 107 rfl rfl
theorem w393 : (Jvm.Cond.instanceMethod ({ cls := "WhiteLine$Road", name := "isPainted", desc := "(I)Z" } : Jvm.MethodName)) ∈ q_tbl := tm_3 108 rfl rfl
theorem w394 : (Jvm.Cond.selects "WhiteLine$Road" ({ cls := "WhiteLine$Road", name := "isPainted", desc := "(I)Z" } : Jvm.MethodName) ({ cls := "WhiteLine$Road", name := "isPainted", desc := "(I)Z" } : Jvm.MethodName)) ∈ q_tbl := tm_3 109 rfl rfl
theorem w395 : (Jvm.Cond.code ({ cls := "WhiteLine$Road", name := "isPainted", desc := "(I)Z" } : Jvm.MethodName) prog_9_method_7_code (2 : Nat) (Option.some Jvm.ClassFile.FieldType.boolean)) ∈ q_tbl := tm_3 110 rfl rfl
theorem w396 : (Jvm.Cond.methodLink "WhiteLineLaw" (59 : Nat) ({ cls := "WhiteLine", name := "minutes", desc := "(I)I" } : Jvm.MethodName)) ∈ q_tbl := tm_3 111 rfl rfl
theorem w397 : (Jvm.Cond.instanceMethod ({ cls := "WhiteLine", name := "minutes", desc := "(I)I" } : Jvm.MethodName)) ∈ q_tbl := tm_3 112 rfl rfl
theorem w398 : (Jvm.Cond.selects "WhiteLine" ({ cls := "WhiteLine", name := "minutes", desc := "(I)I" } : Jvm.MethodName) ({ cls := "WhiteLine", name := "minutes", desc := "(I)I" } : Jvm.MethodName)) ∈ q_tbl := tm_3 113 rfl rfl
theorem w399 : (Jvm.Cond.code ({ cls := "WhiteLine", name := "minutes", desc := "(I)I" } : Jvm.MethodName) prog_1_method_12_code (2 : Nat) (Option.some Jvm.ClassFile.FieldType.int)) ∈ q_tbl := tm_3 114 rfl rfl
theorem w400 : (Jvm.Cond.methodLink "WhiteLine" (161 : Nat) ({ cls := "WhiteLine$Night", name := "pass", desc := "(LWhiteLine$Road;LWhiteLine$Law;I)I" } : Jvm.MethodName)) ∈ q_tbl := tm_3 115 rfl rfl
theorem w401 : (Jvm.Cond.static ({ cls := "WhiteLine$Night", name := "pass", desc := "(LWhiteLine$Road;LWhiteLine$Law;I)I" } : Jvm.MethodName)) ∈ q_tbl := tm_3 116 rfl rfl
theorem w402 : (Jvm.Cond.code ({ cls := "WhiteLine$Night", name := "pass", desc := "(LWhiteLine$Road;LWhiteLine$Law;I)I" } : Jvm.MethodName) prog_7_method_2_code (5 : Nat) (Option.some Jvm.ClassFile.FieldType.int)) ∈ q_tbl := tm_3 117 rfl rfl
theorem w403 : (Jvm.Cond.methodLink "WhiteLine$Night" (15 : Nat) ({ cls := "WhiteLine$Night", name := "beginDots", desc := "(LWhiteLine$Road;LWhiteLine$Law;)V" } : Jvm.MethodName)) ∈ q_tbl := tm_3 118 rfl rfl
theorem w404 : (Jvm.Cond.static ({ cls := "WhiteLine$Night", name := "beginDots", desc := "(LWhiteLine$Road;LWhiteLine$Law;)V" } : Jvm.MethodName)) ∈ q_tbl := tm_3 119 rfl rfl
theorem w405 : (Jvm.Cond.code ({ cls := "WhiteLine$Night", name := "beginDots", desc := "(LWhiteLine$Road;LWhiteLine$Law;)V" } : Jvm.MethodName) prog_7_method_3_code (4 : Nat) (Option.none : Option Jvm.ClassFile.FieldType)) ∈ q_tbl := tm_3 120 rfl rfl
theorem w406 : (Jvm.Cond.methodLink "WhiteLine$Night" (40 : Nat) ({ cls := "WhiteLine$Road", name := "nextFor", desc := "(I)I" } : Jvm.MethodName)) ∈ q_tbl := tm_3 121 rfl rfl
theorem w407 : (Jvm.Cond.instanceMethod ({ cls := "WhiteLine$Road", name := "nextFor", desc := "(I)I" } : Jvm.MethodName)) ∈ q_tbl := tm_3 122 rfl rfl
theorem w408 : (Jvm.Cond.selects "WhiteLine$Road" ({ cls := "WhiteLine$Road", name := "nextFor", desc := "(I)I" } : Jvm.MethodName) ({ cls := "WhiteLine$Road", name := "nextFor", desc := "(I)I" } : Jvm.MethodName)) ∈ q_tbl := tm_3 123 rfl rfl
theorem w409 : (Jvm.Cond.code ({ cls := "WhiteLine$Road", name := "nextFor", desc := "(I)I" } : Jvm.MethodName) prog_9_method_15_code (4 : Nat) (Option.some Jvm.ClassFile.FieldType.int)) ∈ q_tbl := tm_3 124 rfl rfl
theorem w410 : (Jvm.Cond.methodLink "WhiteLine$Road" (85 : Nat) ({ cls := "WhiteLine$Road", name := "isPainted", desc := "(I)Z" } : Jvm.MethodName)) ∈ q_tbl := tm_3 125 rfl rfl
theorem w411 : (Jvm.Cond.methodLink "WhiteLine$Road" (96 : Nat) ({ cls := "WhiteLine$Road", name := "isBeingPainted", desc := "(I)Z" } : Jvm.MethodName)) ∈ q_tbl := tm_3 126 rfl rfl
theorem w412 : (Jvm.Cond.instanceMethod ({ cls := "WhiteLine$Road", name := "isBeingPainted", desc := "(I)Z" } : Jvm.MethodName)) ∈ q_tbl := tm_3 127 rfl rfl
theorem w413 : (Jvm.Cond.selects "WhiteLine$Road" ({ cls := "WhiteLine$Road", name := "isBeingPainted", desc := "(I)Z" } : Jvm.MethodName) ({ cls := "WhiteLine$Road", name := "isBeingPainted", desc := "(I)Z" } : Jvm.MethodName)) ∈ q_tbl := tm_3 128 rfl rfl
theorem w414 : (Jvm.Cond.code ({ cls := "WhiteLine$Road", name := "isBeingPainted", desc := "(I)Z" } : Jvm.MethodName) prog_9_method_10_code (2 : Nat) (Option.some Jvm.ClassFile.FieldType.boolean)) ∈ q_tbl := tm_3 129 rfl rfl
theorem w415 : (Jvm.Cond.methodLink "WhiteLine$Road" (88 : Nat) ({ cls := "WhiteLine$Road", name := "painterOf", desc := "(I)I" } : Jvm.MethodName)) ∈ q_tbl := tm_3 130 rfl rfl
theorem w416 : (Jvm.Cond.instanceMethod ({ cls := "WhiteLine$Road", name := "painterOf", desc := "(I)I" } : Jvm.MethodName)) ∈ q_tbl := tm_3 131 rfl rfl
theorem w417 : (Jvm.Cond.selects "WhiteLine$Road" ({ cls := "WhiteLine$Road", name := "painterOf", desc := "(I)I" } : Jvm.MethodName) ({ cls := "WhiteLine$Road", name := "painterOf", desc := "(I)I" } : Jvm.MethodName)) ∈ q_tbl := tm_3 132 rfl rfl
theorem w418 : (Jvm.Cond.code ({ cls := "WhiteLine$Road", name := "painterOf", desc := "(I)I" } : Jvm.MethodName) prog_9_method_11_code (3 : Nat) (Option.some Jvm.ClassFile.FieldType.int)) ∈ q_tbl := tm_3 133 rfl rfl
theorem w419 : (Jvm.Cond.methodLink "WhiteLine$Night" (44 : Nat) ({ cls := "WhiteLine$Road", name := "conesInUse", desc := "()I" } : Jvm.MethodName)) ∈ q_tbl := tm_3 134 rfl rfl
theorem w420 : (Jvm.Cond.instanceMethod ({ cls := "WhiteLine$Road", name := "conesInUse", desc := "()I" } : Jvm.MethodName)) ∈ q_tbl := tm_3 135 rfl rfl
theorem w421 : (Jvm.Cond.selects "WhiteLine$Road" ({ cls := "WhiteLine$Road", name := "conesInUse", desc := "()I" } : Jvm.MethodName) ({ cls := "WhiteLine$Road", name := "conesInUse", desc := "()I" } : Jvm.MethodName)) ∈ q_tbl := tm_3 136 rfl rfl
theorem w422 : (Jvm.Cond.code ({ cls := "WhiteLine$Road", name := "conesInUse", desc := "()I" } : Jvm.MethodName) prog_9_method_16_code (3 : Nat) (Option.some Jvm.ClassFile.FieldType.int)) ∈ q_tbl := tm_3 137 rfl rfl
theorem w423 : (Jvm.Cond.methodLink "WhiteLine$Road" (99 : Nat) ({ cls := "WhiteLine$Road", name := "wetDots", desc := "()I" } : Jvm.MethodName)) ∈ q_tbl := tm_3 138 rfl rfl
theorem w424 : (Jvm.Cond.instanceMethod ({ cls := "WhiteLine$Road", name := "wetDots", desc := "()I" } : Jvm.MethodName)) ∈ q_tbl := tm_3 139 rfl rfl
theorem w425 : (Jvm.Cond.selects "WhiteLine$Road" ({ cls := "WhiteLine$Road", name := "wetDots", desc := "()I" } : Jvm.MethodName) ({ cls := "WhiteLine$Road", name := "wetDots", desc := "()I" } : Jvm.MethodName)) ∈ q_tbl := tm_3 140 rfl rfl
theorem w426 : (Jvm.Cond.code ({ cls := "WhiteLine$Road", name := "wetDots", desc := "()I" } : Jvm.MethodName) prog_9_method_19_code (3 : Nat) (Option.some Jvm.ClassFile.FieldType.int)) ∈ q_tbl := tm_3 141 rfl rfl
theorem w427 : (Jvm.Cond.methodLink "WhiteLine$Road" (106 : Nat) ({ cls := "WhiteLine$Road", name := "isWet", desc := "(I)Z" } : Jvm.MethodName)) ∈ q_tbl := tm_3 142 rfl rfl
theorem w428 : (Jvm.Cond.instanceMethod ({ cls := "WhiteLine$Road", name := "isWet", desc := "(I)Z" } : Jvm.MethodName)) ∈ q_tbl := tm_3 143 rfl rfl
theorem w429 : (Jvm.Cond.selects "WhiteLine$Road" ({ cls := "WhiteLine$Road", name := "isWet", desc := "(I)Z" } : Jvm.MethodName) ({ cls := "WhiteLine$Road", name := "isWet", desc := "(I)Z" } : Jvm.MethodName)) ∈ q_tbl := tm_3 144 rfl rfl
theorem w430 : (Jvm.Cond.code ({ cls := "WhiteLine$Road", name := "isWet", desc := "(I)Z" } : Jvm.MethodName) prog_9_method_9_code (2 : Nat) (Option.some Jvm.ClassFile.FieldType.boolean)) ∈ q_tbl := tm_3 145 rfl rfl
theorem w431 : (Jvm.Cond.methodLink "WhiteLine$Night" (54 : Nat) ({ cls := "WhiteLine$Law", name := "ask", desc := "(ILWhiteLine$Road;IIII)I" } : Jvm.MethodName)) ∈ q_tbl := tm_3 146 rfl rfl
theorem w432 : (Jvm.Cond.instanceMethod ({ cls := "WhiteLine$Law", name := "ask", desc := "(ILWhiteLine$Road;IIII)I" } : Jvm.MethodName)) ∈ q_tbl := tm_3 147 rfl rfl
theorem w433 : (Jvm.Cond.selects "WhiteLine$Law" ({ cls := "WhiteLine$Law", name := "ask", desc := "(ILWhiteLine$Road;IIII)I" } : Jvm.MethodName) ({ cls := "WhiteLine$Law", name := "ask", desc := "(ILWhiteLine$Road;IIII)I" } : Jvm.MethodName)) ∈ q_tbl := tm_3 148 rfl rfl
theorem w434 : (Jvm.Cond.code ({ cls := "WhiteLine$Law", name := "ask", desc := "(ILWhiteLine$Road;IIII)I" } : Jvm.MethodName) prog_5_method_7_code (9 : Nat) (Option.some Jvm.ClassFile.FieldType.int)) ∈ q_tbl := tm_3 149 rfl rfl
theorem w435 : (Jvm.Cond.methodLink "WhiteLine$Law" (63 : Nat) ({ cls := "WhiteLine$Law", name := "run", desc := "(I)I" } : Jvm.MethodName)) ∈ q_tbl := tm_3 150 rfl rfl
theorem w436 : (Jvm.Cond.instanceMethod ({ cls := "WhiteLine$Law", name := "run", desc := "(I)I" } : Jvm.MethodName)) ∈ q_tbl := tm_3 152 rfl rfl
theorem w437 : (Jvm.Cond.code ({ cls := "WhiteLine$Law", name := "run", desc := "(I)I" } : Jvm.MethodName) prog_5_method_9_code (4 : Nat) (Option.some Jvm.ClassFile.FieldType.int)) ∈ q_tbl := tm_3 153 rfl rfl
theorem w438 : (Jvm.Cond.methodLink "WhiteLine$Law" (74 : Nat) ({ cls := "WhiteLine$Law", name := "take", desc := "(I)I" } : Jvm.MethodName)) ∈ q_tbl := tm_3 154 rfl rfl
theorem w439 : (Jvm.Cond.instanceMethod ({ cls := "WhiteLine$Law", name := "take", desc := "(I)I" } : Jvm.MethodName)) ∈ q_tbl := tm_3 156 rfl rfl
theorem w440 : (Jvm.Cond.code ({ cls := "WhiteLine$Law", name := "take", desc := "(I)I" } : Jvm.MethodName) prog_5_method_10_code (5 : Nat) (Option.some Jvm.ClassFile.FieldType.int)) ∈ q_tbl := tm_3 157 rfl rfl
theorem w441 : (Jvm.Cond.methodLink "WhiteLine$Law" (81 : Nat) ({ cls := "WhiteLine$Law", name := "push", desc := "(I)V" } : Jvm.MethodName)) ∈ q_tbl := tm_3 158 rfl rfl
theorem w442 : (Jvm.Cond.instanceMethod ({ cls := "WhiteLine$Law", name := "push", desc := "(I)V" } : Jvm.MethodName)) ∈ q_tbl := tm_3 160 rfl rfl
theorem w443 : (Jvm.Cond.code ({ cls := "WhiteLine$Law", name := "push", desc := "(I)V" } : Jvm.MethodName) prog_5_method_14_code (2 : Nat) (Option.none : Option Jvm.ClassFile.FieldType)) ∈ q_tbl := tm_3 161 rfl rfl
theorem w444 : (Jvm.Cond.methodLink "WhiteLine$Law" (85 : Nat) ({ cls := "WhiteLine$Law", name := "valueOf", desc := "(I)I" } : Jvm.MethodName)) ∈ q_tbl := tm_3 162 rfl rfl
theorem w445 : (Jvm.Cond.instanceMethod ({ cls := "WhiteLine$Law", name := "valueOf", desc := "(I)I" } : Jvm.MethodName)) ∈ q_tbl := tm_3 164 rfl rfl
theorem w446 : (Jvm.Cond.code ({ cls := "WhiteLine$Law", name := "valueOf", desc := "(I)I" } : Jvm.MethodName) prog_5_method_13_code (2 : Nat) (Option.some Jvm.ClassFile.FieldType.int)) ∈ q_tbl := tm_3 165 rfl rfl
theorem w447 : (Jvm.Cond.methodLink "WhiteLine$Law" (108 : Nat) ({ cls := "java/lang/Math", name := "abs", desc := "(I)I" } : Jvm.MethodName)) ∈ q_tbl := tm_3 166 rfl rfl
theorem w448 : (Jvm.Cond.methodLink "WhiteLine$Law" (77 : Nat) ({ cls := "WhiteLine$Law", name := "pop", desc := "()I" } : Jvm.MethodName)) ∈ q_tbl := tm_3 167 rfl rfl
theorem w449 : (Jvm.Cond.instanceMethod ({ cls := "WhiteLine$Law", name := "pop", desc := "()I" } : Jvm.MethodName)) ∈ q_tbl := tm_3 169 rfl rfl
theorem w450 : (Jvm.Cond.code ({ cls := "WhiteLine$Law", name := "pop", desc := "()I" } : Jvm.MethodName) prog_5_method_15_code (1 : Nat) (Option.some Jvm.ClassFile.FieldType.int)) ∈ q_tbl := tm_3 170 rfl rfl
theorem w451 : (Jvm.Cond.methodLink "WhiteLine$Law" (88 : Nat) ({ cls := "WhiteLine$Law", name := "skipOrGoOn", desc := "(I)I" } : Jvm.MethodName)) ∈ q_tbl := tm_3 171 rfl rfl
theorem w452 : (Jvm.Cond.instanceMethod ({ cls := "WhiteLine$Law", name := "skipOrGoOn", desc := "(I)I" } : Jvm.MethodName)) ∈ q_tbl := tm_3 173 rfl rfl
theorem w453 : (Jvm.Cond.code ({ cls := "WhiteLine$Law", name := "skipOrGoOn", desc := "(I)I" } : Jvm.MethodName) prog_5_method_11_code (4 : Nat) (Option.some Jvm.ClassFile.FieldType.int)) ∈ q_tbl := tm_3 174 rfl rfl
theorem w454 : (Jvm.Cond.methodLink "WhiteLine$Law" (91 : Nat) ({ cls := "WhiteLine$Law", name := "reckon", desc := "(III)I" } : Jvm.MethodName)) ∈ q_tbl := tm_3 175 rfl rfl
theorem w455 : (Jvm.Cond.instanceMethod ({ cls := "WhiteLine$Law", name := "reckon", desc := "(III)I" } : Jvm.MethodName)) ∈ q_tbl := tm_3 177 rfl rfl
theorem w456 : (Jvm.Cond.code ({ cls := "WhiteLine$Law", name := "reckon", desc := "(III)I" } : Jvm.MethodName) prog_5_method_12_code (4 : Nat) (Option.some Jvm.ClassFile.FieldType.int)) ∈ q_tbl := tm_3 178 rfl rfl
theorem w457 : (Jvm.Cond.methodLink "WhiteLine$Law" (67 : Nat) ({ cls := "WhiteLine$Law", name := "highest", desc := "(I)I" } : Jvm.MethodName)) ∈ q_tbl := tm_3 179 rfl rfl
theorem w458 : (Jvm.Cond.static ({ cls := "WhiteLine$Law", name := "highest", desc := "(I)I" } : Jvm.MethodName)) ∈ q_tbl := tm_3 180 rfl rfl
theorem w459 : (Jvm.Cond.code ({ cls := "WhiteLine$Law", name := "highest", desc := "(I)I" } : Jvm.MethodName) prog_5_method_8_code (1 : Nat) (Option.some Jvm.ClassFile.FieldType.int)) ∈ q_tbl := tm_3 181 rfl rfl
theorem w460 : (Jvm.Cond.static ({ cls := "WhiteLine", name := "heldIn", desc := "(III)I" } : Jvm.MethodName)) ∈ q_tbl := tm_3 183 rfl rfl
theorem w461 : (Jvm.Cond.code ({ cls := "WhiteLine", name := "heldIn", desc := "(III)I" } : Jvm.MethodName) prog_1_method_42_code (3 : Nat) (Option.some Jvm.ClassFile.FieldType.int)) ∈ q_tbl := tm_3 184 rfl rfl
theorem w462 : (Jvm.Cond.methodLink "WhiteLine" (337 : Nat) ({ cls := "java/lang/Math", name := "min", desc := "(II)I" } : Jvm.MethodName)) ∈ q_tbl := tm_3 185 rfl rfl
theorem w463 : (Jvm.Cond.methodLink "WhiteLine" (241 : Nat) ({ cls := "java/lang/Math", name := "max", desc := "(II)I" } : Jvm.MethodName)) ∈ q_tbl := tm_3 186 rfl rfl
theorem w464 : (Jvm.Cond.methodLink "WhiteLine$Night" (21 : Nat) ({ cls := "WhiteLine$Night", name := "paintDots", desc := "(LWhiteLine$Road;LWhiteLine$Law;)I" } : Jvm.MethodName)) ∈ q_tbl := tm_3 187 rfl rfl
theorem w465 : (Jvm.Cond.static ({ cls := "WhiteLine$Night", name := "paintDots", desc := "(LWhiteLine$Road;LWhiteLine$Law;)I" } : Jvm.MethodName)) ∈ q_tbl := tm_3 188 rfl rfl
theorem w466 : (Jvm.Cond.code ({ cls := "WhiteLine$Night", name := "paintDots", desc := "(LWhiteLine$Road;LWhiteLine$Law;)I" } : Jvm.MethodName) prog_7_method_4_code (5 : Nat) (Option.some Jvm.ClassFile.FieldType.int)) ∈ q_tbl := tm_3 189 rfl rfl
theorem w467 : (Jvm.Cond.methodLink "WhiteLine$Night" (60 : Nat) ({ cls := "WhiteLine$Road", name := "isDot", desc := "(I)Z" } : Jvm.MethodName)) ∈ q_tbl := tm_3 190 rfl rfl
theorem w468 : (Jvm.Cond.methodLink "WhiteLine$Night" (67 : Nat) ({ cls := "WhiteLine$Road", name := "offsetBy", desc := "(II)I" } : Jvm.MethodName)) ∈ q_tbl := tm_3 191 rfl rfl
theorem w469 : (Jvm.Cond.instanceMethod ({ cls := "WhiteLine$Road", name := "offsetBy", desc := "(II)I" } : Jvm.MethodName)) ∈ q_tbl := tm_3 192 rfl rfl
theorem w470 : (Jvm.Cond.selects "WhiteLine$Road" ({ cls := "WhiteLine$Road", name := "offsetBy", desc := "(II)I" } : Jvm.MethodName) ({ cls := "WhiteLine$Road", name := "offsetBy", desc := "(II)I" } : Jvm.MethodName)) ∈ q_tbl := tm_3 193 rfl rfl
theorem w471 : (Jvm.Cond.code ({ cls := "WhiteLine$Road", name := "offsetBy", desc := "(II)I" } : Jvm.MethodName) prog_9_method_14_code (3 : Nat) (Option.some Jvm.ClassFile.FieldType.int)) ∈ q_tbl := tm_3 194 rfl rfl
theorem w472 : (Jvm.Cond.methodLink "WhiteLine$Night" (25 : Nat) ({ cls := "WhiteLine$Night", name := "drive", desc := "(LWhiteLine$Road;)V" } : Jvm.MethodName)) ∈ q_tbl := tm_3 196 rfl rfl
theorem w473 : (Jvm.Cond.static ({ cls := "WhiteLine$Night", name := "drive", desc := "(LWhiteLine$Road;)V" } : Jvm.MethodName)) ∈ q_tbl := tm_3 197 rfl rfl
theorem w474 : (Jvm.Cond.code ({ cls := "WhiteLine$Night", name := "drive", desc := "(LWhiteLine$Road;)V" } : Jvm.MethodName) prog_7_method_5_code (4 : Nat) (Option.none : Option Jvm.ClassFile.FieldType)) ∈ q_tbl := tm_3 198 rfl rfl
theorem w475 : (Jvm.Cond.methodLink "WhiteLine$Night" (86 : Nat) ({ cls := "WhiteLine$Road", name := "isWet", desc := "(I)Z" } : Jvm.MethodName)) ∈ q_tbl := tm_3 199 rfl rfl
theorem w476 : (Jvm.Cond.methodLink "WhiteLine$Night" (89 : Nat) ({ cls := "WhiteLine$Road", name := "isBeingPainted", desc := "(I)Z" } : Jvm.MethodName)) ∈ q_tbl := tm_3 200 rfl rfl
theorem w477 : (Jvm.Cond.methodLink "WhiteLine$Night" (92 : Nat) ({ cls := "WhiteLine$Road", name := "spoil", desc := "(II)V" } : Jvm.MethodName)) ∈ q_tbl := tm_3 201 rfl rfl
theorem w478 : (Jvm.Cond.instanceMethod ({ cls := "WhiteLine$Road", name := "spoil", desc := "(II)V" } : Jvm.MethodName)) ∈ q_tbl := tm_3 202 rfl rfl
theorem w479 : (Jvm.Cond.selects "WhiteLine$Road" ({ cls := "WhiteLine$Road", name := "spoil", desc := "(II)V" } : Jvm.MethodName) ({ cls := "WhiteLine$Road", name := "spoil", desc := "(II)V" } : Jvm.MethodName)) ∈ q_tbl := tm_3 203 rfl rfl
theorem w480 : (Jvm.Cond.code ({ cls := "WhiteLine$Road", name := "spoil", desc := "(II)V" } : Jvm.MethodName) prog_9_method_13_code (3 : Nat) (Option.none : Option Jvm.ClassFile.FieldType)) ∈ q_tbl := tm_3 204 rfl rfl
theorem w481 : (Jvm.Cond.methodLink "WhiteLine$Night" (29 : Nat) ({ cls := "WhiteLine$Night", name := "letDewFall", desc := "(LWhiteLine$Road;)V" } : Jvm.MethodName)) ∈ q_tbl := tm_3 205 rfl rfl
theorem w482 : (Jvm.Cond.static ({ cls := "WhiteLine$Night", name := "letDewFall", desc := "(LWhiteLine$Road;)V" } : Jvm.MethodName)) ∈ q_tbl := tm_3 206 rfl rfl
theorem w483 : (Jvm.Cond.code ({ cls := "WhiteLine$Night", name := "letDewFall", desc := "(LWhiteLine$Road;)V" } : Jvm.MethodName) prog_7_method_6_code (2 : Nat) (Option.none : Option Jvm.ClassFile.FieldType)) ∈ q_tbl := tm_3 207 rfl rfl
theorem w484 : (Jvm.Cond.methodLink "WhiteLineLaw" (63 : Nat) ({ cls := "WhiteLine", name := "tried", desc := "(II)I" } : Jvm.MethodName)) ∈ q_tbl := tm_3 208 rfl rfl
theorem w485 : (Jvm.Cond.instanceMethod ({ cls := "WhiteLine", name := "tried", desc := "(II)I" } : Jvm.MethodName)) ∈ q_tbl := tm_3 209 rfl rfl
theorem w486 : (Jvm.Cond.selects "WhiteLine" ({ cls := "WhiteLine", name := "tried", desc := "(II)I" } : Jvm.MethodName) ({ cls := "WhiteLine", name := "tried", desc := "(II)I" } : Jvm.MethodName)) ∈ q_tbl := tm_3 210 rfl rfl
theorem w487 : (Jvm.Cond.code ({ cls := "WhiteLine", name := "tried", desc := "(II)I" } : Jvm.MethodName) prog_1_method_13_code (3 : Nat) (Option.some Jvm.ClassFile.FieldType.int)) ∈ q_tbl := tm_3 211 rfl rfl
theorem w488 : (Jvm.Cond.methodLink "WhiteLine" (167 : Nat) ({ cls := "WhiteLine$Road", name := "copyFrom", desc := "(LWhiteLine$Road;)V" } : Jvm.MethodName)) ∈ q_tbl := tm_3 212 rfl rfl
theorem w489 : (Jvm.Cond.instanceMethod ({ cls := "WhiteLine$Road", name := "copyFrom", desc := "(LWhiteLine$Road;)V" } : Jvm.MethodName)) ∈ q_tbl := tm_3 213 rfl rfl
theorem w490 : (Jvm.Cond.selects "WhiteLine$Road" ({ cls := "WhiteLine$Road", name := "copyFrom", desc := "(LWhiteLine$Road;)V" } : Jvm.MethodName) ({ cls := "WhiteLine$Road", name := "copyFrom", desc := "(LWhiteLine$Road;)V" } : Jvm.MethodName)) ∈ q_tbl := tm_3 214 rfl rfl
theorem w491 : (Jvm.Cond.code ({ cls := "WhiteLine$Road", name := "copyFrom", desc := "(LWhiteLine$Road;)V" } : Jvm.MethodName) prog_9_method_3_code (3 : Nat) (Option.none : Option Jvm.ClassFile.FieldType)) ∈ q_tbl := tm_3 215 rfl rfl
theorem w492 : (Jvm.Cond.methodLink "WhiteLine$Road" (75 : Nat) ({ cls := "java/lang/System", name := "arraycopy", desc := "(Ljava/lang/Object;ILjava/lang/Object;II)V" } : Jvm.MethodName)) ∈ q_tbl := tm_3 216 rfl rfl
theorem w493 : (Jvm.Cond.static ({ cls := "java/lang/System", name := "arraycopy", desc := "(Ljava/lang/Object;ILjava/lang/Object;II)V" } : Jvm.MethodName)) ∈ q_tbl := tm_3 217 rfl rfl
theorem w494 : (Jvm.Cond.native ({ cls := "java/lang/System", name := "arraycopy", desc := "(Ljava/lang/Object;ILjava/lang/Object;II)V" } : Jvm.MethodName)) ∈ q_tbl := tm_3 218 rfl rfl
theorem w495 : (Jvm.Cond.methodLink "WhiteLine" (171 : Nat) ({ cls := "WhiteLine$Road", name := "paintedDots", desc := "()I" } : Jvm.MethodName)) ∈ q_tbl := tm_3 219 rfl rfl
theorem w496 : (Jvm.Cond.instanceMethod ({ cls := "WhiteLine$Road", name := "paintedDots", desc := "()I" } : Jvm.MethodName)) ∈ q_tbl := tm_3 220 rfl rfl
theorem w497 : (Jvm.Cond.selects "WhiteLine$Road" ({ cls := "WhiteLine$Road", name := "paintedDots", desc := "()I" } : Jvm.MethodName) ({ cls := "WhiteLine$Road", name := "paintedDots", desc := "()I" } : Jvm.MethodName)) ∈ q_tbl := tm_3 221 rfl rfl
theorem w498 : (Jvm.Cond.code ({ cls := "WhiteLine$Road", name := "paintedDots", desc := "()I" } : Jvm.MethodName) prog_9_method_17_code (3 : Nat) (Option.some Jvm.ClassFile.FieldType.int)) ∈ q_tbl := tm_3 222 rfl rfl
theorem w499 : (Jvm.Cond.methodLink "WhiteLine" (175 : Nat) ({ cls := "WhiteLine$Road", name := "spoiltDots", desc := "()I" } : Jvm.MethodName)) ∈ q_tbl := tm_3 223 rfl rfl
theorem w500 : (Jvm.Cond.instanceMethod ({ cls := "WhiteLine$Road", name := "spoiltDots", desc := "()I" } : Jvm.MethodName)) ∈ q_tbl := tm_3 224 rfl rfl
theorem w501 : (Jvm.Cond.selects "WhiteLine$Road" ({ cls := "WhiteLine$Road", name := "spoiltDots", desc := "()I" } : Jvm.MethodName) ({ cls := "WhiteLine$Road", name := "spoiltDots", desc := "()I" } : Jvm.MethodName)) ∈ q_tbl := tm_3 225 rfl rfl
theorem w502 : (Jvm.Cond.code ({ cls := "WhiteLine$Road", name := "spoiltDots", desc := "()I" } : Jvm.MethodName) prog_9_method_18_code (3 : Nat) (Option.some Jvm.ClassFile.FieldType.int)) ∈ q_tbl := tm_3 226 rfl rfl
theorem w503 : (Jvm.Cond.methodLink "WhiteLine$Road" (103 : Nat) ({ cls := "WhiteLine$Road", name := "isSpoilt", desc := "(I)Z" } : Jvm.MethodName)) ∈ q_tbl := tm_3 227 rfl rfl
theorem w504 : (Jvm.Cond.instanceMethod ({ cls := "WhiteLine$Road", name := "isSpoilt", desc := "(I)Z" } : Jvm.MethodName)) ∈ q_tbl := tm_3 228 rfl rfl
theorem w505 : (Jvm.Cond.selects "WhiteLine$Road" ({ cls := "WhiteLine$Road", name := "isSpoilt", desc := "(I)Z" } : Jvm.MethodName) ({ cls := "WhiteLine$Road", name := "isSpoilt", desc := "(I)Z" } : Jvm.MethodName)) ∈ q_tbl := tm_3 229 rfl rfl
theorem w506 : (Jvm.Cond.code ({ cls := "WhiteLine$Road", name := "isSpoilt", desc := "(I)Z" } : Jvm.MethodName) prog_9_method_8_code (2 : Nat) (Option.some Jvm.ClassFile.FieldType.boolean)) ∈ q_tbl := tm_3 230 rfl rfl
theorem w507 : (Jvm.Cond.methodLink "WhiteLine" (178 : Nat) ({ cls := "WhiteLine$Road", name := "wetDots", desc := "()I" } : Jvm.MethodName)) ∈ q_tbl := tm_3 231 rfl rfl
theorem w508 : (Jvm.Cond.methodLink "WhiteLine" (181 : Nat) ({ cls := "WhiteLine$Road", name := "offKerb", desc := "()I" } : Jvm.MethodName)) ∈ q_tbl := tm_3 232 rfl rfl
theorem w509 : (Jvm.Cond.instanceMethod ({ cls := "WhiteLine$Road", name := "offKerb", desc := "()I" } : Jvm.MethodName)) ∈ q_tbl := tm_3 233 rfl rfl
theorem w510 : (Jvm.Cond.selects "WhiteLine$Road" ({ cls := "WhiteLine$Road", name := "offKerb", desc := "()I" } : Jvm.MethodName) ({ cls := "WhiteLine$Road", name := "offKerb", desc := "()I" } : Jvm.MethodName)) ∈ q_tbl := tm_3 234 rfl rfl
theorem w511 : (Jvm.Cond.code ({ cls := "WhiteLine$Road", name := "offKerb", desc := "()I" } : Jvm.MethodName) prog_9_method_20_code (3 : Nat) (Option.some Jvm.ClassFile.FieldType.int)) ∈ q_tbl := tm_3 235 rfl rfl
theorem w512 : (Jvm.Cond.methodLink "WhiteLine$Road" (109 : Nat) ({ cls := "java/lang/Math", name := "abs", desc := "(I)I" } : Jvm.MethodName)) ∈ q_tbl := tm_3 236 rfl rfl
theorem w513 : (Jvm.Cond.methodLink "WhiteLineLaw" (67 : Nat) ({ cls := "WhiteLine", name := "dot", desc := "(II)I" } : Jvm.MethodName)) ∈ q_tbl := tm_3 237 rfl rfl
theorem w514 : (Jvm.Cond.instanceMethod ({ cls := "WhiteLine", name := "dot", desc := "(II)I" } : Jvm.MethodName)) ∈ q_tbl := tm_3 238 rfl rfl
theorem w515 : (Jvm.Cond.selects "WhiteLine" ({ cls := "WhiteLine", name := "dot", desc := "(II)I" } : Jvm.MethodName) ({ cls := "WhiteLine", name := "dot", desc := "(II)I" } : Jvm.MethodName)) ∈ q_tbl := tm_3 239 rfl rfl
theorem w516 : (Jvm.Cond.code ({ cls := "WhiteLine", name := "dot", desc := "(II)I" } : Jvm.MethodName) prog_1_method_14_code (3 : Nat) (Option.some Jvm.ClassFile.FieldType.int)) ∈ q_tbl := tm_4 0 rfl rfl
theorem w517 : (Jvm.Cond.methodLink "WhiteLine" (184 : Nat) ({ cls := "WhiteLine$Road", name := "isDot", desc := "(I)Z" } : Jvm.MethodName)) ∈ q_tbl := tm_4 1 rfl rfl
theorem w518 : (Jvm.Cond.methodLink "WhiteLine" (196 : Nat) ({ cls := "WhiteLine", name := "shifted", desc := "(I)I" } : Jvm.MethodName)) ∈ q_tbl := tm_4 2 rfl rfl
theorem w519 : (Jvm.Cond.static ({ cls := "WhiteLine", name := "shifted", desc := "(I)I" } : Jvm.MethodName)) ∈ q_tbl := tm_4 3 rfl rfl
theorem w520 : (Jvm.Cond.code ({ cls := "WhiteLine", name := "shifted", desc := "(I)I" } : Jvm.MethodName) prog_1_method_41_code (1 : Nat) (Option.some Jvm.ClassFile.FieldType.int)) ∈ q_tbl := tm_4 4 rfl rfl
theorem w521 : (Jvm.Cond.methodLink "WhiteLine" (209 : Nat) ({ cls := "WhiteLine$Road", name := "isWet", desc := "(I)Z" } : Jvm.MethodName)) ∈ q_tbl := tm_4 5 rfl rfl
theorem w522 : (Jvm.Cond.methodLink "WhiteLine" (212 : Nat) ({ cls := "WhiteLine$Road", name := "painterOf", desc := "(I)I" } : Jvm.MethodName)) ∈ q_tbl := tm_4 6 rfl rfl
theorem w523 : (Jvm.Cond.methodLink "WhiteLineLaw" (71 : Nat) ({ cls := "WhiteLine", name := "smooth", desc := "(II)I" } : Jvm.MethodName)) ∈ q_tbl := tm_4 7 rfl rfl
theorem w524 : (Jvm.Cond.instanceMethod ({ cls := "WhiteLine", name := "smooth", desc := "(II)I" } : Jvm.MethodName)) ∈ q_tbl := tm_4 8 rfl rfl
theorem w525 : (Jvm.Cond.selects "WhiteLine" ({ cls := "WhiteLine", name := "smooth", desc := "(II)I" } : Jvm.MethodName) ({ cls := "WhiteLine", name := "smooth", desc := "(II)I" } : Jvm.MethodName)) ∈ q_tbl := tm_4 9 rfl rfl
theorem w526 : (Jvm.Cond.code ({ cls := "WhiteLine", name := "smooth", desc := "(II)I" } : Jvm.MethodName) prog_1_method_15_code (4 : Nat) (Option.some Jvm.ClassFile.FieldType.int)) ∈ q_tbl := tm_4 10 rfl rfl
theorem w527 : (Jvm.Cond.methodLink "WhiteLine" (215 : Nat) ({ cls := "WhiteLine$Fit", name := "makeSmooth", desc := "(LWhiteLine$Road;I)I" } : Jvm.MethodName)) ∈ q_tbl := tm_4 11 rfl rfl
theorem w528 : (Jvm.Cond.instanceMethod ({ cls := "WhiteLine$Fit", name := "makeSmooth", desc := "(LWhiteLine$Road;I)I" } : Jvm.MethodName)) ∈ q_tbl := tm_4 12 rfl rfl
theorem w529 : (Jvm.Cond.selects "WhiteLine$Fit" ({ cls := "WhiteLine$Fit", name := "makeSmooth", desc := "(LWhiteLine$Road;I)I" } : Jvm.MethodName) ({ cls := "WhiteLine$Fit", name := "makeSmooth", desc := "(LWhiteLine$Road;I)I" } : Jvm.MethodName)) ∈ q_tbl := tm_4 13 rfl rfl
theorem w530 : (Jvm.Cond.code ({ cls := "WhiteLine$Fit", name := "makeSmooth", desc := "(LWhiteLine$Road;I)I" } : Jvm.MethodName) prog_3_method_2_code (7 : Nat) (Option.some Jvm.ClassFile.FieldType.int)) ∈ q_tbl := tm_4 14 rfl rfl
theorem w531 : (Jvm.Cond.methodLink "WhiteLine$Fit" (33 : Nat) ({ cls := "java/lang/System", name := "arraycopy", desc := "(Ljava/lang/Object;ILjava/lang/Object;II)V" } : Jvm.MethodName)) ∈ q_tbl := tm_4 15 rfl rfl
theorem w532 : (Jvm.Cond.methodLink "WhiteLine$Fit" (39 : Nat) ({ cls := "WhiteLine$Fit", name := "nearest", desc := "(III)I" } : Jvm.MethodName)) ∈ q_tbl := tm_4 16 rfl rfl
theorem w533 : (Jvm.Cond.static ({ cls := "WhiteLine$Fit", name := "nearest", desc := "(III)I" } : Jvm.MethodName)) ∈ q_tbl := tm_4 17 rfl rfl
theorem w534 : (Jvm.Cond.code ({ cls := "WhiteLine$Fit", name := "nearest", desc := "(III)I" } : Jvm.MethodName) prog_3_method_3_code (3 : Nat) (Option.some Jvm.ClassFile.FieldType.int)) ∈ q_tbl := tm_4 18 rfl rfl
theorem w535 : (Jvm.Cond.methodLink "WhiteLine$Fit" (46 : Nat) ({ cls := "java/lang/Math", name := "abs", desc := "(I)I" } : Jvm.MethodName)) ∈ q_tbl := tm_4 20 rfl rfl
theorem w536 : (Jvm.Cond.methodLink "WhiteLine$Fit" (52 : Nat) ({ cls := "WhiteLine$Fit", name := "lowestBest", desc := "()I" } : Jvm.MethodName)) ∈ q_tbl := tm_4 21 rfl rfl
theorem w537 : (Jvm.Cond.instanceMethod ({ cls := "WhiteLine$Fit", name := "lowestBest", desc := "()I" } : Jvm.MethodName)) ∈ q_tbl := tm_4 23 rfl rfl
theorem w538 : (Jvm.Cond.code ({ cls := "WhiteLine$Fit", name := "lowestBest", desc := "()I" } : Jvm.MethodName) prog_3_method_4_code (3 : Nat) (Option.some Jvm.ClassFile.FieldType.int)) ∈ q_tbl := tm_4 24 rfl rfl
theorem w539 : (Jvm.Cond.methodLink "WhiteLineLaw" (75 : Nat) ({ cls := "WhiteLine", name := "apart", desc := "(II)I" } : Jvm.MethodName)) ∈ q_tbl := tm_4 25 rfl rfl
theorem w540 : (Jvm.Cond.instanceMethod ({ cls := "WhiteLine", name := "apart", desc := "(II)I" } : Jvm.MethodName)) ∈ q_tbl := tm_4 26 rfl rfl
theorem w541 : (Jvm.Cond.selects "WhiteLine" ({ cls := "WhiteLine", name := "apart", desc := "(II)I" } : Jvm.MethodName) ({ cls := "WhiteLine", name := "apart", desc := "(II)I" } : Jvm.MethodName)) ∈ q_tbl := tm_4 27 rfl rfl
theorem w542 : (Jvm.Cond.code ({ cls := "WhiteLine", name := "apart", desc := "(II)I" } : Jvm.MethodName) prog_1_method_16_code (4 : Nat) (Option.some Jvm.ClassFile.FieldType.int)) ∈ q_tbl := tm_4 28 rfl rfl
theorem w543 : (Jvm.Cond.methodLink "WhiteLine" (222 : Nat) ({ cls := "WhiteLine$Fit", name := "greatestApart", desc := "(LWhiteLine$Road;I)I" } : Jvm.MethodName)) ∈ q_tbl := tm_4 29 rfl rfl
theorem w544 : (Jvm.Cond.static ({ cls := "WhiteLine$Fit", name := "greatestApart", desc := "(LWhiteLine$Road;I)I" } : Jvm.MethodName)) ∈ q_tbl := tm_4 30 rfl rfl
theorem w545 : (Jvm.Cond.code ({ cls := "WhiteLine$Fit", name := "greatestApart", desc := "(LWhiteLine$Road;I)I" } : Jvm.MethodName) prog_3_method_5_code (3 : Nat) (Option.some Jvm.ClassFile.FieldType.int)) ∈ q_tbl := tm_4 31 rfl rfl
theorem w546 : (Jvm.Cond.methodLink "WhiteLine$Fit" (59 : Nat) ({ cls := "WhiteLine$Fit", name := "fitsApart", desc := "(LWhiteLine$Road;II)Z" } : Jvm.MethodName)) ∈ q_tbl := tm_4 32 rfl rfl
theorem w547 : (Jvm.Cond.static ({ cls := "WhiteLine$Fit", name := "fitsApart", desc := "(LWhiteLine$Road;II)Z" } : Jvm.MethodName)) ∈ q_tbl := tm_4 33 rfl rfl
theorem w548 : (Jvm.Cond.code ({ cls := "WhiteLine$Fit", name := "fitsApart", desc := "(LWhiteLine$Road;II)Z" } : Jvm.MethodName) prog_3_method_6_code (4 : Nat) (Option.some Jvm.ClassFile.FieldType.boolean)) ∈ q_tbl := tm_4 34 rfl rfl
theorem w549 : (Jvm.Cond.methodLink "WhiteLine$Fit" (63 : Nat) ({ cls := "java/lang/Math", name := "min", desc := "(II)I" } : Jvm.MethodName)) ∈ q_tbl := tm_4 35 rfl rfl
theorem w550 : (Jvm.Cond.methodLink "WhiteLine$Fit" (67 : Nat) ({ cls := "WhiteLine$Fit", name := "fitsBetween", desc := "(LWhiteLine$Road;III)Z" } : Jvm.MethodName)) ∈ q_tbl := tm_4 36 rfl rfl
theorem w551 : (Jvm.Cond.static ({ cls := "WhiteLine$Fit", name := "fitsBetween", desc := "(LWhiteLine$Road;III)Z" } : Jvm.MethodName)) ∈ q_tbl := tm_4 37 rfl rfl
theorem w552 : (Jvm.Cond.code ({ cls := "WhiteLine$Fit", name := "fitsBetween", desc := "(LWhiteLine$Road;III)Z" } : Jvm.MethodName) prog_3_method_10_code (5 : Nat) (Option.some Jvm.ClassFile.FieldType.boolean)) ∈ q_tbl := tm_4 38 rfl rfl
theorem w553 : (Jvm.Cond.methodLink "WhiteLine$Fit" (79 : Nat) ({ cls := "WhiteLine$Fit", name := "offAt", desc := "(LWhiteLine$Road;III)I" } : Jvm.MethodName)) ∈ q_tbl := tm_4 39 rfl rfl
theorem w554 : (Jvm.Cond.static ({ cls := "WhiteLine$Fit", name := "offAt", desc := "(LWhiteLine$Road;III)I" } : Jvm.MethodName)) ∈ q_tbl := tm_4 40 rfl rfl
theorem w555 : (Jvm.Cond.code ({ cls := "WhiteLine$Fit", name := "offAt", desc := "(LWhiteLine$Road;III)I" } : Jvm.MethodName) prog_3_method_12_code (5 : Nat) (Option.some Jvm.ClassFile.FieldType.int)) ∈ q_tbl := tm_4 41 rfl rfl
theorem w556 : (Jvm.Cond.methodLink "WhiteLine$Fit" (71 : Nat) ({ cls := "java/lang/Math", name := "max", desc := "(II)I" } : Jvm.MethodName)) ∈ q_tbl := tm_4 42 rfl rfl
theorem w557 : (Jvm.Cond.methodLink "WhiteLine" (225 : Nat) ({ cls := "WhiteLine$Fit", name := "offByApart", desc := "(LWhiteLine$Road;I)I" } : Jvm.MethodName)) ∈ q_tbl := tm_4 43 rfl rfl
theorem w558 : (Jvm.Cond.static ({ cls := "WhiteLine$Fit", name := "offByApart", desc := "(LWhiteLine$Road;I)I" } : Jvm.MethodName)) ∈ q_tbl := tm_4 44 rfl rfl
theorem w559 : (Jvm.Cond.code ({ cls := "WhiteLine$Fit", name := "offByApart", desc := "(LWhiteLine$Road;I)I" } : Jvm.MethodName) prog_3_method_7_code (4 : Nat) (Option.some Jvm.ClassFile.FieldType.int)) ∈ q_tbl := tm_4 45 rfl rfl
theorem w560 : (Jvm.Cond.methodLink "WhiteLine$Fit" (74 : Nat) ({ cls := "WhiteLine$Fit", name := "offBetween", desc := "(LWhiteLine$Road;II)I" } : Jvm.MethodName)) ∈ q_tbl := tm_4 46 rfl rfl
theorem w561 : (Jvm.Cond.static ({ cls := "WhiteLine$Fit", name := "offBetween", desc := "(LWhiteLine$Road;II)I" } : Jvm.MethodName)) ∈ q_tbl := tm_4 47 rfl rfl
theorem w562 : (Jvm.Cond.code ({ cls := "WhiteLine$Fit", name := "offBetween", desc := "(LWhiteLine$Road;II)I" } : Jvm.MethodName) prog_3_method_11_code (5 : Nat) (Option.some Jvm.ClassFile.FieldType.int)) ∈ q_tbl := tm_4 48 rfl rfl
theorem w563 : (Jvm.Cond.methodLink "WhiteLineLaw" (79 : Nat) ({ cls := "WhiteLine", name := "seen", desc := "(III)I" } : Jvm.MethodName)) ∈ q_tbl := tm_4 49 rfl rfl
theorem w564 : (Jvm.Cond.instanceMethod ({ cls := "WhiteLine", name := "seen", desc := "(III)I" } : Jvm.MethodName)) ∈ q_tbl := tm_4 50 rfl rfl
theorem w565 : (Jvm.Cond.selects "WhiteLine" ({ cls := "WhiteLine", name := "seen", desc := "(III)I" } : Jvm.MethodName) ({ cls := "WhiteLine", name := "seen", desc := "(III)I" } : Jvm.MethodName)) ∈ q_tbl := tm_4 51 rfl rfl
theorem w566 : (Jvm.Cond.code ({ cls := "WhiteLine", name := "seen", desc := "(III)I" } : Jvm.MethodName) prog_1_method_17_code (4 : Nat) (Option.some Jvm.ClassFile.FieldType.int)) ∈ q_tbl := tm_4 52 rfl rfl
theorem w567 : (Jvm.Cond.methodLink "WhiteLine" (228 : Nat) ({ cls := "WhiteLine", name := "isEye", desc := "(I)Z" } : Jvm.MethodName)) ∈ q_tbl := tm_4 53 rfl rfl
theorem w568 : (Jvm.Cond.static ({ cls := "WhiteLine", name := "isEye", desc := "(I)Z" } : Jvm.MethodName)) ∈ q_tbl := tm_4 54 rfl rfl
theorem w569 : (Jvm.Cond.code ({ cls := "WhiteLine", name := "isEye", desc := "(I)Z" } : Jvm.MethodName) prog_1_method_40_code (1 : Nat) (Option.some Jvm.ClassFile.FieldType.boolean)) ∈ q_tbl := tm_4 55 rfl rfl
theorem w570 : (Jvm.Cond.methodLink "WhiteLine" (231 : Nat) ({ cls := "WhiteLine$Sight", name := "dotsAhead", desc := "(LWhiteLine$Road;III)I" } : Jvm.MethodName)) ∈ q_tbl := tm_4 56 rfl rfl
theorem w571 : (Jvm.Cond.static ({ cls := "WhiteLine$Sight", name := "dotsAhead", desc := "(LWhiteLine$Road;III)I" } : Jvm.MethodName)) ∈ q_tbl := tm_4 57 rfl rfl
theorem w572 : (Jvm.Cond.code ({ cls := "WhiteLine$Sight", name := "dotsAhead", desc := "(LWhiteLine$Road;III)I" } : Jvm.MethodName) prog_11_method_2_code (10 : Nat) (Option.some Jvm.ClassFile.FieldType.int)) ∈ q_tbl := tm_4 58 rfl rfl
theorem w573 : (Jvm.Cond.methodLink "WhiteLine$Sight" (15 : Nat) ({ cls := "WhiteLine$Road", name := "isDot", desc := "(I)Z" } : Jvm.MethodName)) ∈ q_tbl := tm_4 59 rfl rfl
theorem w574 : (Jvm.Cond.methodLink "WhiteLineLaw" (84 : Nat) ({ cls := "WhiteLine", name := "marked", desc := "(II)I" } : Jvm.MethodName)) ∈ q_tbl := tm_4 60 rfl rfl
theorem w575 : (Jvm.Cond.instanceMethod ({ cls := "WhiteLine", name := "marked", desc := "(II)I" } : Jvm.MethodName)) ∈ q_tbl := tm_4 61 rfl rfl
theorem w576 : (Jvm.Cond.selects "WhiteLine" ({ cls := "WhiteLine", name := "marked", desc := "(II)I" } : Jvm.MethodName) ({ cls := "WhiteLine", name := "marked", desc := "(II)I" } : Jvm.MethodName)) ∈ q_tbl := tm_4 62 rfl rfl
theorem w577 : (Jvm.Cond.code ({ cls := "WhiteLine", name := "marked", desc := "(II)I" } : Jvm.MethodName) prog_1_method_18_code (3 : Nat) (Option.some Jvm.ClassFile.FieldType.int)) ∈ q_tbl := tm_4 63 rfl rfl
theorem w578 : (Jvm.Cond.methodLink "WhiteLine" (237 : Nat) ({ cls := "WhiteLine$Sight", name := "marking", desc := "(LWhiteLine$Road;LWhiteLine$Law;II)I" } : Jvm.MethodName)) ∈ q_tbl := tm_4 64 rfl rfl
theorem w579 : (Jvm.Cond.static ({ cls := "WhiteLine$Sight", name := "marking", desc := "(LWhiteLine$Road;LWhiteLine$Law;II)I" } : Jvm.MethodName)) ∈ q_tbl := tm_4 65 rfl rfl
theorem w580 : (Jvm.Cond.code ({ cls := "WhiteLine$Sight", name := "marking", desc := "(LWhiteLine$Road;LWhiteLine$Law;II)I" } : Jvm.MethodName) prog_11_method_5_code (6 : Nat) (Option.some Jvm.ClassFile.FieldType.int)) ∈ q_tbl := tm_4 66 rfl rfl
theorem w581 : (Jvm.Cond.methodLink "WhiteLine$Sight" (42 : Nat) ({ cls := "WhiteLine$Sight", name := "isBroken", desc := "(LWhiteLine$Road;LWhiteLine$Law;III)Z" } : Jvm.MethodName)) ∈ q_tbl := tm_4 67 rfl rfl
theorem w582 : (Jvm.Cond.static ({ cls := "WhiteLine$Sight", name := "isBroken", desc := "(LWhiteLine$Road;LWhiteLine$Law;III)Z" } : Jvm.MethodName)) ∈ q_tbl := tm_4 68 rfl rfl
theorem w583 : (Jvm.Cond.code ({ cls := "WhiteLine$Sight", name := "isBroken", desc := "(LWhiteLine$Road;LWhiteLine$Law;III)Z" } : Jvm.MethodName) prog_11_method_4_code (5 : Nat) (Option.some Jvm.ClassFile.FieldType.boolean)) ∈ q_tbl := tm_4 69 rfl rfl
theorem w584 : (Jvm.Cond.methodLink "WhiteLine$Sight" (32 : Nat) ({ cls := "WhiteLine$Law", name := "ask", desc := "(ILWhiteLine$Road;IIII)I" } : Jvm.MethodName)) ∈ q_tbl := tm_4 70 rfl rfl
theorem w585 : (Jvm.Cond.methodLink "WhiteLine$Sight" (38 : Nat) ({ cls := "WhiteLine$Sight", name := "suffices", desc := "(LWhiteLine$Road;IIII)Z" } : Jvm.MethodName)) ∈ q_tbl := tm_4 71 rfl rfl
theorem w586 : (Jvm.Cond.static ({ cls := "WhiteLine$Sight", name := "suffices", desc := "(LWhiteLine$Road;IIII)Z" } : Jvm.MethodName)) ∈ q_tbl := tm_4 72 rfl rfl
theorem w587 : (Jvm.Cond.code ({ cls := "WhiteLine$Sight", name := "suffices", desc := "(LWhiteLine$Road;IIII)Z" } : Jvm.MethodName) prog_11_method_3_code (7 : Nat) (Option.some Jvm.ClassFile.FieldType.boolean)) ∈ q_tbl := tm_4 73 rfl rfl
theorem w588 : (Jvm.Cond.methodLink "WhiteLine$Sight" (23 : Nat) ({ cls := "WhiteLine$Sight", name := "dotsAhead", desc := "(LWhiteLine$Road;III)I" } : Jvm.MethodName)) ∈ q_tbl := tm_4 74 rfl rfl
theorem w589 : (Jvm.Cond.methodLink "WhiteLineLaw" (88 : Nat) ({ cls := "WhiteLine", name := "markings", desc := "(III)I" } : Jvm.MethodName)) ∈ q_tbl := tm_4 75 rfl rfl
theorem w590 : (Jvm.Cond.instanceMethod ({ cls := "WhiteLine", name := "markings", desc := "(III)I" } : Jvm.MethodName)) ∈ q_tbl := tm_4 76 rfl rfl
theorem w591 : (Jvm.Cond.selects "WhiteLine" ({ cls := "WhiteLine", name := "markings", desc := "(III)I" } : Jvm.MethodName) ({ cls := "WhiteLine", name := "markings", desc := "(III)I" } : Jvm.MethodName)) ∈ q_tbl := tm_4 77 rfl rfl
theorem w592 : (Jvm.Cond.code ({ cls := "WhiteLine", name := "markings", desc := "(III)I" } : Jvm.MethodName) prog_1_method_19_code (8 : Nat) (Option.some Jvm.ClassFile.FieldType.int)) ∈ q_tbl := tm_4 78 rfl rfl
theorem w593 : (Jvm.Cond.methodLink "WhiteLineLaw" (92 : Nat) ({ cls := "WhiteLine", name := "joins", desc := "(III)I" } : Jvm.MethodName)) ∈ q_tbl := tm_4 79 rfl rfl
theorem w594 : (Jvm.Cond.instanceMethod ({ cls := "WhiteLine", name := "joins", desc := "(III)I" } : Jvm.MethodName)) ∈ q_tbl := tm_4 80 rfl rfl
theorem w595 : (Jvm.Cond.selects "WhiteLine" ({ cls := "WhiteLine", name := "joins", desc := "(III)I" } : Jvm.MethodName) ({ cls := "WhiteLine", name := "joins", desc := "(III)I" } : Jvm.MethodName)) ∈ q_tbl := tm_4 81 rfl rfl
theorem w596 : (Jvm.Cond.code ({ cls := "WhiteLine", name := "joins", desc := "(III)I" } : Jvm.MethodName) prog_1_method_20_code (5 : Nat) (Option.some Jvm.ClassFile.FieldType.int)) ∈ q_tbl := tm_4 82 rfl rfl
theorem w597 : (Jvm.Cond.methodLink "WhiteLine" (247 : Nat) ({ cls := "WhiteLine", name := "isOffset", desc := "(I)Z" } : Jvm.MethodName)) ∈ q_tbl := tm_4 83 rfl rfl
theorem w598 : (Jvm.Cond.static ({ cls := "WhiteLine", name := "isOffset", desc := "(I)Z" } : Jvm.MethodName)) ∈ q_tbl := tm_4 84 rfl rfl
theorem w599 : (Jvm.Cond.code ({ cls := "WhiteLine", name := "isOffset", desc := "(I)Z" } : Jvm.MethodName) prog_1_method_39_code (1 : Nat) (Option.some Jvm.ClassFile.FieldType.boolean)) ∈ q_tbl := tm_4 85 rfl rfl
theorem w600 : (Jvm.Cond.methodLink "WhiteLine" (250 : Nat) ({ cls := "java/lang/Math", name := "abs", desc := "(I)I" } : Jvm.MethodName)) ∈ q_tbl := tm_4 86 rfl rfl
theorem w601 : (Jvm.Cond.methodLink "WhiteLineLaw" (96 : Nat) ({ cls := "WhiteLine", name := "begins", desc := "(II)I" } : Jvm.MethodName)) ∈ q_tbl := tm_4 87 rfl rfl
theorem w602 : (Jvm.Cond.instanceMethod ({ cls := "WhiteLine", name := "begins", desc := "(II)I" } : Jvm.MethodName)) ∈ q_tbl := tm_4 88 rfl rfl
theorem w603 : (Jvm.Cond.selects "WhiteLine" ({ cls := "WhiteLine", name := "begins", desc := "(II)I" } : Jvm.MethodName) ({ cls := "WhiteLine", name := "begins", desc := "(II)I" } : Jvm.MethodName)) ∈ q_tbl := tm_4 89 rfl rfl
theorem w604 : (Jvm.Cond.code ({ cls := "WhiteLine", name := "begins", desc := "(II)I" } : Jvm.MethodName) prog_1_method_21_code (3 : Nat) (Option.some Jvm.ClassFile.FieldType.int)) ∈ q_tbl := tm_4 90 rfl rfl
theorem w605 : (Jvm.Cond.methodLink "WhiteLine" (253 : Nat) ({ cls := "WhiteLine$Plan", name := "paint", desc := "(LWhiteLine$Road;LWhiteLine$Law;II)V" } : Jvm.MethodName)) ∈ q_tbl := tm_4 91 rfl rfl
theorem w606 : (Jvm.Cond.instanceMethod ({ cls := "WhiteLine$Plan", name := "paint", desc := "(LWhiteLine$Road;LWhiteLine$Law;II)V" } : Jvm.MethodName)) ∈ q_tbl := tm_4 92 rfl rfl
theorem w607 : (Jvm.Cond.selects "WhiteLine$Plan" ({ cls := "WhiteLine$Plan", name := "paint", desc := "(LWhiteLine$Road;LWhiteLine$Law;II)V" } : Jvm.MethodName) ({ cls := "WhiteLine$Plan", name := "paint", desc := "(LWhiteLine$Road;LWhiteLine$Law;II)V" } : Jvm.MethodName)) ∈ q_tbl := tm_4 93 rfl rfl
theorem w608 : (Jvm.Cond.code ({ cls := "WhiteLine$Plan", name := "paint", desc := "(LWhiteLine$Road;LWhiteLine$Law;II)V" } : Jvm.MethodName) prog_8_method_2_code (8 : Nat) (Option.none : Option Jvm.ClassFile.FieldType)) ∈ q_tbl := tm_4 94 rfl rfl
theorem w609 : (Jvm.Cond.methodLink "WhiteLine$Plan" (39 : Nat) ({ cls := "WhiteLine$Plan", name := "paintOne", desc := "(LWhiteLine$Road;LWhiteLine$Law;II)V" } : Jvm.MethodName)) ∈ q_tbl := tm_4 95 rfl rfl
theorem w610 : (Jvm.Cond.instanceMethod ({ cls := "WhiteLine$Plan", name := "paintOne", desc := "(LWhiteLine$Road;LWhiteLine$Law;II)V" } : Jvm.MethodName)) ∈ q_tbl := tm_4 97 rfl rfl
theorem w611 : (Jvm.Cond.code ({ cls := "WhiteLine$Plan", name := "paintOne", desc := "(LWhiteLine$Road;LWhiteLine$Law;II)V" } : Jvm.MethodName) prog_8_method_3_code (7 : Nat) (Option.none : Option Jvm.ClassFile.FieldType)) ∈ q_tbl := tm_4 98 rfl rfl
theorem w612 : (Jvm.Cond.methodLink "WhiteLine$Plan" (43 : Nat) ({ cls := "WhiteLine$Law", name := "ask", desc := "(ILWhiteLine$Road;IIII)I" } : Jvm.MethodName)) ∈ q_tbl := tm_4 99 rfl rfl
theorem w613 : (Jvm.Cond.methodLink "WhiteLine$Plan" (49 : Nat) ({ cls := "java/lang/Math", name := "max", desc := "(II)I" } : Jvm.MethodName)) ∈ q_tbl := tm_4 100 rfl rfl
theorem w614 : (Jvm.Cond.methodLink "WhiteLine" (260 : Nat) ({ cls := "WhiteLine$Plan", name := "conesNeeded", desc := "(I)I" } : Jvm.MethodName)) ∈ q_tbl := tm_4 101 rfl rfl
theorem w615 : (Jvm.Cond.instanceMethod ({ cls := "WhiteLine$Plan", name := "conesNeeded", desc := "(I)I" } : Jvm.MethodName)) ∈ q_tbl := tm_4 102 rfl rfl
theorem w616 : (Jvm.Cond.selects "WhiteLine$Plan" ({ cls := "WhiteLine$Plan", name := "conesNeeded", desc := "(I)I" } : Jvm.MethodName) ({ cls := "WhiteLine$Plan", name := "conesNeeded", desc := "(I)I" } : Jvm.MethodName)) ∈ q_tbl := tm_4 103 rfl rfl
theorem w617 : (Jvm.Cond.code ({ cls := "WhiteLine$Plan", name := "conesNeeded", desc := "(I)I" } : Jvm.MethodName) prog_8_method_4_code (6 : Nat) (Option.some Jvm.ClassFile.FieldType.int)) ∈ q_tbl := tm_4 104 rfl rfl
theorem w618 : (Jvm.Cond.methodLink "WhiteLineLaw" (100 : Nat) ({ cls := "WhiteLine", name := "latest", desc := "(I)I" } : Jvm.MethodName)) ∈ q_tbl := tm_4 105 rfl rfl
theorem w619 : (Jvm.Cond.instanceMethod ({ cls := "WhiteLine", name := "latest", desc := "(I)I" } : Jvm.MethodName)) ∈ q_tbl := tm_4 106 rfl rfl
theorem w620 : (Jvm.Cond.selects "WhiteLine" ({ cls := "WhiteLine", name := "latest", desc := "(I)I" } : Jvm.MethodName) ({ cls := "WhiteLine", name := "latest", desc := "(I)I" } : Jvm.MethodName)) ∈ q_tbl := tm_4 107 rfl rfl
theorem w621 : (Jvm.Cond.code ({ cls := "WhiteLine", name := "latest", desc := "(I)I" } : Jvm.MethodName) prog_1_method_22_code (4 : Nat) (Option.some Jvm.ClassFile.FieldType.int)) ∈ q_tbl := tm_4 108 rfl rfl
theorem w622 : (Jvm.Cond.methodLink "WhiteLineLaw" (104 : Nat) ({ cls := "WhiteLine", name := "dewOdds", desc := "(IIII)I" } : Jvm.MethodName)) ∈ q_tbl := tm_4 109 rfl rfl
theorem w623 : (Jvm.Cond.instanceMethod ({ cls := "WhiteLine", name := "dewOdds", desc := "(IIII)I" } : Jvm.MethodName)) ∈ q_tbl := tm_4 110 rfl rfl
theorem w624 : (Jvm.Cond.selects "WhiteLine" ({ cls := "WhiteLine", name := "dewOdds", desc := "(IIII)I" } : Jvm.MethodName) ({ cls := "WhiteLine", name := "dewOdds", desc := "(IIII)I" } : Jvm.MethodName)) ∈ q_tbl := tm_4 111 rfl rfl
theorem w625 : (Jvm.Cond.code ({ cls := "WhiteLine", name := "dewOdds", desc := "(IIII)I" } : Jvm.MethodName) prog_1_method_23_code (9 : Nat) (Option.some Jvm.ClassFile.FieldType.int)) ∈ q_tbl := tm_4 112 rfl rfl
theorem w626 : (Jvm.Cond.methodLink "WhiteLine" (269 : Nat) ({ cls := "WhiteLine", name := "commonDivisor", desc := "(II)I" } : Jvm.MethodName)) ∈ q_tbl := tm_4 113 rfl rfl
theorem w627 : (Jvm.Cond.static ({ cls := "WhiteLine", name := "commonDivisor", desc := "(II)I" } : Jvm.MethodName)) ∈ q_tbl := tm_4 114 rfl rfl
theorem w628 : (Jvm.Cond.code ({ cls := "WhiteLine", name := "commonDivisor", desc := "(II)I" } : Jvm.MethodName) prog_1_method_43_code (6 : Nat) (Option.some Jvm.ClassFile.FieldType.int)) ∈ q_tbl := tm_4 115 rfl rfl
theorem w629 : (Jvm.Cond.methodLink "WhiteLineLaw" (109 : Nat) ({ cls := "WhiteLine", name := "meet", desc := "(III)I" } : Jvm.MethodName)) ∈ q_tbl := tm_4 116 rfl rfl
theorem w630 : (Jvm.Cond.instanceMethod ({ cls := "WhiteLine", name := "meet", desc := "(III)I" } : Jvm.MethodName)) ∈ q_tbl := tm_4 117 rfl rfl
theorem w631 : (Jvm.Cond.selects "WhiteLine" ({ cls := "WhiteLine", name := "meet", desc := "(III)I" } : Jvm.MethodName) ({ cls := "WhiteLine", name := "meet", desc := "(III)I" } : Jvm.MethodName)) ∈ q_tbl := tm_4 118 rfl rfl
theorem w632 : (Jvm.Cond.code ({ cls := "WhiteLine", name := "meet", desc := "(III)I" } : Jvm.MethodName) prog_1_method_24_code (5 : Nat) (Option.some Jvm.ClassFile.FieldType.int)) ∈ q_tbl := tm_4 119 rfl rfl
theorem w633 : (Jvm.Cond.methodLink "WhiteLine" (278 : Nat) ({ cls := "WhiteLine$Road", name := "offsetBy", desc := "(II)I" } : Jvm.MethodName)) ∈ q_tbl := tm_4 120 rfl rfl
theorem w634 : (Jvm.Cond.methodLink "WhiteLineLaw" (113 : Nat) ({ cls := "WhiteLine", name := "pinned", desc := "(II)I" } : Jvm.MethodName)) ∈ q_tbl := tm_4 121 rfl rfl
theorem w635 : (Jvm.Cond.instanceMethod ({ cls := "WhiteLine", name := "pinned", desc := "(II)I" } : Jvm.MethodName)) ∈ q_tbl := tm_4 122 rfl rfl
theorem w636 : (Jvm.Cond.selects "WhiteLine" ({ cls := "WhiteLine", name := "pinned", desc := "(II)I" } : Jvm.MethodName) ({ cls := "WhiteLine", name := "pinned", desc := "(II)I" } : Jvm.MethodName)) ∈ q_tbl := tm_4 123 rfl rfl
theorem w637 : (Jvm.Cond.code ({ cls := "WhiteLine", name := "pinned", desc := "(II)I" } : Jvm.MethodName) prog_1_method_25_code (4 : Nat) (Option.some Jvm.ClassFile.FieldType.int)) ∈ q_tbl := tm_4 124 rfl rfl
theorem w638 : (Jvm.Cond.methodLink "WhiteLine" (281 : Nat) ({ cls := "WhiteLine$Fit", name := "pin", desc := "(LWhiteLine$Road;I)I" } : Jvm.MethodName)) ∈ q_tbl := tm_4 125 rfl rfl
theorem w639 : (Jvm.Cond.instanceMethod ({ cls := "WhiteLine$Fit", name := "pin", desc := "(LWhiteLine$Road;I)I" } : Jvm.MethodName)) ∈ q_tbl := tm_4 126 rfl rfl
theorem w640 : (Jvm.Cond.selects "WhiteLine$Fit" ({ cls := "WhiteLine$Fit", name := "pin", desc := "(LWhiteLine$Road;I)I" } : Jvm.MethodName) ({ cls := "WhiteLine$Fit", name := "pin", desc := "(LWhiteLine$Road;I)I" } : Jvm.MethodName)) ∈ q_tbl := tm_4 127 rfl rfl
theorem w641 : (Jvm.Cond.code ({ cls := "WhiteLine$Fit", name := "pin", desc := "(LWhiteLine$Road;I)I" } : Jvm.MethodName) prog_3_method_8_code (7 : Nat) (Option.some Jvm.ClassFile.FieldType.int)) ∈ q_tbl := tm_4 128 rfl rfl
theorem w642 : (Jvm.Cond.constant "WhiteLine$Fit" (78 : Nat) (1000000 : Int32)) ∈ q_tbl := tm_4 129 rfl rfl
theorem w643 : (Jvm.Cond.methodLink "WhiteLine" (284 : Nat) ({ cls := "WhiteLine$Fit", name := "offByPins", desc := "(LWhiteLine$Road;I)I" } : Jvm.MethodName)) ∈ q_tbl := tm_4 130 rfl rfl
theorem w644 : (Jvm.Cond.instanceMethod ({ cls := "WhiteLine$Fit", name := "offByPins", desc := "(LWhiteLine$Road;I)I" } : Jvm.MethodName)) ∈ q_tbl := tm_4 131 rfl rfl
theorem w645 : (Jvm.Cond.selects "WhiteLine$Fit" ({ cls := "WhiteLine$Fit", name := "offByPins", desc := "(LWhiteLine$Road;I)I" } : Jvm.MethodName) ({ cls := "WhiteLine$Fit", name := "offByPins", desc := "(LWhiteLine$Road;I)I" } : Jvm.MethodName)) ∈ q_tbl := tm_4 132 rfl rfl
theorem w646 : (Jvm.Cond.code ({ cls := "WhiteLine$Fit", name := "offByPins", desc := "(LWhiteLine$Road;I)I" } : Jvm.MethodName) prog_3_method_9_code (5 : Nat) (Option.some Jvm.ClassFile.FieldType.int)) ∈ q_tbl := tm_4 133 rfl rfl
theorem w647 : (Jvm.Cond.methodLink "WhiteLineLaw" (117 : Nat) ({ cls := "WhiteLine", name := "lights", desc := "(III)I" } : Jvm.MethodName)) ∈ q_tbl := tm_4 134 rfl rfl
theorem w648 : (Jvm.Cond.instanceMethod ({ cls := "WhiteLine", name := "lights", desc := "(III)I" } : Jvm.MethodName)) ∈ q_tbl := tm_4 135 rfl rfl
theorem w649 : (Jvm.Cond.selects "WhiteLine" ({ cls := "WhiteLine", name := "lights", desc := "(III)I" } : Jvm.MethodName) ({ cls := "WhiteLine", name := "lights", desc := "(III)I" } : Jvm.MethodName)) ∈ q_tbl := tm_4 136 rfl rfl
theorem w650 : (Jvm.Cond.code ({ cls := "WhiteLine", name := "lights", desc := "(III)I" } : Jvm.MethodName) prog_1_method_26_code (7 : Nat) (Option.some Jvm.ClassFile.FieldType.int)) ∈ q_tbl := tm_4 137 rfl rfl
theorem w651 : (Jvm.Cond.methodLink "WhiteLine" (287 : Nat) ({ cls := "WhiteLine$Lane", name := "take", desc := "([II)Z" } : Jvm.MethodName)) ∈ q_tbl := tm_4 138 rfl rfl
theorem w652 : (Jvm.Cond.instanceMethod ({ cls := "WhiteLine$Lane", name := "take", desc := "([II)Z" } : Jvm.MethodName)) ∈ q_tbl := tm_4 139 rfl rfl
theorem w653 : (Jvm.Cond.selects "WhiteLine$Lane" ({ cls := "WhiteLine$Lane", name := "take", desc := "([II)Z" } : Jvm.MethodName) ({ cls := "WhiteLine$Lane", name := "take", desc := "([II)Z" } : Jvm.MethodName)) ∈ q_tbl := tm_4 140 rfl rfl
theorem w654 : (Jvm.Cond.code ({ cls := "WhiteLine$Lane", name := "take", desc := "([II)Z" } : Jvm.MethodName) prog_4_method_2_code (4 : Nat) (Option.some Jvm.ClassFile.FieldType.boolean)) ∈ q_tbl := tm_4 141 rfl rfl
theorem w655 : (Jvm.Cond.methodLink "WhiteLine" (291 : Nat) ({ cls := "WhiteLine$Lane", name := "waits", desc := "(II)I" } : Jvm.MethodName)) ∈ q_tbl := tm_4 143 rfl rfl
theorem w656 : (Jvm.Cond.instanceMethod ({ cls := "WhiteLine$Lane", name := "waits", desc := "(II)I" } : Jvm.MethodName)) ∈ q_tbl := tm_4 144 rfl rfl
theorem w657 : (Jvm.Cond.selects "WhiteLine$Lane" ({ cls := "WhiteLine$Lane", name := "waits", desc := "(II)I" } : Jvm.MethodName) ({ cls := "WhiteLine$Lane", name := "waits", desc := "(II)I" } : Jvm.MethodName)) ∈ q_tbl := tm_4 145 rfl rfl
theorem w658 : (Jvm.Cond.code ({ cls := "WhiteLine$Lane", name := "waits", desc := "(II)I" } : Jvm.MethodName) prog_4_method_4_code (7 : Nat) (Option.some Jvm.ClassFile.FieldType.int)) ∈ q_tbl := tm_4 146 rfl rfl
theorem w659 : (Jvm.Cond.methodLink "WhiteLine$Lane" (33 : Nat) ({ cls := "java/lang/Math", name := "max", desc := "(II)I" } : Jvm.MethodName)) ∈ q_tbl := tm_4 147 rfl rfl
theorem w660 : (Jvm.Cond.methodLink "WhiteLine$Lane" (38 : Nat) ({ cls := "WhiteLine$Lane", name := "nextGreen", desc := "(IIII)I" } : Jvm.MethodName)) ∈ q_tbl := tm_4 148 rfl rfl
theorem w661 : (Jvm.Cond.static ({ cls := "WhiteLine$Lane", name := "nextGreen", desc := "(IIII)I" } : Jvm.MethodName)) ∈ q_tbl := tm_4 149 rfl rfl
theorem w662 : (Jvm.Cond.code ({ cls := "WhiteLine$Lane", name := "nextGreen", desc := "(IIII)I" } : Jvm.MethodName) prog_4_method_5_code (7 : Nat) (Option.some Jvm.ClassFile.FieldType.int)) ∈ q_tbl := tm_4 150 rfl rfl
theorem w663 : (Jvm.Cond.methodLink "WhiteLine$Lane" (42 : Nat) ({ cls := "java/lang/Math", name := "floorMod", desc := "(II)I" } : Jvm.MethodName)) ∈ q_tbl := tm_4 151 rfl rfl
theorem w664 : (Jvm.Cond.static ({ cls := "java/lang/Math", name := "floorMod", desc := "(II)I" } : Jvm.MethodName)) ∈ q_tbl := tm_4 152 rfl rfl
theorem w665 : (Jvm.Cond.code ({ cls := "java/lang/Math", name := "floorMod", desc := "(II)I" } : Jvm.MethodName) prog_15_method_50_code (3 : Nat) (Option.some Jvm.ClassFile.FieldType.int)) ∈ q_tbl := tm_4 153 rfl rfl
theorem w666 : (Jvm.Cond.methodLink "WhiteLine" (294 : Nat) ({ cls := "WhiteLine$Lane", name := "bestGreen", desc := "(I)I" } : Jvm.MethodName)) ∈ q_tbl := tm_4 154 rfl rfl
theorem w667 : (Jvm.Cond.instanceMethod ({ cls := "WhiteLine$Lane", name := "bestGreen", desc := "(I)I" } : Jvm.MethodName)) ∈ q_tbl := tm_4 155 rfl rfl
theorem w668 : (Jvm.Cond.selects "WhiteLine$Lane" ({ cls := "WhiteLine$Lane", name := "bestGreen", desc := "(I)I" } : Jvm.MethodName) ({ cls := "WhiteLine$Lane", name := "bestGreen", desc := "(I)I" } : Jvm.MethodName)) ∈ q_tbl := tm_4 156 rfl rfl
theorem w669 : (Jvm.Cond.code ({ cls := "WhiteLine$Lane", name := "bestGreen", desc := "(I)I" } : Jvm.MethodName) prog_4_method_3_code (6 : Nat) (Option.some Jvm.ClassFile.FieldType.int)) ∈ q_tbl := tm_4 157 rfl rfl
theorem w670 : (Jvm.Cond.methodLink "WhiteLine$Lane" (29 : Nat) ({ cls := "WhiteLine$Lane", name := "waits", desc := "(II)I" } : Jvm.MethodName)) ∈ q_tbl := tm_4 158 rfl rfl
theorem w671 : (Jvm.Cond.methodLink "WhiteLineLaw" (121 : Nat) ({ cls := "WhiteLine", name := "believed", desc := "(IZ)I" } : Jvm.MethodName)) ∈ q_tbl := tm_4 159 rfl rfl
theorem w672 : (Jvm.Cond.instanceMethod ({ cls := "WhiteLine", name := "believed", desc := "(IZ)I" } : Jvm.MethodName)) ∈ q_tbl := tm_4 160 rfl rfl
theorem w673 : (Jvm.Cond.selects "WhiteLine" ({ cls := "WhiteLine", name := "believed", desc := "(IZ)I" } : Jvm.MethodName) ({ cls := "WhiteLine", name := "believed", desc := "(IZ)I" } : Jvm.MethodName)) ∈ q_tbl := tm_4 161 rfl rfl
theorem w674 : (Jvm.Cond.code ({ cls := "WhiteLine", name := "believed", desc := "(IZ)I" } : Jvm.MethodName) prog_1_method_27_code (3 : Nat) (Option.some Jvm.ClassFile.FieldType.int)) ∈ q_tbl := tm_4 162 rfl rfl
theorem w675 : (Jvm.Cond.methodLink "WhiteLine" (297 : Nat) ({ cls := "WhiteLine$Driver", name := "belief", desc := "(LWhiteLine$Road;LWhiteLine$Law;IZ)I" } : Jvm.MethodName)) ∈ q_tbl := tm_4 163 rfl rfl
theorem w676 : (Jvm.Cond.static ({ cls := "WhiteLine$Driver", name := "belief", desc := "(LWhiteLine$Road;LWhiteLine$Law;IZ)I" } : Jvm.MethodName)) ∈ q_tbl := tm_4 164 rfl rfl
theorem w677 : (Jvm.Cond.code ({ cls := "WhiteLine$Driver", name := "belief", desc := "(LWhiteLine$Road;LWhiteLine$Law;IZ)I" } : Jvm.MethodName) prog_2_method_2_code (7 : Nat) (Option.some Jvm.ClassFile.FieldType.int)) ∈ q_tbl := tm_4 165 rfl rfl
theorem w678 : (Jvm.Cond.methodLink "WhiteLine$Driver" (34 : Nat) ({ cls := "WhiteLine$Law", name := "ask", desc := "(ILWhiteLine$Road;IIII)I" } : Jvm.MethodName)) ∈ q_tbl := tm_4 166 rfl rfl
theorem w679 : (Jvm.Cond.methodLink "WhiteLine$Driver" (40 : Nat) ({ cls := "WhiteLine$Road", name := "isPainted", desc := "(I)Z" } : Jvm.MethodName)) ∈ q_tbl := tm_4 167 rfl rfl
theorem w680 : (Jvm.Cond.methodLink "WhiteLine$Driver" (44 : Nat) ({ cls := "WhiteLine$Road", name := "isSpoilt", desc := "(I)Z" } : Jvm.MethodName)) ∈ q_tbl := tm_4 168 rfl rfl
theorem w681 : (Jvm.Cond.methodLink "WhiteLineLaw" (126 : Nat) ({ cls := "WhiteLine", name := "lost", desc := "(IZ)I" } : Jvm.MethodName)) ∈ q_tbl := tm_4 169 rfl rfl
theorem w682 : (Jvm.Cond.instanceMethod ({ cls := "WhiteLine", name := "lost", desc := "(IZ)I" } : Jvm.MethodName)) ∈ q_tbl := tm_4 170 rfl rfl
theorem w683 : (Jvm.Cond.selects "WhiteLine" ({ cls := "WhiteLine", name := "lost", desc := "(IZ)I" } : Jvm.MethodName) ({ cls := "WhiteLine", name := "lost", desc := "(IZ)I" } : Jvm.MethodName)) ∈ q_tbl := tm_4 171 rfl rfl
theorem w684 : (Jvm.Cond.code ({ cls := "WhiteLine", name := "lost", desc := "(IZ)I" } : Jvm.MethodName) prog_1_method_28_code (3 : Nat) (Option.some Jvm.ClassFile.FieldType.int)) ∈ q_tbl := tm_4 172 rfl rfl
theorem w685 : (Jvm.Cond.methodLink "WhiteLine" (301 : Nat) ({ cls := "WhiteLine$Driver", name := "findLost", desc := "(LWhiteLine$Road;LWhiteLine$Law;IZ)I" } : Jvm.MethodName)) ∈ q_tbl := tm_4 173 rfl rfl
theorem w686 : (Jvm.Cond.instanceMethod ({ cls := "WhiteLine$Driver", name := "findLost", desc := "(LWhiteLine$Road;LWhiteLine$Law;IZ)I" } : Jvm.MethodName)) ∈ q_tbl := tm_4 174 rfl rfl
theorem w687 : (Jvm.Cond.selects "WhiteLine$Driver" ({ cls := "WhiteLine$Driver", name := "findLost", desc := "(LWhiteLine$Road;LWhiteLine$Law;IZ)I" } : Jvm.MethodName) ({ cls := "WhiteLine$Driver", name := "findLost", desc := "(LWhiteLine$Road;LWhiteLine$Law;IZ)I" } : Jvm.MethodName)) ∈ q_tbl := tm_4 175 rfl rfl
theorem w688 : (Jvm.Cond.code ({ cls := "WhiteLine$Driver", name := "findLost", desc := "(LWhiteLine$Road;LWhiteLine$Law;IZ)I" } : Jvm.MethodName) prog_2_method_3_code (8 : Nat) (Option.some Jvm.ClassFile.FieldType.int)) ∈ q_tbl := tm_4 176 rfl rfl
theorem w689 : (Jvm.Cond.methodLink "WhiteLine$Driver" (56 : Nat) ({ cls := "WhiteLine$Driver", name := "belief", desc := "(LWhiteLine$Road;LWhiteLine$Law;IZ)I" } : Jvm.MethodName)) ∈ q_tbl := tm_4 177 rfl rfl
theorem w690 : (Jvm.Cond.methodLink "WhiteLine$Driver" (60 : Nat) ({ cls := "java/lang/Math", name := "abs", desc := "(I)I" } : Jvm.MethodName)) ∈ q_tbl := tm_4 178 rfl rfl
theorem w691 : (Jvm.Cond.methodLink "WhiteLineLaw" (130 : Nat) ({ cls := "WhiteLine", name := "burnFirst", desc := "(IIZI)I" } : Jvm.MethodName)) ∈ q_tbl := tm_4 179 rfl rfl
theorem w692 : (Jvm.Cond.instanceMethod ({ cls := "WhiteLine", name := "burnFirst", desc := "(IIZI)I" } : Jvm.MethodName)) ∈ q_tbl := tm_4 180 rfl rfl
theorem w693 : (Jvm.Cond.selects "WhiteLine" ({ cls := "WhiteLine", name := "burnFirst", desc := "(IIZI)I" } : Jvm.MethodName) ({ cls := "WhiteLine", name := "burnFirst", desc := "(IIZI)I" } : Jvm.MethodName)) ∈ q_tbl := tm_4 181 rfl rfl
theorem w694 : (Jvm.Cond.code ({ cls := "WhiteLine", name := "burnFirst", desc := "(IIZI)I" } : Jvm.MethodName) prog_1_method_29_code (8 : Nat) (Option.some Jvm.ClassFile.FieldType.int)) ∈ q_tbl := tm_4 182 rfl rfl
theorem w695 : (Jvm.Cond.methodLink "WhiteLine" (304 : Nat) ({ cls := "WhiteLine$Driver", name := "lostIn", desc := "(II)I" } : Jvm.MethodName)) ∈ q_tbl := tm_4 183 rfl rfl
theorem w696 : (Jvm.Cond.instanceMethod ({ cls := "WhiteLine$Driver", name := "lostIn", desc := "(II)I" } : Jvm.MethodName)) ∈ q_tbl := tm_4 184 rfl rfl
theorem w697 : (Jvm.Cond.selects "WhiteLine$Driver" ({ cls := "WhiteLine$Driver", name := "lostIn", desc := "(II)I" } : Jvm.MethodName) ({ cls := "WhiteLine$Driver", name := "lostIn", desc := "(II)I" } : Jvm.MethodName)) ∈ q_tbl := tm_4 185 rfl rfl
theorem w698 : (Jvm.Cond.code ({ cls := "WhiteLine$Driver", name := "lostIn", desc := "(II)I" } : Jvm.MethodName) prog_2_method_4_code (5 : Nat) (Option.some Jvm.ClassFile.FieldType.int)) ∈ q_tbl := tm_4 186 rfl rfl
theorem w699 : (Jvm.Cond.methodLink "WhiteLineLaw" (135 : Nat) ({ cls := "WhiteLine", name := "cut", desc := "(III)I" } : Jvm.MethodName)) ∈ q_tbl := tm_4 187 rfl rfl
theorem w700 : (Jvm.Cond.instanceMethod ({ cls := "WhiteLine", name := "cut", desc := "(III)I" } : Jvm.MethodName)) ∈ q_tbl := tm_4 188 rfl rfl
theorem w701 : (Jvm.Cond.selects "WhiteLine" ({ cls := "WhiteLine", name := "cut", desc := "(III)I" } : Jvm.MethodName) ({ cls := "WhiteLine", name := "cut", desc := "(III)I" } : Jvm.MethodName)) ∈ q_tbl := tm_4 189 rfl rfl
theorem w702 : (Jvm.Cond.code ({ cls := "WhiteLine", name := "cut", desc := "(III)I" } : Jvm.MethodName) prog_1_method_30_code (6 : Nat) (Option.some Jvm.ClassFile.FieldType.int)) ∈ q_tbl := tm_4 190 rfl rfl
theorem w703 : (Jvm.Cond.methodLink "WhiteLine" (307 : Nat) ({ cls := "WhiteLine$Sight", name := "isBroken", desc := "(LWhiteLine$Road;LWhiteLine$Law;III)Z" } : Jvm.MethodName)) ∈ q_tbl := tm_4 191 rfl rfl
theorem w704 : (Jvm.Cond.methodLink "WhiteLine" (311 : Nat) ({ cls := "WhiteLine$Sight", name := "suffices", desc := "(LWhiteLine$Road;IIII)Z" } : Jvm.MethodName)) ∈ q_tbl := tm_4 192 rfl rfl
theorem w705 : (Jvm.Cond.methodLink "WhiteLineLaw" (139 : Nat) ({ cls := "WhiteLine", name := "renewed", desc := "(III)I" } : Jvm.MethodName)) ∈ q_tbl := tm_4 193 rfl rfl
theorem w706 : (Jvm.Cond.instanceMethod ({ cls := "WhiteLine", name := "renewed", desc := "(III)I" } : Jvm.MethodName)) ∈ q_tbl := tm_4 194 rfl rfl
theorem w707 : (Jvm.Cond.selects "WhiteLine" ({ cls := "WhiteLine", name := "renewed", desc := "(III)I" } : Jvm.MethodName) ({ cls := "WhiteLine", name := "renewed", desc := "(III)I" } : Jvm.MethodName)) ∈ q_tbl := tm_4 195 rfl rfl
theorem w708 : (Jvm.Cond.code ({ cls := "WhiteLine", name := "renewed", desc := "(III)I" } : Jvm.MethodName) prog_1_method_31_code (5 : Nat) (Option.some Jvm.ClassFile.FieldType.int)) ∈ q_tbl := tm_4 196 rfl rfl
theorem w709 : (Jvm.Cond.methodLink "WhiteLine" (315 : Nat) ({ cls := "WhiteLine$Stretches", name := "choose", desc := "(LWhiteLine$Road;II)I" } : Jvm.MethodName)) ∈ q_tbl := tm_4 197 rfl rfl
theorem w710 : (Jvm.Cond.instanceMethod ({ cls := "WhiteLine$Stretches", name := "choose", desc := "(LWhiteLine$Road;II)I" } : Jvm.MethodName)) ∈ q_tbl := tm_4 198 rfl rfl
theorem w711 : (Jvm.Cond.selects "WhiteLine$Stretches" ({ cls := "WhiteLine$Stretches", name := "choose", desc := "(LWhiteLine$Road;II)I" } : Jvm.MethodName) ({ cls := "WhiteLine$Stretches", name := "choose", desc := "(LWhiteLine$Road;II)I" } : Jvm.MethodName)) ∈ q_tbl := tm_4 199 rfl rfl
theorem w712 : (Jvm.Cond.code ({ cls := "WhiteLine$Stretches", name := "choose", desc := "(LWhiteLine$Road;II)I" } : Jvm.MethodName) prog_12_method_2_code (8 : Nat) (Option.some Jvm.ClassFile.FieldType.int)) ∈ q_tbl := tm_4 200 rfl rfl
theorem w713 : (Jvm.Cond.methodLink "WhiteLine$Stretches" (26 : Nat) ({ cls := "WhiteLine$Stretches", name := "mostFrom", desc := "(LWhiteLine$Road;III)I" } : Jvm.MethodName)) ∈ q_tbl := tm_4 201 rfl rfl
theorem w714 : (Jvm.Cond.instanceMethod ({ cls := "WhiteLine$Stretches", name := "mostFrom", desc := "(LWhiteLine$Road;III)I" } : Jvm.MethodName)) ∈ q_tbl := tm_4 203 rfl rfl
theorem w715 : (Jvm.Cond.code ({ cls := "WhiteLine$Stretches", name := "mostFrom", desc := "(LWhiteLine$Road;III)I" } : Jvm.MethodName) prog_12_method_3_code (6 : Nat) (Option.some Jvm.ClassFile.FieldType.int)) ∈ q_tbl := tm_4 204 rfl rfl
theorem w716 : (Jvm.Cond.methodLink "WhiteLine$Stretches" (30 : Nat) ({ cls := "WhiteLine$Stretches", name := "mostBegunAt", desc := "(LWhiteLine$Road;III)I" } : Jvm.MethodName)) ∈ q_tbl := tm_4 205 rfl rfl
theorem w717 : (Jvm.Cond.instanceMethod ({ cls := "WhiteLine$Stretches", name := "mostBegunAt", desc := "(LWhiteLine$Road;III)I" } : Jvm.MethodName)) ∈ q_tbl := tm_4 207 rfl rfl
theorem w718 : (Jvm.Cond.code ({ cls := "WhiteLine$Stretches", name := "mostBegunAt", desc := "(LWhiteLine$Road;III)I" } : Jvm.MethodName) prog_12_method_4_code (7 : Nat) (Option.some Jvm.ClassFile.FieldType.int)) ∈ q_tbl := tm_4 208 rfl rfl
theorem w719 : (Jvm.Cond.methodLink "WhiteLine$Stretches" (33 : Nat) ({ cls := "java/lang/Math", name := "max", desc := "(II)I" } : Jvm.MethodName)) ∈ q_tbl := tm_4 209 rfl rfl
theorem w720 : (Jvm.Cond.methodLink "WhiteLineLaw" (143 : Nat) ({ cls := "WhiteLine", name := "who", desc := "(I)I" } : Jvm.MethodName)) ∈ q_tbl := tm_4 210 rfl rfl
theorem w721 : (Jvm.Cond.instanceMethod ({ cls := "WhiteLine", name := "who", desc := "(I)I" } : Jvm.MethodName)) ∈ q_tbl := tm_4 211 rfl rfl
theorem w722 : (Jvm.Cond.selects "WhiteLine" ({ cls := "WhiteLine", name := "who", desc := "(I)I" } : Jvm.MethodName) ({ cls := "WhiteLine", name := "who", desc := "(I)I" } : Jvm.MethodName)) ∈ q_tbl := tm_4 212 rfl rfl
theorem w723 : (Jvm.Cond.code ({ cls := "WhiteLine", name := "who", desc := "(I)I" } : Jvm.MethodName) prog_1_method_32_code (2 : Nat) (Option.some Jvm.ClassFile.FieldType.int)) ∈ q_tbl := tm_4 213 rfl rfl
theorem w724 : (Jvm.Cond.methodLink "WhiteLine" (322 : Nat) ({ cls := "WhiteLine$Driver", name := "suspect", desc := "(LWhiteLine$Road;)V" } : Jvm.MethodName)) ∈ q_tbl := tm_4 214 rfl rfl
theorem w725 : (Jvm.Cond.instanceMethod ({ cls := "WhiteLine$Driver", name := "suspect", desc := "(LWhiteLine$Road;)V" } : Jvm.MethodName)) ∈ q_tbl := tm_4 215 rfl rfl
theorem w726 : (Jvm.Cond.selects "WhiteLine$Driver" ({ cls := "WhiteLine$Driver", name := "suspect", desc := "(LWhiteLine$Road;)V" } : Jvm.MethodName) ({ cls := "WhiteLine$Driver", name := "suspect", desc := "(LWhiteLine$Road;)V" } : Jvm.MethodName)) ∈ q_tbl := tm_4 216 rfl rfl
theorem w727 : (Jvm.Cond.code ({ cls := "WhiteLine$Driver", name := "suspect", desc := "(LWhiteLine$Road;)V" } : Jvm.MethodName) prog_2_method_5_code (3 : Nat) (Option.none : Option Jvm.ClassFile.FieldType)) ∈ q_tbl := tm_4 217 rfl rfl
theorem w728 : (Jvm.Cond.methodLink "WhiteLine$Driver" (66 : Nat) ({ cls := "WhiteLine$Driver", name := "suspectOneWay", desc := "(LWhiteLine$Road;I)V" } : Jvm.MethodName)) ∈ q_tbl := tm_4 218 rfl rfl
theorem w729 : (Jvm.Cond.instanceMethod ({ cls := "WhiteLine$Driver", name := "suspectOneWay", desc := "(LWhiteLine$Road;I)V" } : Jvm.MethodName)) ∈ q_tbl := tm_4 220 rfl rfl
theorem w730 : (Jvm.Cond.code ({ cls := "WhiteLine$Driver", name := "suspectOneWay", desc := "(LWhiteLine$Road;I)V" } : Jvm.MethodName) prog_2_method_6_code (8 : Nat) (Option.none : Option Jvm.ClassFile.FieldType)) ∈ q_tbl := tm_4 221 rfl rfl
theorem w731 : (Jvm.Cond.methodLink "WhiteLine$Driver" (70 : Nat) ({ cls := "WhiteLine$Driver", name := "isHitByCar", desc := "(LWhiteLine$Road;I)Z" } : Jvm.MethodName)) ∈ q_tbl := tm_4 222 rfl rfl
theorem w732 : (Jvm.Cond.static ({ cls := "WhiteLine$Driver", name := "isHitByCar", desc := "(LWhiteLine$Road;I)Z" } : Jvm.MethodName)) ∈ q_tbl := tm_4 223 rfl rfl
theorem w733 : (Jvm.Cond.code ({ cls := "WhiteLine$Driver", name := "isHitByCar", desc := "(LWhiteLine$Road;I)Z" } : Jvm.MethodName) prog_2_method_8_code (2 : Nat) (Option.some Jvm.ClassFile.FieldType.boolean)) ∈ q_tbl := tm_4 224 rfl rfl
theorem w734 : (Jvm.Cond.methodLink "WhiteLine$Driver" (74 : Nat) ({ cls := "WhiteLine$Driver", name := "hitsFrom", desc := "(LWhiteLine$Road;II)I" } : Jvm.MethodName)) ∈ q_tbl := tm_4 226 rfl rfl
theorem w735 : (Jvm.Cond.static ({ cls := "WhiteLine$Driver", name := "hitsFrom", desc := "(LWhiteLine$Road;II)I" } : Jvm.MethodName)) ∈ q_tbl := tm_4 227 rfl rfl
theorem w736 : (Jvm.Cond.code ({ cls := "WhiteLine$Driver", name := "hitsFrom", desc := "(LWhiteLine$Road;II)I" } : Jvm.MethodName) prog_2_method_10_code (3 : Nat) (Option.some Jvm.ClassFile.FieldType.int)) ∈ q_tbl := tm_4 228 rfl rfl
theorem w737 : (Jvm.Cond.methodLink "WhiteLine$Driver" (78 : Nat) ({ cls := "java/lang/Math", name := "max", desc := "(II)I" } : Jvm.MethodName)) ∈ q_tbl := tm_4 229 rfl rfl
theorem w738 : (Jvm.Cond.methodLink "WhiteLine$Driver" (85 : Nat) ({ cls := "java/lang/Math", name := "min", desc := "(II)I" } : Jvm.MethodName)) ∈ q_tbl := tm_4 230 rfl rfl
theorem w739 : (Jvm.Cond.methodLink "WhiteLine$Driver" (88 : Nat) ({ cls := "WhiteLine$Driver", name := "freeFrom", desc := "(LWhiteLine$Road;II)I" } : Jvm.MethodName)) ∈ q_tbl := tm_4 231 rfl rfl
theorem w740 : (Jvm.Cond.static ({ cls := "WhiteLine$Driver", name := "freeFrom", desc := "(LWhiteLine$Road;II)I" } : Jvm.MethodName)) ∈ q_tbl := tm_4 232 rfl rfl
theorem w741 : (Jvm.Cond.code ({ cls := "WhiteLine$Driver", name := "freeFrom", desc := "(LWhiteLine$Road;II)I" } : Jvm.MethodName) prog_2_method_11_code (6 : Nat) (Option.some Jvm.ClassFile.FieldType.int)) ∈ q_tbl := tm_4 233 rfl rfl
theorem w742 : (Jvm.Cond.methodLink "WhiteLine$Driver" (109 : Nat) ({ cls := "WhiteLine$Driver", name := "mustBeSpared", desc := "(LWhiteLine$Road;I)Z" } : Jvm.MethodName)) ∈ q_tbl := tm_4 234 rfl rfl
theorem w743 : (Jvm.Cond.static ({ cls := "WhiteLine$Driver", name := "mustBeSpared", desc := "(LWhiteLine$Road;I)Z" } : Jvm.MethodName)) ∈ q_tbl := tm_4 235 rfl rfl
theorem w744 : (Jvm.Cond.code ({ cls := "WhiteLine$Driver", name := "mustBeSpared", desc := "(LWhiteLine$Road;I)Z" } : Jvm.MethodName) prog_2_method_9_code (2 : Nat) (Option.some Jvm.ClassFile.FieldType.boolean)) ∈ q_tbl := tm_4 236 rfl rfl
theorem w745 : (Jvm.Cond.methodLink "WhiteLine$Driver" (91 : Nat) ({ cls := "WhiteLine$Driver", name := "nextHit", desc := "(LWhiteLine$Road;III)I" } : Jvm.MethodName)) ∈ q_tbl := tm_4 237 rfl rfl
theorem w746 : (Jvm.Cond.static ({ cls := "WhiteLine$Driver", name := "nextHit", desc := "(LWhiteLine$Road;III)I" } : Jvm.MethodName)) ∈ q_tbl := tm_4 238 rfl rfl
theorem w747 : (Jvm.Cond.code ({ cls := "WhiteLine$Driver", name := "nextHit", desc := "(LWhiteLine$Road;III)I" } : Jvm.MethodName) prog_2_method_12_code (7 : Nat) (Option.some Jvm.ClassFile.FieldType.int)) ∈ q_tbl := tm_4 239 rfl rfl
theorem w748 : (Jvm.Cond.methodLink "WhiteLine$Driver" (95 : Nat) ({ cls := "WhiteLine$Driver", name := "note", desc := "(III)V" } : Jvm.MethodName)) ∈ q_tbl := tm_5 0 rfl rfl
theorem w749 : (Jvm.Cond.instanceMethod ({ cls := "WhiteLine$Driver", name := "note", desc := "(III)V" } : Jvm.MethodName)) ∈ q_tbl := tm_5 2 rfl rfl
theorem w750 : (Jvm.Cond.code ({ cls := "WhiteLine$Driver", name := "note", desc := "(III)V" } : Jvm.MethodName) prog_2_method_7_code (4 : Nat) (Option.none : Option Jvm.ClassFile.FieldType)) ∈ q_tbl := tm_5 3 rfl rfl
theorem w751 : (Jvm.Cond.methodLink "WhiteLineLaw" (147 : Nat) ({ cls := "WhiteLine", name := "keep", desc := "()I" } : Jvm.MethodName)) ∈ q_tbl := tm_5 4 rfl rfl
theorem w752 : (Jvm.Cond.instanceMethod ({ cls := "WhiteLine", name := "keep", desc := "()I" } : Jvm.MethodName)) ∈ q_tbl := tm_5 5 rfl rfl
theorem w753 : (Jvm.Cond.selects "WhiteLine" ({ cls := "WhiteLine", name := "keep", desc := "()I" } : Jvm.MethodName) ({ cls := "WhiteLine", name := "keep", desc := "()I" } : Jvm.MethodName)) ∈ q_tbl := tm_5 6 rfl rfl
theorem w754 : (Jvm.Cond.code ({ cls := "WhiteLine", name := "keep", desc := "()I" } : Jvm.MethodName) prog_1_method_33_code (1 : Nat) (Option.some Jvm.ClassFile.FieldType.int)) ∈ q_tbl := tm_5 7 rfl rfl
theorem w755 : (Jvm.Cond.methodLink "WhiteLineLaw" (152 : Nat) ({ cls := "WhiteLine", name := "undo", desc := "()Z" } : Jvm.MethodName)) ∈ q_tbl := tm_5 8 rfl rfl
theorem w756 : (Jvm.Cond.instanceMethod ({ cls := "WhiteLine", name := "undo", desc := "()Z" } : Jvm.MethodName)) ∈ q_tbl := tm_5 9 rfl rfl
theorem w757 : (Jvm.Cond.selects "WhiteLine" ({ cls := "WhiteLine", name := "undo", desc := "()Z" } : Jvm.MethodName) ({ cls := "WhiteLine", name := "undo", desc := "()Z" } : Jvm.MethodName)) ∈ q_tbl := tm_5 10 rfl rfl
theorem w758 : (Jvm.Cond.code ({ cls := "WhiteLine", name := "undo", desc := "()Z" } : Jvm.MethodName) prog_1_method_34_code (1 : Nat) (Option.some Jvm.ClassFile.FieldType.boolean)) ∈ q_tbl := tm_5 11 rfl rfl
theorem w759 : (Jvm.Cond.methodLink "WhiteLineLaw" (157 : Nat) ({ cls := "WhiteLine", name := "check", desc := "(I)I" } : Jvm.MethodName)) ∈ q_tbl := tm_5 12 rfl rfl
theorem w760 : (Jvm.Cond.instanceMethod ({ cls := "WhiteLine", name := "check", desc := "(I)I" } : Jvm.MethodName)) ∈ q_tbl := tm_5 13 rfl rfl
theorem w761 : (Jvm.Cond.selects "WhiteLine" ({ cls := "WhiteLine", name := "check", desc := "(I)I" } : Jvm.MethodName) ({ cls := "WhiteLine", name := "check", desc := "(I)I" } : Jvm.MethodName)) ∈ q_tbl := tm_5 14 rfl rfl
theorem w762 : (Jvm.Cond.code ({ cls := "WhiteLine", name := "check", desc := "(I)I" } : Jvm.MethodName) prog_1_method_35_code (4 : Nat) (Option.some Jvm.ClassFile.FieldType.int)) ∈ q_tbl := tm_5 15 rfl rfl
theorem w763 : (Jvm.Cond.methodLink "WhiteLineLaw" (161 : Nat) ({ cls := "WhiteLine", name := "count", desc := "(I)I" } : Jvm.MethodName)) ∈ q_tbl := tm_5 16 rfl rfl
theorem w764 : (Jvm.Cond.instanceMethod ({ cls := "WhiteLine", name := "count", desc := "(I)I" } : Jvm.MethodName)) ∈ q_tbl := tm_5 17 rfl rfl
theorem w765 : (Jvm.Cond.selects "WhiteLine" ({ cls := "WhiteLine", name := "count", desc := "(I)I" } : Jvm.MethodName) ({ cls := "WhiteLine", name := "count", desc := "(I)I" } : Jvm.MethodName)) ∈ q_tbl := tm_5 18 rfl rfl
theorem w766 : (Jvm.Cond.code ({ cls := "WhiteLine", name := "count", desc := "(I)I" } : Jvm.MethodName) prog_1_method_36_code (2 : Nat) (Option.some Jvm.ClassFile.FieldType.int)) ∈ q_tbl := tm_5 19 rfl rfl
theorem w767 : (Jvm.Cond.classLink "WhiteLineLaw" (10 : Nat) "WhiteLineModel") ∈ q_tbl := tm_5 20 rfl rfl
theorem w768 : (Jvm.Cond.instantiable "WhiteLineModel" (46 : Nat)) ∈ q_tbl := tm_5 21 rfl rfl
theorem w769 : (Jvm.Cond.methodLink "WhiteLineLaw" (12 : Nat) ({ cls := "WhiteLineModel", name := "<init>", desc := "()V" } : Jvm.MethodName)) ∈ q_tbl := tm_5 22 rfl rfl
theorem w770 : (Jvm.Cond.instanceMethod ({ cls := "WhiteLineModel", name := "<init>", desc := "()V" } : Jvm.MethodName)) ∈ q_tbl := tm_5 23 rfl rfl
theorem w771 : (Jvm.Cond.code ({ cls := "WhiteLineModel", name := "<init>", desc := "()V" } : Jvm.MethodName) prog_14_method_1_code (1 : Nat) (Option.none : Option Jvm.ClassFile.FieldType)) ∈ q_tbl := tm_5 24 rfl rfl
theorem w772 : (Jvm.Cond.methodLink "WhiteLineModel" (1 : Nat) ({ cls := "java/lang/Object", name := "<init>", desc := "()V" } : Jvm.MethodName)) ∈ q_tbl := tm_5 25 rfl rfl
theorem w773 : (Jvm.Cond.methodLink "WhiteLineModel" (98 : Nat) ({ cls := "WhiteLineModel", name := "road", desc := "(I)Z" } : Jvm.MethodName)) ∈ q_tbl := tm_5 26 rfl rfl
theorem w774 : (Jvm.Cond.instanceMethod ({ cls := "WhiteLineModel", name := "road", desc := "(I)Z" } : Jvm.MethodName)) ∈ q_tbl := tm_5 27 rfl rfl
theorem w775 : (Jvm.Cond.selects "WhiteLineModel" ({ cls := "WhiteLineModel", name := "road", desc := "(I)Z" } : Jvm.MethodName) ({ cls := "WhiteLineModel", name := "road", desc := "(I)Z" } : Jvm.MethodName)) ∈ q_tbl := tm_5 28 rfl rfl
theorem w776 : (Jvm.Cond.code ({ cls := "WhiteLineModel", name := "road", desc := "(I)Z" } : Jvm.MethodName) prog_14_method_10_code (3 : Nat) (Option.some Jvm.ClassFile.FieldType.boolean)) ∈ q_tbl := tm_5 29 rfl rfl
theorem w777 : (Jvm.Cond.methodLink "WhiteLineModel" (102 : Nat) ({ cls := "WhiteLineModel", name := "in", desc := "(III)Z" } : Jvm.MethodName)) ∈ q_tbl := tm_5 30 rfl rfl
theorem w778 : (Jvm.Cond.static ({ cls := "WhiteLineModel", name := "in", desc := "(III)Z" } : Jvm.MethodName)) ∈ q_tbl := tm_5 31 rfl rfl
theorem w779 : (Jvm.Cond.code ({ cls := "WhiteLineModel", name := "in", desc := "(III)Z" } : Jvm.MethodName) prog_14_method_2_code (3 : Nat) (Option.some Jvm.ClassFile.FieldType.boolean)) ∈ q_tbl := tm_5 32 rfl rfl
theorem w780 : (Jvm.Cond.methodLink "WhiteLineModel" (106 : Nat) ({ cls := "WhiteLineModel", name := "bares", desc := "(I)V" } : Jvm.MethodName)) ∈ q_tbl := tm_5 33 rfl rfl
theorem w781 : (Jvm.Cond.instanceMethod ({ cls := "WhiteLineModel", name := "bares", desc := "(I)V" } : Jvm.MethodName)) ∈ q_tbl := tm_5 35 rfl rfl
theorem w782 : (Jvm.Cond.code ({ cls := "WhiteLineModel", name := "bares", desc := "(I)V" } : Jvm.MethodName) prog_14_method_11_code (2 : Nat) (Option.none : Option Jvm.ClassFile.FieldType)) ∈ q_tbl := tm_5 36 rfl rfl
theorem w783 : (Jvm.Cond.fieldLink "WhiteLineModel" (7 : Nat) "WhiteLineModel" "now" "[I") ∈ q_tbl := tm_5 37 rfl rfl
theorem w784 : (Jvm.Cond.fieldLink "WhiteLineModel" (13 : Nat) "WhiteLineModel" "aside" "[I") ∈ q_tbl := tm_5 38 rfl rfl
theorem w785 : (Jvm.Cond.fieldLink "WhiteLineModel" (16 : Nat) "WhiteLineModel" "kept" "[I") ∈ q_tbl := tm_5 39 rfl rfl
theorem w786 : (Jvm.Cond.fieldLink "WhiteLineModel" (19 : Nat) "WhiteLineModel" "tape" "[B") ∈ q_tbl := tm_5 40 rfl rfl
theorem w787 : (Jvm.Cond.fieldLink "WhiteLineModel" (119 : Nat) "WhiteLineModel" "taped" "I") ∈ q_tbl := tm_5 41 rfl rfl
theorem w788 : (Jvm.Cond.fieldLink "WhiteLineModel" (126 : Nat) "WhiteLineModel" "place0" "I") ∈ q_tbl := tm_5 42 rfl rfl
theorem w789 : (Jvm.Cond.fieldLink "WhiteLineModel" (129 : Nat) "WhiteLineModel" "length0" "I") ∈ q_tbl := tm_5 43 rfl rfl
theorem w790 : (Jvm.Cond.fieldLink "WhiteLineModel" (136 : Nat) "WhiteLineModel" "fault" "I") ∈ q_tbl := tm_5 44 rfl rfl
theorem w791 : (Jvm.Cond.fieldLink "WhiteLineModel" (143 : Nat) "WhiteLineModel" "number0" "I") ∈ q_tbl := tm_5 45 rfl rfl
theorem w792 : (Jvm.Cond.fieldLink "WhiteLineModel" (154 : Nat) "WhiteLineModel" "open" "I") ∈ q_tbl := tm_5 46 rfl rfl
theorem w793 : (Jvm.Cond.fieldLink "WhiteLineModel" (150 : Nat) "WhiteLineModel" "codeMany" "I") ∈ q_tbl := tm_5 47 rfl rfl
theorem w794 : (Jvm.Cond.fieldLink "WhiteLineModel" (157 : Nat) "WhiteLineModel" "waiting" "I") ∈ q_tbl := tm_5 48 rfl rfl
theorem w795 : (Jvm.Cond.fieldLink "WhiteLineModel" (224 : Nat) "WhiteLineModel" "saidMany" "I") ∈ q_tbl := tm_5 49 rfl rfl
theorem w796 : (Jvm.Cond.fieldLink "WhiteLineModel" (233 : Nat) "WhiteLineModel" "clauses" "I") ∈ q_tbl := tm_5 50 rfl rfl
theorem w797 : (Jvm.Cond.fieldLink "WhiteLineModel" (208 : Nat) "WhiteLineModel" "newMany" "I") ∈ q_tbl := tm_5 51 rfl rfl
theorem w798 : (Jvm.Cond.fieldLink "WhiteLineModel" (23 : Nat) "WhiteLineModel" "said" "[I") ∈ q_tbl := tm_5 52 rfl rfl
theorem w799 : (Jvm.Cond.fieldLink "WhiteLineModel" (26 : Nat) "WhiteLineModel" "waitsAt" "[I") ∈ q_tbl := tm_5 53 rfl rfl
theorem w800 : (Jvm.Cond.fieldLink "WhiteLineModel" (29 : Nat) "WhiteLineModel" "saidLetter" "[I") ∈ q_tbl := tm_5 54 rfl rfl
theorem w801 : (Jvm.Cond.fieldLink "WhiteLineModel" (32 : Nat) "WhiteLineModel" "saidFrom" "[I") ∈ q_tbl := tm_5 55 rfl rfl
theorem w802 : (Jvm.Cond.fieldLink "WhiteLineModel" (35 : Nat) "WhiteLineModel" "saidHalf" "[I") ∈ q_tbl := tm_5 56 rfl rfl
theorem w803 : (Jvm.Cond.fieldLink "WhiteLineModel" (38 : Nat) "WhiteLineModel" "saidTo" "[I") ∈ q_tbl := tm_5 57 rfl rfl
theorem w804 : (Jvm.Cond.fieldLink "WhiteLineModel" (41 : Nat) "WhiteLineModel" "codes" "[I") ∈ q_tbl := tm_5 58 rfl rfl
theorem w805 : (Jvm.Cond.fieldLink "WhiteLineModel" (44 : Nat) "WhiteLineModel" "clauseOf" "[I") ∈ q_tbl := tm_5 59 rfl rfl
theorem w806 : (Jvm.Cond.fieldLink "WhiteLineModel" (47 : Nat) "WhiteLineModel" "codeFrom" "[I") ∈ q_tbl := tm_5 60 rfl rfl
theorem w807 : (Jvm.Cond.fieldLink "WhiteLineModel" (50 : Nat) "WhiteLineModel" "codeHalf" "[I") ∈ q_tbl := tm_5 61 rfl rfl
theorem w808 : (Jvm.Cond.fieldLink "WhiteLineModel" (53 : Nat) "WhiteLineModel" "codeTo" "[I") ∈ q_tbl := tm_5 62 rfl rfl
theorem w809 : (Jvm.Cond.fieldLink "WhiteLineModel" (56 : Nat) "WhiteLineModel" "newValue" "[I") ∈ q_tbl := tm_5 63 rfl rfl
theorem w810 : (Jvm.Cond.fieldLink "WhiteLineModel" (59 : Nat) "WhiteLineModel" "stack" "[I") ∈ q_tbl := tm_5 64 rfl rfl
theorem w811 : (Jvm.Cond.fieldLink "WhiteLineModel" (62 : Nat) "WhiteLineModel" "facts" "[I") ∈ q_tbl := tm_5 65 rfl rfl
theorem w812 : (Jvm.Cond.fieldLink "WhiteLineModel" (278 : Nat) "WhiteLineModel" "paintedNow" "I") ∈ q_tbl := tm_5 66 rfl rfl
theorem w813 : (Jvm.Cond.fieldLink "WhiteLineModel" (65 : Nat) "WhiteLineModel" "offOf" "[I") ∈ q_tbl := tm_5 67 rfl rfl
theorem w814 : (Jvm.Cond.fieldLink "WhiteLineModel" (68 : Nat) "WhiteLineModel" "pinsOf" "[I") ∈ q_tbl := tm_5 68 rfl rfl
theorem w815 : (Jvm.Cond.fieldLink "WhiteLineModel" (71 : Nat) "WhiteLineModel" "pinNow" "[I") ∈ q_tbl := tm_5 69 rfl rfl
theorem w816 : (Jvm.Cond.fieldLink "WhiteLineModel" (74 : Nat) "WhiteLineModel" "endOf" "[I") ∈ q_tbl := tm_5 70 rfl rfl
theorem w817 : (Jvm.Cond.fieldLink "WhiteLineModel" (77 : Nat) "WhiteLineModel" "byOf" "[I") ∈ q_tbl := tm_5 71 rfl rfl
theorem w818 : (Jvm.Cond.fieldLink "WhiteLineModel" (80 : Nat) "WhiteLineModel" "waitFrom" "[I") ∈ q_tbl := tm_5 72 rfl rfl
theorem w819 : (Jvm.Cond.fieldLink "WhiteLineModel" (83 : Nat) "WhiteLineModel" "dryAt" "[I") ∈ q_tbl := tm_5 73 rfl rfl
theorem w820 : (Jvm.Cond.fieldLink "WhiteLineModel" (86 : Nat) "WhiteLineModel" "dotNow" "[I") ∈ q_tbl := tm_5 74 rfl rfl
theorem w821 : (Jvm.Cond.fieldLink "WhiteLineModel" (89 : Nat) "WhiteLineModel" "leftNow" "[I") ∈ q_tbl := tm_5 75 rfl rfl
theorem w822 : (Jvm.Cond.fieldLink "WhiteLineModel" (356 : Nat) "WhiteLineModel" "lowFree" "I") ∈ q_tbl := tm_5 76 rfl rfl
theorem w823 : (Jvm.Cond.fieldLink "WhiteLineModel" (359 : Nat) "WhiteLineModel" "highFree" "I") ∈ q_tbl := tm_5 77 rfl rfl
theorem w824 : (Jvm.Cond.fieldLink "WhiteLineModel" (362 : Nat) "WhiteLineModel" "lastDot" "I") ∈ q_tbl := tm_5 78 rfl rfl
theorem w825 : (Jvm.Cond.fieldLink "WhiteLineModel" (365 : Nat) "WhiteLineModel" "lastEnd" "I") ∈ q_tbl := tm_5 79 rfl rfl
theorem w826 : (Jvm.Cond.fieldLink "WhiteLineModel" (92 : Nat) "WhiteLineModel" "wearOf" "[I") ∈ q_tbl := tm_5 80 rfl rfl
theorem w827 : (Jvm.Cond.fieldLink "WhiteLineModel" (95 : Nat) "WhiteLineModel" "beginOf" "[I") ∈ q_tbl := tm_5 81 rfl rfl
theorem w828 : (Jvm.Cond.fieldLink "WhiteLineModel" (427 : Nat) "WhiteLineModel" "isKept" "Z") ∈ q_tbl := tm_5 82 rfl rfl
theorem w829 : (Jvm.Cond.superclass "WhiteLineModel" "java/lang/Object") ∈ q_tbl := tm_5 175 rfl rfl
theorem w830 : (Jvm.Cond.arrayClass Jvm.ClassFile.FieldType.byte) ∈ q_tbl := tm_5 176 rfl rfl
theorem w831 : (Jvm.Cond.methodLink "WhiteLineLaw" (17 : Nat) ({ cls := "WhiteLineModel", name := "road", desc := "(I)Z" } : Jvm.MethodName)) ∈ q_tbl := tm_5 177 rfl rfl
theorem w832 : (Jvm.Cond.methodLink "WhiteLineLaw" (27 : Nat) ({ cls := "WhiteLineModel", name := "old", desc := "(III)Z" } : Jvm.MethodName)) ∈ q_tbl := tm_5 178 rfl rfl
theorem w833 : (Jvm.Cond.instanceMethod ({ cls := "WhiteLineModel", name := "old", desc := "(III)Z" } : Jvm.MethodName)) ∈ q_tbl := tm_5 179 rfl rfl
theorem w834 : (Jvm.Cond.selects "WhiteLineModel" ({ cls := "WhiteLineModel", name := "old", desc := "(III)Z" } : Jvm.MethodName) ({ cls := "WhiteLineModel", name := "old", desc := "(III)Z" } : Jvm.MethodName)) ∈ q_tbl := tm_5 180 rfl rfl
theorem w835 : (Jvm.Cond.code ({ cls := "WhiteLineModel", name := "old", desc := "(III)Z" } : Jvm.MethodName) prog_14_method_12_code (5 : Nat) (Option.some Jvm.ClassFile.FieldType.boolean)) ∈ q_tbl := tm_5 181 rfl rfl
theorem w836 : (Jvm.Cond.methodLink "WhiteLineModel" (110 : Nat) ({ cls := "WhiteLineModel", name := "isDot", desc := "(I)Z" } : Jvm.MethodName)) ∈ q_tbl := tm_5 182 rfl rfl
theorem w837 : (Jvm.Cond.instanceMethod ({ cls := "WhiteLineModel", name := "isDot", desc := "(I)Z" } : Jvm.MethodName)) ∈ q_tbl := tm_5 184 rfl rfl
theorem w838 : (Jvm.Cond.code ({ cls := "WhiteLineModel", name := "isDot", desc := "(I)Z" } : Jvm.MethodName) prog_14_method_8_code (2 : Nat) (Option.some Jvm.ClassFile.FieldType.boolean)) ∈ q_tbl := tm_5 185 rfl rfl
theorem w839 : (Jvm.Cond.methodLink "WhiteLineLaw" (42 : Nat) ({ cls := "WhiteLineModel", name := "party", desc := "(IZI)Z" } : Jvm.MethodName)) ∈ q_tbl := tm_5 186 rfl rfl
theorem w840 : (Jvm.Cond.instanceMethod ({ cls := "WhiteLineModel", name := "party", desc := "(IZI)Z" } : Jvm.MethodName)) ∈ q_tbl := tm_5 187 rfl rfl
theorem w841 : (Jvm.Cond.selects "WhiteLineModel" ({ cls := "WhiteLineModel", name := "party", desc := "(IZI)Z" } : Jvm.MethodName) ({ cls := "WhiteLineModel", name := "party", desc := "(IZI)Z" } : Jvm.MethodName)) ∈ q_tbl := tm_5 188 rfl rfl
theorem w842 : (Jvm.Cond.code ({ cls := "WhiteLineModel", name := "party", desc := "(IZI)Z" } : Jvm.MethodName) prog_14_method_14_code (4 : Nat) (Option.some Jvm.ClassFile.FieldType.boolean)) ∈ q_tbl := tm_5 189 rfl rfl
theorem w843 : (Jvm.Cond.methodLink "WhiteLineModel" (113 : Nat) ({ cls := "WhiteLineModel", name := "leaves", desc := "(I)V" } : Jvm.MethodName)) ∈ q_tbl := tm_5 190 rfl rfl
theorem w844 : (Jvm.Cond.instanceMethod ({ cls := "WhiteLineModel", name := "leaves", desc := "(I)V" } : Jvm.MethodName)) ∈ q_tbl := tm_5 192 rfl rfl
theorem w845 : (Jvm.Cond.code ({ cls := "WhiteLineModel", name := "leaves", desc := "(I)V" } : Jvm.MethodName) prog_14_method_13_code (2 : Nat) (Option.none : Option Jvm.ClassFile.FieldType)) ∈ q_tbl := tm_5 193 rfl rfl
theorem w846 : (Jvm.Cond.methodLink "WhiteLineLaw" (46 : Nat) ({ cls := "WhiteLineModel", name := "car", desc := "(III)Z" } : Jvm.MethodName)) ∈ q_tbl := tm_5 194 rfl rfl
theorem w847 : (Jvm.Cond.instanceMethod ({ cls := "WhiteLineModel", name := "car", desc := "(III)Z" } : Jvm.MethodName)) ∈ q_tbl := tm_5 195 rfl rfl
theorem w848 : (Jvm.Cond.selects "WhiteLineModel" ({ cls := "WhiteLineModel", name := "car", desc := "(III)Z" } : Jvm.MethodName) ({ cls := "WhiteLineModel", name := "car", desc := "(III)Z" } : Jvm.MethodName)) ∈ q_tbl := tm_5 196 rfl rfl
theorem w849 : (Jvm.Cond.code ({ cls := "WhiteLineModel", name := "car", desc := "(III)Z" } : Jvm.MethodName) prog_14_method_15_code (4 : Nat) (Option.some Jvm.ClassFile.FieldType.boolean)) ∈ q_tbl := tm_5 197 rfl rfl
theorem w850 : (Jvm.Cond.methodLink "WhiteLineLaw" (50 : Nat) ({ cls := "WhiteLineModel", name := "cones", desc := "(I)Z" } : Jvm.MethodName)) ∈ q_tbl := tm_5 198 rfl rfl
theorem w851 : (Jvm.Cond.instanceMethod ({ cls := "WhiteLineModel", name := "cones", desc := "(I)Z" } : Jvm.MethodName)) ∈ q_tbl := tm_5 199 rfl rfl
theorem w852 : (Jvm.Cond.selects "WhiteLineModel" ({ cls := "WhiteLineModel", name := "cones", desc := "(I)Z" } : Jvm.MethodName) ({ cls := "WhiteLineModel", name := "cones", desc := "(I)Z" } : Jvm.MethodName)) ∈ q_tbl := tm_5 200 rfl rfl
theorem w853 : (Jvm.Cond.code ({ cls := "WhiteLineModel", name := "cones", desc := "(I)Z" } : Jvm.MethodName) prog_14_method_16_code (2 : Nat) (Option.some Jvm.ClassFile.FieldType.boolean)) ∈ q_tbl := tm_5 201 rfl rfl
theorem w854 : (Jvm.Cond.methodLink "WhiteLineLaw" (54 : Nat) ({ cls := "WhiteLineModel", name := "dew", desc := "(I)Z" } : Jvm.MethodName)) ∈ q_tbl := tm_5 202 rfl rfl
theorem w855 : (Jvm.Cond.instanceMethod ({ cls := "WhiteLineModel", name := "dew", desc := "(I)Z" } : Jvm.MethodName)) ∈ q_tbl := tm_5 203 rfl rfl
theorem w856 : (Jvm.Cond.selects "WhiteLineModel" ({ cls := "WhiteLineModel", name := "dew", desc := "(I)Z" } : Jvm.MethodName) ({ cls := "WhiteLineModel", name := "dew", desc := "(I)Z" } : Jvm.MethodName)) ∈ q_tbl := tm_5 204 rfl rfl
theorem w857 : (Jvm.Cond.code ({ cls := "WhiteLineModel", name := "dew", desc := "(I)Z" } : Jvm.MethodName) prog_14_method_17_code (2 : Nat) (Option.some Jvm.ClassFile.FieldType.boolean)) ∈ q_tbl := tm_5 205 rfl rfl
theorem w858 : (Jvm.Cond.methodLink "WhiteLineLaw" (58 : Nat) ({ cls := "WhiteLineModel", name := "burns", desc := "(II)I" } : Jvm.MethodName)) ∈ q_tbl := tm_5 206 rfl rfl
theorem w859 : (Jvm.Cond.instanceMethod ({ cls := "WhiteLineModel", name := "burns", desc := "(II)I" } : Jvm.MethodName)) ∈ q_tbl := tm_5 207 rfl rfl
theorem w860 : (Jvm.Cond.selects "WhiteLineModel" ({ cls := "WhiteLineModel", name := "burns", desc := "(II)I" } : Jvm.MethodName) ({ cls := "WhiteLineModel", name := "burns", desc := "(II)I" } : Jvm.MethodName)) ∈ q_tbl := tm_5 208 rfl rfl
theorem w861 : (Jvm.Cond.code ({ cls := "WhiteLineModel", name := "burns", desc := "(II)I" } : Jvm.MethodName) prog_14_method_18_code (6 : Nat) (Option.some Jvm.ClassFile.FieldType.int)) ∈ q_tbl := tm_5 209 rfl rfl
theorem w862 : (Jvm.Cond.methodLink "WhiteLineModel" (116 : Nat) ({ cls := "WhiteLineModel", name := "isPainted", desc := "(I)Z" } : Jvm.MethodName)) ∈ q_tbl := tm_5 210 rfl rfl
theorem w863 : (Jvm.Cond.instanceMethod ({ cls := "WhiteLineModel", name := "isPainted", desc := "(I)Z" } : Jvm.MethodName)) ∈ q_tbl := tm_5 212 rfl rfl
theorem w864 : (Jvm.Cond.code ({ cls := "WhiteLineModel", name := "isPainted", desc := "(I)Z" } : Jvm.MethodName) prog_14_method_9_code (2 : Nat) (Option.some Jvm.ClassFile.FieldType.boolean)) ∈ q_tbl := tm_5 213 rfl rfl
theorem w865 : (Jvm.Cond.methodLink "WhiteLineLaw" (32 : Nat) ({ cls := "WhiteLineModel", name := "feed", desc := "(IIIII)I" } : Jvm.MethodName)) ∈ q_tbl := tm_5 214 rfl rfl
theorem w866 : (Jvm.Cond.instanceMethod ({ cls := "WhiteLineModel", name := "feed", desc := "(IIIII)I" } : Jvm.MethodName)) ∈ q_tbl := tm_5 215 rfl rfl
theorem w867 : (Jvm.Cond.selects "WhiteLineModel" ({ cls := "WhiteLineModel", name := "feed", desc := "(IIIII)I" } : Jvm.MethodName) ({ cls := "WhiteLineModel", name := "feed", desc := "(IIIII)I" } : Jvm.MethodName)) ∈ q_tbl := tm_5 216 rfl rfl
theorem w868 : (Jvm.Cond.code ({ cls := "WhiteLineModel", name := "feed", desc := "(IIIII)I" } : Jvm.MethodName) prog_14_method_20_code (6 : Nat) (Option.some Jvm.ClassFile.FieldType.int)) ∈ q_tbl := tm_5 217 rfl rfl
theorem w869 : (Jvm.Cond.methodLink "WhiteLineModel" (123 : Nat) ({ cls := "WhiteLineModel", name := "types", desc := "(I)V" } : Jvm.MethodName)) ∈ q_tbl := tm_5 218 rfl rfl
theorem w870 : (Jvm.Cond.instanceMethod ({ cls := "WhiteLineModel", name := "types", desc := "(I)V" } : Jvm.MethodName)) ∈ q_tbl := tm_5 220 rfl rfl
theorem w871 : (Jvm.Cond.code ({ cls := "WhiteLineModel", name := "types", desc := "(I)V" } : Jvm.MethodName) prog_14_method_19_code (3 : Nat) (Option.none : Option Jvm.ClassFile.FieldType)) ∈ q_tbl := tm_5 221 rfl rfl
theorem w872 : (Jvm.Cond.methodLink "WhiteLineLaw" (22 : Nat) ({ cls := "WhiteLineModel", name := "row", desc := "(II)I" } : Jvm.MethodName)) ∈ q_tbl := tm_5 222 rfl rfl
theorem w873 : (Jvm.Cond.instanceMethod ({ cls := "WhiteLineModel", name := "row", desc := "(II)I" } : Jvm.MethodName)) ∈ q_tbl := tm_5 223 rfl rfl
theorem w874 : (Jvm.Cond.selects "WhiteLineModel" ({ cls := "WhiteLineModel", name := "row", desc := "(II)I" } : Jvm.MethodName) ({ cls := "WhiteLineModel", name := "row", desc := "(II)I" } : Jvm.MethodName)) ∈ q_tbl := tm_5 224 rfl rfl
theorem w875 : (Jvm.Cond.code ({ cls := "WhiteLineModel", name := "row", desc := "(II)I" } : Jvm.MethodName) prog_14_method_42_code (6 : Nat) (Option.some Jvm.ClassFile.FieldType.int)) ∈ q_tbl := tm_5 225 rfl rfl
theorem w876 : (Jvm.Cond.methodLink "WhiteLineModel" (211 : Nat) ({ cls := "WhiteLineModel", name := "readsValue", desc := "(Z)Z" } : Jvm.MethodName)) ∈ q_tbl := tm_5 226 rfl rfl
theorem w877 : (Jvm.Cond.instanceMethod ({ cls := "WhiteLineModel", name := "readsValue", desc := "(Z)Z" } : Jvm.MethodName)) ∈ q_tbl := tm_5 228 rfl rfl
theorem w878 : (Jvm.Cond.code ({ cls := "WhiteLineModel", name := "readsValue", desc := "(Z)Z" } : Jvm.MethodName) prog_14_method_41_code (8 : Nat) (Option.some Jvm.ClassFile.FieldType.boolean)) ∈ q_tbl := tm_5 229 rfl rfl
theorem w879 : (Jvm.Cond.methodLink "WhiteLineModel" (132 : Nat) ({ cls := "WhiteLineModel", name := "here", desc := "()I" } : Jvm.MethodName)) ∈ q_tbl := tm_5 230 rfl rfl
theorem w880 : (Jvm.Cond.instanceMethod ({ cls := "WhiteLineModel", name := "here", desc := "()I" } : Jvm.MethodName)) ∈ q_tbl := tm_5 232 rfl rfl
theorem w881 : (Jvm.Cond.code ({ cls := "WhiteLineModel", name := "here", desc := "()I" } : Jvm.MethodName) prog_14_method_21_code (1 : Nat) (Option.some Jvm.ClassFile.FieldType.int)) ∈ q_tbl := tm_5 233 rfl rfl
theorem w882 : (Jvm.Cond.methodLink "WhiteLineModel" (205 : Nat) ({ cls := "WhiteLineModel", name := "readsTwo", desc := "()Z" } : Jvm.MethodName)) ∈ q_tbl := tm_5 234 rfl rfl
theorem w883 : (Jvm.Cond.instanceMethod ({ cls := "WhiteLineModel", name := "readsTwo", desc := "()Z" } : Jvm.MethodName)) ∈ q_tbl := tm_5 236 rfl rfl
theorem w884 : (Jvm.Cond.code ({ cls := "WhiteLineModel", name := "readsTwo", desc := "()Z" } : Jvm.MethodName) prog_14_method_40_code (2 : Nat) (Option.some Jvm.ClassFile.FieldType.boolean)) ∈ q_tbl := tm_5 237 rfl rfl
theorem w885 : (Jvm.Cond.methodLink "WhiteLineModel" (146 : Nat) ({ cls := "WhiteLineModel", name := "isDigit", desc := "()Z" } : Jvm.MethodName)) ∈ q_tbl := tm_5 238 rfl rfl
theorem w886 : (Jvm.Cond.instanceMethod ({ cls := "WhiteLineModel", name := "isDigit", desc := "()Z" } : Jvm.MethodName)) ∈ q_tbl := tm_6 0 rfl rfl
theorem w887 : (Jvm.Cond.code ({ cls := "WhiteLineModel", name := "isDigit", desc := "()Z" } : Jvm.MethodName) prog_14_method_22_code (1 : Nat) (Option.some Jvm.ClassFile.FieldType.boolean)) ∈ q_tbl := tm_6 1 rfl rfl
theorem w888 : (Jvm.Cond.methodLink "WhiteLineModel" (139 : Nat) ({ cls := "WhiteLineModel", name := "wrongAt", desc := "(II)Z" } : Jvm.MethodName)) ∈ q_tbl := tm_6 2 rfl rfl
theorem w889 : (Jvm.Cond.instanceMethod ({ cls := "WhiteLineModel", name := "wrongAt", desc := "(II)Z" } : Jvm.MethodName)) ∈ q_tbl := tm_6 4 rfl rfl
theorem w890 : (Jvm.Cond.code ({ cls := "WhiteLineModel", name := "wrongAt", desc := "(II)Z" } : Jvm.MethodName) prog_14_method_23_code (3 : Nat) (Option.some Jvm.ClassFile.FieldType.boolean)) ∈ q_tbl := tm_6 5 rfl rfl
theorem w891 : (Jvm.Cond.methodLink "WhiteLineModel" (215 : Nat) ({ cls := "WhiteLineModel", name := "takes", desc := "(I)Z" } : Jvm.MethodName)) ∈ q_tbl := tm_6 6 rfl rfl
theorem w892 : (Jvm.Cond.instanceMethod ({ cls := "WhiteLineModel", name := "takes", desc := "(I)Z" } : Jvm.MethodName)) ∈ q_tbl := tm_6 8 rfl rfl
theorem w893 : (Jvm.Cond.code ({ cls := "WhiteLineModel", name := "takes", desc := "(I)Z" } : Jvm.MethodName) prog_14_method_24_code (2 : Nat) (Option.some Jvm.ClassFile.FieldType.boolean)) ∈ q_tbl := tm_6 9 rfl rfl
theorem w894 : (Jvm.Cond.methodLink "WhiteLineModel" (218 : Nat) ({ cls := "WhiteLineModel", name := "size", desc := "(I)I" } : Jvm.MethodName)) ∈ q_tbl := tm_6 10 rfl rfl
theorem w895 : (Jvm.Cond.static ({ cls := "WhiteLineModel", name := "size", desc := "(I)I" } : Jvm.MethodName)) ∈ q_tbl := tm_6 11 rfl rfl
theorem w896 : (Jvm.Cond.code ({ cls := "WhiteLineModel", name := "size", desc := "(I)I" } : Jvm.MethodName) prog_14_method_5_code (1 : Nat) (Option.some Jvm.ClassFile.FieldType.int)) ∈ q_tbl := tm_6 12 rfl rfl
theorem w897 : (Jvm.Cond.methodLink "WhiteLineLaw" (37 : Nat) ({ cls := "WhiteLineModel", name := "law", desc := "(I)I" } : Jvm.MethodName)) ∈ q_tbl := tm_6 13 rfl rfl
theorem w898 : (Jvm.Cond.instanceMethod ({ cls := "WhiteLineModel", name := "law", desc := "(I)I" } : Jvm.MethodName)) ∈ q_tbl := tm_6 14 rfl rfl
theorem w899 : (Jvm.Cond.selects "WhiteLineModel" ({ cls := "WhiteLineModel", name := "law", desc := "(I)I" } : Jvm.MethodName) ({ cls := "WhiteLineModel", name := "law", desc := "(I)I" } : Jvm.MethodName)) ∈ q_tbl := tm_6 15 rfl rfl
theorem w900 : (Jvm.Cond.code ({ cls := "WhiteLineModel", name := "law", desc := "(I)I" } : Jvm.MethodName) prog_14_method_45_code (4 : Nat) (Option.some Jvm.ClassFile.FieldType.int)) ∈ q_tbl := tm_6 16 rfl rfl
theorem w901 : (Jvm.Cond.methodLink "WhiteLineModel" (230 : Nat) ({ cls := "WhiteLineModel", name := "readsClause", desc := "()Z" } : Jvm.MethodName)) ∈ q_tbl := tm_6 17 rfl rfl
theorem w902 : (Jvm.Cond.instanceMethod ({ cls := "WhiteLineModel", name := "readsClause", desc := "()Z" } : Jvm.MethodName)) ∈ q_tbl := tm_6 19 rfl rfl
theorem w903 : (Jvm.Cond.code ({ cls := "WhiteLineModel", name := "readsClause", desc := "()Z" } : Jvm.MethodName) prog_14_method_44_code (2 : Nat) (Option.some Jvm.ClassFile.FieldType.boolean)) ∈ q_tbl := tm_6 20 rfl rfl
theorem w904 : (Jvm.Cond.methodLink "WhiteLineModel" (221 : Nat) ({ cls := "WhiteLineModel", name := "isClause", desc := "(I)Z" } : Jvm.MethodName)) ∈ q_tbl := tm_6 21 rfl rfl
theorem w905 : (Jvm.Cond.static ({ cls := "WhiteLineModel", name := "isClause", desc := "(I)Z" } : Jvm.MethodName)) ∈ q_tbl := tm_6 22 rfl rfl
theorem w906 : (Jvm.Cond.code ({ cls := "WhiteLineModel", name := "isClause", desc := "(I)Z" } : Jvm.MethodName) prog_14_method_43_code (1 : Nat) (Option.some Jvm.ClassFile.FieldType.boolean)) ∈ q_tbl := tm_6 23 rfl rfl
theorem w907 : (Jvm.Cond.methodLink "WhiteLineModel" (190 : Nat) ({ cls := "WhiteLineModel", name := "readsSum", desc := "()Z" } : Jvm.MethodName)) ∈ q_tbl := tm_6 24 rfl rfl
theorem w908 : (Jvm.Cond.instanceMethod ({ cls := "WhiteLineModel", name := "readsSum", desc := "()Z" } : Jvm.MethodName)) ∈ q_tbl := tm_6 26 rfl rfl
theorem w909 : (Jvm.Cond.code ({ cls := "WhiteLineModel", name := "readsSum", desc := "()Z" } : Jvm.MethodName) prog_14_method_34_code (3 : Nat) (Option.some Jvm.ClassFile.FieldType.boolean)) ∈ q_tbl := tm_6 27 rfl rfl
theorem w910 : (Jvm.Cond.methodLink "WhiteLineModel" (177 : Nat) ({ cls := "WhiteLineModel", name := "readsFactor", desc := "()Z" } : Jvm.MethodName)) ∈ q_tbl := tm_6 28 rfl rfl
theorem w911 : (Jvm.Cond.instanceMethod ({ cls := "WhiteLineModel", name := "readsFactor", desc := "()Z" } : Jvm.MethodName)) ∈ q_tbl := tm_6 30 rfl rfl
theorem w912 : (Jvm.Cond.code ({ cls := "WhiteLineModel", name := "readsFactor", desc := "()Z" } : Jvm.MethodName) prog_14_method_32_code (2 : Nat) (Option.some Jvm.ClassFile.FieldType.boolean)) ∈ q_tbl := tm_6 31 rfl rfl
theorem w913 : (Jvm.Cond.methodLink "WhiteLineModel" (167 : Nat) ({ cls := "WhiteLineModel", name := "opens", desc := "(I)Z" } : Jvm.MethodName)) ∈ q_tbl := tm_6 32 rfl rfl
theorem w914 : (Jvm.Cond.instanceMethod ({ cls := "WhiteLineModel", name := "opens", desc := "(I)Z" } : Jvm.MethodName)) ∈ q_tbl := tm_6 34 rfl rfl
theorem w915 : (Jvm.Cond.code ({ cls := "WhiteLineModel", name := "opens", desc := "(I)Z" } : Jvm.MethodName) prog_14_method_27_code (2 : Nat) (Option.some Jvm.ClassFile.FieldType.boolean)) ∈ q_tbl := tm_6 35 rfl rfl
theorem w916 : (Jvm.Cond.constant "WhiteLineModel" (153 : Nat) (1048576 : Int32)) ∈ q_tbl := tm_6 36 rfl rfl
theorem w917 : (Jvm.Cond.methodLink "WhiteLineModel" (170 : Nat) ({ cls := "WhiteLineModel", name := "readsNumber", desc := "()Z" } : Jvm.MethodName)) ∈ q_tbl := tm_6 37 rfl rfl
theorem w918 : (Jvm.Cond.instanceMethod ({ cls := "WhiteLineModel", name := "readsNumber", desc := "()Z" } : Jvm.MethodName)) ∈ q_tbl := tm_6 39 rfl rfl
theorem w919 : (Jvm.Cond.code ({ cls := "WhiteLineModel", name := "readsNumber", desc := "()Z" } : Jvm.MethodName) prog_14_method_25_code (2 : Nat) (Option.some Jvm.ClassFile.FieldType.boolean)) ∈ q_tbl := tm_6 40 rfl rfl
theorem w920 : (Jvm.Cond.methodLink "WhiteLineModel" (163 : Nat) ({ cls := "WhiteLineModel", name := "notes", desc := "(II)V" } : Jvm.MethodName)) ∈ q_tbl := tm_6 41 rfl rfl
theorem w921 : (Jvm.Cond.instanceMethod ({ cls := "WhiteLineModel", name := "notes", desc := "(II)V" } : Jvm.MethodName)) ∈ q_tbl := tm_6 43 rfl rfl
theorem w922 : (Jvm.Cond.code ({ cls := "WhiteLineModel", name := "notes", desc := "(II)V" } : Jvm.MethodName) prog_14_method_26_code (3 : Nat) (Option.none : Option Jvm.ClassFile.FieldType)) ∈ q_tbl := tm_6 44 rfl rfl
theorem w923 : (Jvm.Cond.methodLink "WhiteLineModel" (173 : Nat) ({ cls := "WhiteLineModel", name := "factOf", desc := "(I)I" } : Jvm.MethodName)) ∈ q_tbl := tm_6 45 rfl rfl
theorem w924 : (Jvm.Cond.static ({ cls := "WhiteLineModel", name := "factOf", desc := "(I)I" } : Jvm.MethodName)) ∈ q_tbl := tm_6 46 rfl rfl
theorem w925 : (Jvm.Cond.code ({ cls := "WhiteLineModel", name := "factOf", desc := "(I)I" } : Jvm.MethodName) prog_14_method_29_code (1 : Nat) (Option.some Jvm.ClassFile.FieldType.int)) ∈ q_tbl := tm_6 47 rfl rfl
theorem w926 : (Jvm.Cond.methodLink "WhiteLineModel" (180 : Nat) ({ cls := "WhiteLineModel", name := "sumSign", desc := "(I)I" } : Jvm.MethodName)) ∈ q_tbl := tm_6 48 rfl rfl
theorem w927 : (Jvm.Cond.static ({ cls := "WhiteLineModel", name := "sumSign", desc := "(I)I" } : Jvm.MethodName)) ∈ q_tbl := tm_6 49 rfl rfl
theorem w928 : (Jvm.Cond.code ({ cls := "WhiteLineModel", name := "sumSign", desc := "(I)I" } : Jvm.MethodName) prog_14_method_30_code (1 : Nat) (Option.some Jvm.ClassFile.FieldType.int)) ∈ q_tbl := tm_6 50 rfl rfl
theorem w929 : (Jvm.Cond.methodLink "WhiteLineModel" (183 : Nat) ({ cls := "WhiteLineModel", name := "closesSums", desc := "(Z)V" } : Jvm.MethodName)) ∈ q_tbl := tm_6 51 rfl rfl
theorem w930 : (Jvm.Cond.instanceMethod ({ cls := "WhiteLineModel", name := "closesSums", desc := "(Z)V" } : Jvm.MethodName)) ∈ q_tbl := tm_6 53 rfl rfl
theorem w931 : (Jvm.Cond.code ({ cls := "WhiteLineModel", name := "closesSums", desc := "(Z)V" } : Jvm.MethodName) prog_14_method_31_code (2 : Nat) (Option.none : Option Jvm.ClassFile.FieldType)) ∈ q_tbl := tm_6 54 rfl rfl
theorem w932 : (Jvm.Cond.methodLink "WhiteLineModel" (160 : Nat) ({ cls := "WhiteLineModel", name := "waitTop", desc := "()I" } : Jvm.MethodName)) ∈ q_tbl := tm_6 55 rfl rfl
theorem w933 : (Jvm.Cond.instanceMethod ({ cls := "WhiteLineModel", name := "waitTop", desc := "()I" } : Jvm.MethodName)) ∈ q_tbl := tm_6 57 rfl rfl
theorem w934 : (Jvm.Cond.code ({ cls := "WhiteLineModel", name := "waitTop", desc := "()I" } : Jvm.MethodName) prog_14_method_28_code (1 : Nat) (Option.some Jvm.ClassFile.FieldType.int)) ∈ q_tbl := tm_6 58 rfl rfl
theorem w935 : (Jvm.Cond.methodLink "WhiteLineModel" (187 : Nat) ({ cls := "WhiteLineModel", name := "hasOpenSum", desc := "(I)Z" } : Jvm.MethodName)) ∈ q_tbl := tm_6 59 rfl rfl
theorem w936 : (Jvm.Cond.instanceMethod ({ cls := "WhiteLineModel", name := "hasOpenSum", desc := "(I)Z" } : Jvm.MethodName)) ∈ q_tbl := tm_6 61 rfl rfl
theorem w937 : (Jvm.Cond.code ({ cls := "WhiteLineModel", name := "hasOpenSum", desc := "(I)Z" } : Jvm.MethodName) prog_14_method_33_code (3 : Nat) (Option.some Jvm.ClassFile.FieldType.boolean)) ∈ q_tbl := tm_6 62 rfl rfl
theorem w938 : (Jvm.Cond.methodLink "WhiteLineModel" (227 : Nat) ({ cls := "WhiteLineModel", name := "readsCondition", desc := "()Z" } : Jvm.MethodName)) ∈ q_tbl := tm_6 63 rfl rfl
theorem w939 : (Jvm.Cond.instanceMethod ({ cls := "WhiteLineModel", name := "readsCondition", desc := "()Z" } : Jvm.MethodName)) ∈ q_tbl := tm_6 65 rfl rfl
theorem w940 : (Jvm.Cond.code ({ cls := "WhiteLineModel", name := "readsCondition", desc := "()Z" } : Jvm.MethodName) prog_14_method_39_code (1 : Nat) (Option.some Jvm.ClassFile.FieldType.boolean)) ∈ q_tbl := tm_6 66 rfl rfl
theorem w941 : (Jvm.Cond.methodLink "WhiteLineModel" (196 : Nat) ({ cls := "WhiteLineModel", name := "readsCompared", desc := "()Z" } : Jvm.MethodName)) ∈ q_tbl := tm_6 67 rfl rfl
theorem w942 : (Jvm.Cond.instanceMethod ({ cls := "WhiteLineModel", name := "readsCompared", desc := "()Z" } : Jvm.MethodName)) ∈ q_tbl := tm_6 69 rfl rfl
theorem w943 : (Jvm.Cond.code ({ cls := "WhiteLineModel", name := "readsCompared", desc := "()Z" } : Jvm.MethodName) prog_14_method_38_code (2 : Nat) (Option.some Jvm.ClassFile.FieldType.boolean)) ∈ q_tbl := tm_6 70 rfl rfl
theorem w944 : (Jvm.Cond.methodLink "WhiteLineModel" (193 : Nat) ({ cls := "WhiteLineModel", name := "endsPiece", desc := "()V" } : Jvm.MethodName)) ∈ q_tbl := tm_6 71 rfl rfl
theorem w945 : (Jvm.Cond.instanceMethod ({ cls := "WhiteLineModel", name := "endsPiece", desc := "()V" } : Jvm.MethodName)) ∈ q_tbl := tm_6 73 rfl rfl
theorem w946 : (Jvm.Cond.code ({ cls := "WhiteLineModel", name := "endsPiece", desc := "()V" } : Jvm.MethodName) prog_14_method_35_code (1 : Nat) (Option.none : Option Jvm.ClassFile.FieldType)) ∈ q_tbl := tm_6 74 rfl rfl
theorem w947 : (Jvm.Cond.methodLink "WhiteLineModel" (199 : Nat) ({ cls := "WhiteLineModel", name := "lands", desc := "(Z)V" } : Jvm.MethodName)) ∈ q_tbl := tm_6 75 rfl rfl
theorem w948 : (Jvm.Cond.instanceMethod ({ cls := "WhiteLineModel", name := "lands", desc := "(Z)V" } : Jvm.MethodName)) ∈ q_tbl := tm_6 77 rfl rfl
theorem w949 : (Jvm.Cond.code ({ cls := "WhiteLineModel", name := "lands", desc := "(Z)V" } : Jvm.MethodName) prog_14_method_36_code (3 : Nat) (Option.none : Option Jvm.ClassFile.FieldType)) ∈ q_tbl := tm_6 78 rfl rfl
theorem w950 : (Jvm.Cond.methodLink "WhiteLineModel" (202 : Nat) ({ cls := "WhiteLineModel", name := "jumps", desc := "(I)V" } : Jvm.MethodName)) ∈ q_tbl := tm_6 79 rfl rfl
theorem w951 : (Jvm.Cond.instanceMethod ({ cls := "WhiteLineModel", name := "jumps", desc := "(I)V" } : Jvm.MethodName)) ∈ q_tbl := tm_6 81 rfl rfl
theorem w952 : (Jvm.Cond.code ({ cls := "WhiteLineModel", name := "jumps", desc := "(I)V" } : Jvm.MethodName) prog_14_method_37_code (2 : Nat) (Option.none : Option Jvm.ClassFile.FieldType)) ∈ q_tbl := tm_6 82 rfl rfl
theorem w953 : (Jvm.Cond.methodLink "WhiteLineLaw" (62 : Nat) ({ cls := "WhiteLineModel", name := "minutes", desc := "(I)I" } : Jvm.MethodName)) ∈ q_tbl := tm_6 83 rfl rfl
theorem w954 : (Jvm.Cond.instanceMethod ({ cls := "WhiteLineModel", name := "minutes", desc := "(I)I" } : Jvm.MethodName)) ∈ q_tbl := tm_6 84 rfl rfl
theorem w955 : (Jvm.Cond.selects "WhiteLineModel" ({ cls := "WhiteLineModel", name := "minutes", desc := "(I)I" } : Jvm.MethodName) ({ cls := "WhiteLineModel", name := "minutes", desc := "(I)I" } : Jvm.MethodName)) ∈ q_tbl := tm_6 85 rfl rfl
theorem w956 : (Jvm.Cond.code ({ cls := "WhiteLineModel", name := "minutes", desc := "(I)I" } : Jvm.MethodName) prog_14_method_64_code (2 : Nat) (Option.some Jvm.ClassFile.FieldType.int)) ∈ q_tbl := tm_6 86 rfl rfl
theorem w957 : (Jvm.Cond.methodLink "WhiteLineModel" (296 : Nat) ({ cls := "WhiteLineModel", name := "minutesGo", desc := "(I)V" } : Jvm.MethodName)) ∈ q_tbl := tm_6 87 rfl rfl
theorem w958 : (Jvm.Cond.instanceMethod ({ cls := "WhiteLineModel", name := "minutesGo", desc := "(I)V" } : Jvm.MethodName)) ∈ q_tbl := tm_6 89 rfl rfl
theorem w959 : (Jvm.Cond.code ({ cls := "WhiteLineModel", name := "minutesGo", desc := "(I)V" } : Jvm.MethodName) prog_14_method_63_code (3 : Nat) (Option.none : Option Jvm.ClassFile.FieldType)) ∈ q_tbl := tm_6 90 rfl rfl
theorem w960 : (Jvm.Cond.methodLink "WhiteLineModel" (293 : Nat) ({ cls := "WhiteLineModel", name := "minuteGoes", desc := "()V" } : Jvm.MethodName)) ∈ q_tbl := tm_6 91 rfl rfl
theorem w961 : (Jvm.Cond.instanceMethod ({ cls := "WhiteLineModel", name := "minuteGoes", desc := "()V" } : Jvm.MethodName)) ∈ q_tbl := tm_6 93 rfl rfl
theorem w962 : (Jvm.Cond.code ({ cls := "WhiteLineModel", name := "minuteGoes", desc := "()V" } : Jvm.MethodName) prog_14_method_62_code (2 : Nat) (Option.none : Option Jvm.ClassFile.FieldType)) ∈ q_tbl := tm_6 94 rfl rfl
theorem w963 : (Jvm.Cond.methodLink "WhiteLineModel" (284 : Nat) ({ cls := "WhiteLineModel", name := "beginsWith", desc := "(I)V" } : Jvm.MethodName)) ∈ q_tbl := tm_6 95 rfl rfl
theorem w964 : (Jvm.Cond.instanceMethod ({ cls := "WhiteLineModel", name := "beginsWith", desc := "(I)V" } : Jvm.MethodName)) ∈ q_tbl := tm_6 97 rfl rfl
theorem w965 : (Jvm.Cond.code ({ cls := "WhiteLineModel", name := "beginsWith", desc := "(I)V" } : Jvm.MethodName) prog_14_method_59_code (3 : Nat) (Option.none : Option Jvm.ClassFile.FieldType)) ∈ q_tbl := tm_6 98 rfl rfl
theorem w966 : (Jvm.Cond.methodLink "WhiteLineModel" (263 : Nat) ({ cls := "WhiteLineModel", name := "nextOf", desc := "(I)I" } : Jvm.MethodName)) ∈ q_tbl := tm_6 99 rfl rfl
theorem w967 : (Jvm.Cond.instanceMethod ({ cls := "WhiteLineModel", name := "nextOf", desc := "(I)I" } : Jvm.MethodName)) ∈ q_tbl := tm_6 101 rfl rfl
theorem w968 : (Jvm.Cond.code ({ cls := "WhiteLineModel", name := "nextOf", desc := "(I)I" } : Jvm.MethodName) prog_14_method_56_code (3 : Nat) (Option.some Jvm.ClassFile.FieldType.int)) ∈ q_tbl := tm_6 102 rfl rfl
theorem w969 : (Jvm.Cond.methodLink "WhiteLineModel" (251 : Nat) ({ cls := "WhiteLineModel", name := "isPainting", desc := "(I)Z" } : Jvm.MethodName)) ∈ q_tbl := tm_6 103 rfl rfl
theorem w970 : (Jvm.Cond.instanceMethod ({ cls := "WhiteLineModel", name := "isPainting", desc := "(I)Z" } : Jvm.MethodName)) ∈ q_tbl := tm_6 105 rfl rfl
theorem w971 : (Jvm.Cond.code ({ cls := "WhiteLineModel", name := "isPainting", desc := "(I)Z" } : Jvm.MethodName) prog_14_method_55_code (2 : Nat) (Option.some Jvm.ClassFile.FieldType.boolean)) ∈ q_tbl := tm_6 106 rfl rfl
theorem w972 : (Jvm.Cond.methodLink "WhiteLineModel" (266 : Nat) ({ cls := "WhiteLineModel", name := "busy", desc := "(I)I" } : Jvm.MethodName)) ∈ q_tbl := tm_6 107 rfl rfl
theorem w973 : (Jvm.Cond.instanceMethod ({ cls := "WhiteLineModel", name := "busy", desc := "(I)I" } : Jvm.MethodName)) ∈ q_tbl := tm_6 109 rfl rfl
theorem w974 : (Jvm.Cond.code ({ cls := "WhiteLineModel", name := "busy", desc := "(I)I" } : Jvm.MethodName) prog_14_method_57_code (4 : Nat) (Option.some Jvm.ClassFile.FieldType.int)) ∈ q_tbl := tm_6 110 rfl rfl
theorem w975 : (Jvm.Cond.methodLink "WhiteLineModel" (254 : Nat) ({ cls := "WhiteLineModel", name := "isWet", desc := "(II)Z" } : Jvm.MethodName)) ∈ q_tbl := tm_6 111 rfl rfl
theorem w976 : (Jvm.Cond.instanceMethod ({ cls := "WhiteLineModel", name := "isWet", desc := "(II)Z" } : Jvm.MethodName)) ∈ q_tbl := tm_6 113 rfl rfl
theorem w977 : (Jvm.Cond.code ({ cls := "WhiteLineModel", name := "isWet", desc := "(II)Z" } : Jvm.MethodName) prog_14_method_54_code (3 : Nat) (Option.some Jvm.ClassFile.FieldType.boolean)) ∈ q_tbl := tm_6 114 rfl rfl
theorem w978 : (Jvm.Cond.methodLink "WhiteLineModel" (269 : Nat) ({ cls := "WhiteLineModel", name := "paintsFor", desc := "(III)I" } : Jvm.MethodName)) ∈ q_tbl := tm_6 115 rfl rfl
theorem w979 : (Jvm.Cond.instanceMethod ({ cls := "WhiteLineModel", name := "paintsFor", desc := "(III)I" } : Jvm.MethodName)) ∈ q_tbl := tm_6 117 rfl rfl
theorem w980 : (Jvm.Cond.code ({ cls := "WhiteLineModel", name := "paintsFor", desc := "(III)I" } : Jvm.MethodName) prog_14_method_50_code (4 : Nat) (Option.some Jvm.ClassFile.FieldType.int)) ∈ q_tbl := tm_6 118 rfl rfl
theorem w981 : (Jvm.Cond.methodLink "WhiteLineModel" (244 : Nat) ({ cls := "WhiteLineModel", name := "feels", desc := "(IIIZ)V" } : Jvm.MethodName)) ∈ q_tbl := tm_6 119 rfl rfl
theorem w982 : (Jvm.Cond.instanceMethod ({ cls := "WhiteLineModel", name := "feels", desc := "(IIIZ)V" } : Jvm.MethodName)) ∈ q_tbl := tm_6 121 rfl rfl
theorem w983 : (Jvm.Cond.code ({ cls := "WhiteLineModel", name := "feels", desc := "(IIIZ)V" } : Jvm.MethodName) prog_14_method_49_code (5 : Nat) (Option.none : Option Jvm.ClassFile.FieldType)) ∈ q_tbl := tm_6 122 rfl rfl
theorem w984 : (Jvm.Cond.methodLink "WhiteLineModel" (248 : Nat) ({ cls := "WhiteLineModel", name := "byLaw", desc := "(III)I" } : Jvm.MethodName)) ∈ q_tbl := tm_6 123 rfl rfl
theorem w985 : (Jvm.Cond.instanceMethod ({ cls := "WhiteLineModel", name := "byLaw", desc := "(III)I" } : Jvm.MethodName)) ∈ q_tbl := tm_6 125 rfl rfl
theorem w986 : (Jvm.Cond.code ({ cls := "WhiteLineModel", name := "byLaw", desc := "(III)I" } : Jvm.MethodName) prog_14_method_48_code (6 : Nat) (Option.some Jvm.ClassFile.FieldType.int)) ∈ q_tbl := tm_6 126 rfl rfl
theorem w987 : (Jvm.Cond.methodLink "WhiteLineModel" (240 : Nat) ({ cls := "WhiteLineModel", name := "comesTo", desc := "(II)I" } : Jvm.MethodName)) ∈ q_tbl := tm_6 127 rfl rfl
theorem w988 : (Jvm.Cond.instanceMethod ({ cls := "WhiteLineModel", name := "comesTo", desc := "(II)I" } : Jvm.MethodName)) ∈ q_tbl := tm_6 129 rfl rfl
theorem w989 : (Jvm.Cond.code ({ cls := "WhiteLineModel", name := "comesTo", desc := "(II)I" } : Jvm.MethodName) prog_14_method_47_code (8 : Nat) (Option.some Jvm.ClassFile.FieldType.int)) ∈ q_tbl := tm_6 130 rfl rfl
theorem w990 : (Jvm.Cond.methodLink "WhiteLineModel" (236 : Nat) ({ cls := "WhiteLineModel", name := "reckon", desc := "(III)I" } : Jvm.MethodName)) ∈ q_tbl := tm_6 131 rfl rfl
theorem w991 : (Jvm.Cond.static ({ cls := "WhiteLineModel", name := "reckon", desc := "(III)I" } : Jvm.MethodName)) ∈ q_tbl := tm_6 132 rfl rfl
theorem w992 : (Jvm.Cond.code ({ cls := "WhiteLineModel", name := "reckon", desc := "(III)I" } : Jvm.MethodName) prog_14_method_46_code (3 : Nat) (Option.some Jvm.ClassFile.FieldType.int)) ∈ q_tbl := tm_6 133 rfl rfl
theorem w993 : (Jvm.Cond.methodLink "WhiteLineModel" (287 : Nat) ({ cls := "WhiteLineModel", name := "paintsOn", desc := "(I)V" } : Jvm.MethodName)) ∈ q_tbl := tm_6 134 rfl rfl
theorem w994 : (Jvm.Cond.instanceMethod ({ cls := "WhiteLineModel", name := "paintsOn", desc := "(I)V" } : Jvm.MethodName)) ∈ q_tbl := tm_6 136 rfl rfl
theorem w995 : (Jvm.Cond.code ({ cls := "WhiteLineModel", name := "paintsOn", desc := "(I)V" } : Jvm.MethodName) prog_14_method_60_code (3 : Nat) (Option.none : Option Jvm.ClassFile.FieldType)) ∈ q_tbl := tm_6 137 rfl rfl
theorem w996 : (Jvm.Cond.methodLink "WhiteLineModel" (272 : Nat) ({ cls := "WhiteLineModel", name := "held", desc := "(I)I" } : Jvm.MethodName)) ∈ q_tbl := tm_6 138 rfl rfl
theorem w997 : (Jvm.Cond.static ({ cls := "WhiteLineModel", name := "held", desc := "(I)I" } : Jvm.MethodName)) ∈ q_tbl := tm_6 139 rfl rfl
theorem w998 : (Jvm.Cond.code ({ cls := "WhiteLineModel", name := "held", desc := "(I)I" } : Jvm.MethodName) prog_14_method_58_code (1 : Nat) (Option.some Jvm.ClassFile.FieldType.int)) ∈ q_tbl := tm_6 140 rfl rfl
theorem w999 : (Jvm.Cond.methodLink "WhiteLineModel" (257 : Nat) ({ cls := "WhiteLineModel", name := "min", desc := "(II)I" } : Jvm.MethodName)) ∈ q_tbl := tm_6 141 rfl rfl
theorem w1000 : (Jvm.Cond.static ({ cls := "WhiteLineModel", name := "min", desc := "(II)I" } : Jvm.MethodName)) ∈ q_tbl := tm_6 142 rfl rfl
theorem w1001 : (Jvm.Cond.code ({ cls := "WhiteLineModel", name := "min", desc := "(II)I" } : Jvm.MethodName) prog_14_method_3_code (2 : Nat) (Option.some Jvm.ClassFile.FieldType.int)) ∈ q_tbl := tm_6 143 rfl rfl
theorem w1002 : (Jvm.Cond.methodLink "WhiteLineModel" (260 : Nat) ({ cls := "WhiteLineModel", name := "max", desc := "(II)I" } : Jvm.MethodName)) ∈ q_tbl := tm_6 144 rfl rfl
theorem w1003 : (Jvm.Cond.static ({ cls := "WhiteLineModel", name := "max", desc := "(II)I" } : Jvm.MethodName)) ∈ q_tbl := tm_6 145 rfl rfl
theorem w1004 : (Jvm.Cond.code ({ cls := "WhiteLineModel", name := "max", desc := "(II)I" } : Jvm.MethodName) prog_14_method_4_code (2 : Nat) (Option.some Jvm.ClassFile.FieldType.int)) ∈ q_tbl := tm_6 146 rfl rfl
theorem w1005 : (Jvm.Cond.methodLink "WhiteLineModel" (275 : Nat) ({ cls := "WhiteLineModel", name := "driesFor", desc := "(III)I" } : Jvm.MethodName)) ∈ q_tbl := tm_6 147 rfl rfl
theorem w1006 : (Jvm.Cond.instanceMethod ({ cls := "WhiteLineModel", name := "driesFor", desc := "(III)I" } : Jvm.MethodName)) ∈ q_tbl := tm_6 149 rfl rfl
theorem w1007 : (Jvm.Cond.code ({ cls := "WhiteLineModel", name := "driesFor", desc := "(III)I" } : Jvm.MethodName) prog_14_method_51_code (4 : Nat) (Option.some Jvm.ClassFile.FieldType.int)) ∈ q_tbl := tm_6 150 rfl rfl
theorem w1008 : (Jvm.Cond.methodLink "WhiteLineModel" (290 : Nat) ({ cls := "WhiteLineModel", name := "drives", desc := "(I)V" } : Jvm.MethodName)) ∈ q_tbl := tm_6 151 rfl rfl
theorem w1009 : (Jvm.Cond.instanceMethod ({ cls := "WhiteLineModel", name := "drives", desc := "(I)V" } : Jvm.MethodName)) ∈ q_tbl := tm_6 153 rfl rfl
theorem w1010 : (Jvm.Cond.code ({ cls := "WhiteLineModel", name := "drives", desc := "(I)V" } : Jvm.MethodName) prog_14_method_61_code (4 : Nat) (Option.none : Option Jvm.ClassFile.FieldType)) ∈ q_tbl := tm_6 154 rfl rfl
theorem w1011 : (Jvm.Cond.methodLink "WhiteLineModel" (281 : Nat) ({ cls := "WhiteLineModel", name := "has", desc := "(II)Z" } : Jvm.MethodName)) ∈ q_tbl := tm_6 155 rfl rfl
theorem w1012 : (Jvm.Cond.static ({ cls := "WhiteLineModel", name := "has", desc := "(II)Z" } : Jvm.MethodName)) ∈ q_tbl := tm_6 156 rfl rfl
theorem w1013 : (Jvm.Cond.code ({ cls := "WhiteLineModel", name := "has", desc := "(II)Z" } : Jvm.MethodName) prog_14_method_6_code (2 : Nat) (Option.some Jvm.ClassFile.FieldType.boolean)) ∈ q_tbl := tm_6 157 rfl rfl
theorem w1014 : (Jvm.Cond.methodLink "WhiteLineLaw" (66 : Nat) ({ cls := "WhiteLineModel", name := "tried", desc := "(II)I" } : Jvm.MethodName)) ∈ q_tbl := tm_6 158 rfl rfl
theorem w1015 : (Jvm.Cond.instanceMethod ({ cls := "WhiteLineModel", name := "tried", desc := "(II)I" } : Jvm.MethodName)) ∈ q_tbl := tm_6 159 rfl rfl
theorem w1016 : (Jvm.Cond.selects "WhiteLineModel" ({ cls := "WhiteLineModel", name := "tried", desc := "(II)I" } : Jvm.MethodName) ({ cls := "WhiteLineModel", name := "tried", desc := "(II)I" } : Jvm.MethodName)) ∈ q_tbl := tm_6 160 rfl rfl
theorem w1017 : (Jvm.Cond.code ({ cls := "WhiteLineModel", name := "tried", desc := "(II)I" } : Jvm.MethodName) prog_14_method_69_code (4 : Nat) (Option.some Jvm.ClassFile.FieldType.int)) ∈ q_tbl := tm_6 161 rfl rfl
theorem w1018 : (Jvm.Cond.methodLink "WhiteLineModel" (299 : Nat) ({ cls := "WhiteLineModel", name := "copies", desc := "([I[I)V" } : Jvm.MethodName)) ∈ q_tbl := tm_6 162 rfl rfl
theorem w1019 : (Jvm.Cond.static ({ cls := "WhiteLineModel", name := "copies", desc := "([I[I)V" } : Jvm.MethodName)) ∈ q_tbl := tm_6 163 rfl rfl
theorem w1020 : (Jvm.Cond.code ({ cls := "WhiteLineModel", name := "copies", desc := "([I[I)V" } : Jvm.MethodName) prog_14_method_7_code (3 : Nat) (Option.none : Option Jvm.ClassFile.FieldType)) ∈ q_tbl := tm_6 164 rfl rfl
theorem w1021 : (Jvm.Cond.methodLink "WhiteLineModel" (303 : Nat) ({ cls := "WhiteLineModel", name := "paintedAll", desc := "()I" } : Jvm.MethodName)) ∈ q_tbl := tm_6 165 rfl rfl
theorem w1022 : (Jvm.Cond.instanceMethod ({ cls := "WhiteLineModel", name := "paintedAll", desc := "()I" } : Jvm.MethodName)) ∈ q_tbl := tm_6 167 rfl rfl
theorem w1023 : (Jvm.Cond.code ({ cls := "WhiteLineModel", name := "paintedAll", desc := "()I" } : Jvm.MethodName) prog_14_method_65_code (3 : Nat) (Option.some Jvm.ClassFile.FieldType.int)) ∈ q_tbl := tm_6 168 rfl rfl
theorem w1024 : (Jvm.Cond.methodLink "WhiteLineModel" (306 : Nat) ({ cls := "WhiteLineModel", name := "spoiltAll", desc := "()I" } : Jvm.MethodName)) ∈ q_tbl := tm_6 169 rfl rfl
theorem w1025 : (Jvm.Cond.instanceMethod ({ cls := "WhiteLineModel", name := "spoiltAll", desc := "()I" } : Jvm.MethodName)) ∈ q_tbl := tm_6 171 rfl rfl
theorem w1026 : (Jvm.Cond.code ({ cls := "WhiteLineModel", name := "spoiltAll", desc := "()I" } : Jvm.MethodName) prog_14_method_66_code (3 : Nat) (Option.some Jvm.ClassFile.FieldType.int)) ∈ q_tbl := tm_6 172 rfl rfl
theorem w1027 : (Jvm.Cond.methodLink "WhiteLineModel" (309 : Nat) ({ cls := "WhiteLineModel", name := "wetAll", desc := "()I" } : Jvm.MethodName)) ∈ q_tbl := tm_6 173 rfl rfl
theorem w1028 : (Jvm.Cond.instanceMethod ({ cls := "WhiteLineModel", name := "wetAll", desc := "()I" } : Jvm.MethodName)) ∈ q_tbl := tm_6 175 rfl rfl
theorem w1029 : (Jvm.Cond.code ({ cls := "WhiteLineModel", name := "wetAll", desc := "()I" } : Jvm.MethodName) prog_14_method_67_code (3 : Nat) (Option.some Jvm.ClassFile.FieldType.int)) ∈ q_tbl := tm_6 176 rfl rfl
theorem w1030 : (Jvm.Cond.methodLink "WhiteLineModel" (312 : Nat) ({ cls := "WhiteLineModel", name := "offAll", desc := "()I" } : Jvm.MethodName)) ∈ q_tbl := tm_6 177 rfl rfl
theorem w1031 : (Jvm.Cond.instanceMethod ({ cls := "WhiteLineModel", name := "offAll", desc := "()I" } : Jvm.MethodName)) ∈ q_tbl := tm_6 179 rfl rfl
theorem w1032 : (Jvm.Cond.code ({ cls := "WhiteLineModel", name := "offAll", desc := "()I" } : Jvm.MethodName) prog_14_method_68_code (3 : Nat) (Option.some Jvm.ClassFile.FieldType.int)) ∈ q_tbl := tm_6 180 rfl rfl
theorem w1033 : (Jvm.Cond.methodLink "WhiteLineLaw" (70 : Nat) ({ cls := "WhiteLineModel", name := "dot", desc := "(II)I" } : Jvm.MethodName)) ∈ q_tbl := tm_6 181 rfl rfl
theorem w1034 : (Jvm.Cond.instanceMethod ({ cls := "WhiteLineModel", name := "dot", desc := "(II)I" } : Jvm.MethodName)) ∈ q_tbl := tm_6 182 rfl rfl
theorem w1035 : (Jvm.Cond.selects "WhiteLineModel" ({ cls := "WhiteLineModel", name := "dot", desc := "(II)I" } : Jvm.MethodName) ({ cls := "WhiteLineModel", name := "dot", desc := "(II)I" } : Jvm.MethodName)) ∈ q_tbl := tm_6 183 rfl rfl
theorem w1036 : (Jvm.Cond.code ({ cls := "WhiteLineModel", name := "dot", desc := "(II)I" } : Jvm.MethodName) prog_14_method_71_code (3 : Nat) (Option.some Jvm.ClassFile.FieldType.int)) ∈ q_tbl := tm_6 184 rfl rfl
theorem w1037 : (Jvm.Cond.methodLink "WhiteLineModel" (315 : Nat) ({ cls := "WhiteLineModel", name := "paintedBy", desc := "(I)I" } : Jvm.MethodName)) ∈ q_tbl := tm_6 185 rfl rfl
theorem w1038 : (Jvm.Cond.instanceMethod ({ cls := "WhiteLineModel", name := "paintedBy", desc := "(I)I" } : Jvm.MethodName)) ∈ q_tbl := tm_6 187 rfl rfl
theorem w1039 : (Jvm.Cond.code ({ cls := "WhiteLineModel", name := "paintedBy", desc := "(I)I" } : Jvm.MethodName) prog_14_method_70_code (2 : Nat) (Option.some Jvm.ClassFile.FieldType.int)) ∈ q_tbl := tm_6 188 rfl rfl
theorem w1040 : (Jvm.Cond.methodLink "WhiteLineLaw" (74 : Nat) ({ cls := "WhiteLineModel", name := "smooth", desc := "(II)I" } : Jvm.MethodName)) ∈ q_tbl := tm_6 189 rfl rfl
theorem w1041 : (Jvm.Cond.instanceMethod ({ cls := "WhiteLineModel", name := "smooth", desc := "(II)I" } : Jvm.MethodName)) ∈ q_tbl := tm_6 190 rfl rfl
theorem w1042 : (Jvm.Cond.selects "WhiteLineModel" ({ cls := "WhiteLineModel", name := "smooth", desc := "(II)I" } : Jvm.MethodName) ({ cls := "WhiteLineModel", name := "smooth", desc := "(II)I" } : Jvm.MethodName)) ∈ q_tbl := tm_6 191 rfl rfl
theorem w1043 : (Jvm.Cond.code ({ cls := "WhiteLineModel", name := "smooth", desc := "(II)I" } : Jvm.MethodName) prog_14_method_74_code (9 : Nat) (Option.some Jvm.ClassFile.FieldType.int)) ∈ q_tbl := tm_6 192 rfl rfl
theorem w1044 : (Jvm.Cond.methodLink "WhiteLineModel" (322 : Nat) ({ cls := "WhiteLineModel", name := "laysSmooth", desc := "(I)V" } : Jvm.MethodName)) ∈ q_tbl := tm_6 193 rfl rfl
theorem w1045 : (Jvm.Cond.instanceMethod ({ cls := "WhiteLineModel", name := "laysSmooth", desc := "(I)V" } : Jvm.MethodName)) ∈ q_tbl := tm_6 195 rfl rfl
theorem w1046 : (Jvm.Cond.code ({ cls := "WhiteLineModel", name := "laysSmooth", desc := "(I)V" } : Jvm.MethodName) prog_14_method_73_code (7 : Nat) (Option.none : Option Jvm.ClassFile.FieldType)) ∈ q_tbl := tm_6 196 rfl rfl
theorem w1047 : (Jvm.Cond.constant "WhiteLineModel" (318 : Nat) (1000000000 : Int32)) ∈ q_tbl := tm_6 197 rfl rfl
theorem w1048 : (Jvm.Cond.methodLink "WhiteLineModel" (319 : Nat) ({ cls := "WhiteLineModel", name := "offBy", desc := "(II)I" } : Jvm.MethodName)) ∈ q_tbl := tm_6 198 rfl rfl
theorem w1049 : (Jvm.Cond.instanceMethod ({ cls := "WhiteLineModel", name := "offBy", desc := "(II)I" } : Jvm.MethodName)) ∈ q_tbl := tm_6 200 rfl rfl
theorem w1050 : (Jvm.Cond.code ({ cls := "WhiteLineModel", name := "offBy", desc := "(II)I" } : Jvm.MethodName) prog_14_method_72_code (3 : Nat) (Option.some Jvm.ClassFile.FieldType.int)) ∈ q_tbl := tm_6 201 rfl rfl
theorem w1051 : (Jvm.Cond.methodLink "WhiteLineLaw" (78 : Nat) ({ cls := "WhiteLineModel", name := "apart", desc := "(II)I" } : Jvm.MethodName)) ∈ q_tbl := tm_6 202 rfl rfl
theorem w1052 : (Jvm.Cond.instanceMethod ({ cls := "WhiteLineModel", name := "apart", desc := "(II)I" } : Jvm.MethodName)) ∈ q_tbl := tm_6 203 rfl rfl
theorem w1053 : (Jvm.Cond.selects "WhiteLineModel" ({ cls := "WhiteLineModel", name := "apart", desc := "(II)I" } : Jvm.MethodName) ({ cls := "WhiteLineModel", name := "apart", desc := "(II)I" } : Jvm.MethodName)) ∈ q_tbl := tm_6 204 rfl rfl
theorem w1054 : (Jvm.Cond.code ({ cls := "WhiteLineModel", name := "apart", desc := "(II)I" } : Jvm.MethodName) prog_14_method_78_code (8 : Nat) (Option.some Jvm.ClassFile.FieldType.int)) ∈ q_tbl := tm_6 205 rfl rfl
theorem w1055 : (Jvm.Cond.methodLink "WhiteLineModel" (328 : Nat) ({ cls := "WhiteLineModel", name := "worst", desc := "(II)I" } : Jvm.MethodName)) ∈ q_tbl := tm_6 206 rfl rfl
theorem w1056 : (Jvm.Cond.instanceMethod ({ cls := "WhiteLineModel", name := "worst", desc := "(II)I" } : Jvm.MethodName)) ∈ q_tbl := tm_6 208 rfl rfl
theorem w1057 : (Jvm.Cond.code ({ cls := "WhiteLineModel", name := "worst", desc := "(II)I" } : Jvm.MethodName) prog_14_method_76_code (5 : Nat) (Option.some Jvm.ClassFile.FieldType.int)) ∈ q_tbl := tm_6 209 rfl rfl
theorem w1058 : (Jvm.Cond.methodLink "WhiteLineModel" (325 : Nat) ({ cls := "WhiteLineModel", name := "straight", desc := "(III)I" } : Jvm.MethodName)) ∈ q_tbl := tm_6 210 rfl rfl
theorem w1059 : (Jvm.Cond.instanceMethod ({ cls := "WhiteLineModel", name := "straight", desc := "(III)I" } : Jvm.MethodName)) ∈ q_tbl := tm_6 212 rfl rfl
theorem w1060 : (Jvm.Cond.code ({ cls := "WhiteLineModel", name := "straight", desc := "(III)I" } : Jvm.MethodName) prog_14_method_75_code (4 : Nat) (Option.some Jvm.ClassFile.FieldType.int)) ∈ q_tbl := tm_6 213 rfl rfl
theorem w1061 : (Jvm.Cond.methodLink "WhiteLineModel" (331 : Nat) ({ cls := "WhiteLineModel", name := "offBetween", desc := "(II)I" } : Jvm.MethodName)) ∈ q_tbl := tm_6 214 rfl rfl
theorem w1062 : (Jvm.Cond.instanceMethod ({ cls := "WhiteLineModel", name := "offBetween", desc := "(II)I" } : Jvm.MethodName)) ∈ q_tbl := tm_6 216 rfl rfl
theorem w1063 : (Jvm.Cond.code ({ cls := "WhiteLineModel", name := "offBetween", desc := "(II)I" } : Jvm.MethodName) prog_14_method_77_code (5 : Nat) (Option.some Jvm.ClassFile.FieldType.int)) ∈ q_tbl := tm_6 217 rfl rfl
theorem w1064 : (Jvm.Cond.methodLink "WhiteLineLaw" (116 : Nat) ({ cls := "WhiteLineModel", name := "pinned", desc := "(II)I" } : Jvm.MethodName)) ∈ q_tbl := tm_6 218 rfl rfl
theorem w1065 : (Jvm.Cond.instanceMethod ({ cls := "WhiteLineModel", name := "pinned", desc := "(II)I" } : Jvm.MethodName)) ∈ q_tbl := tm_6 219 rfl rfl
theorem w1066 : (Jvm.Cond.selects "WhiteLineModel" ({ cls := "WhiteLineModel", name := "pinned", desc := "(II)I" } : Jvm.MethodName) ({ cls := "WhiteLineModel", name := "pinned", desc := "(II)I" } : Jvm.MethodName)) ∈ q_tbl := tm_6 220 rfl rfl
theorem w1067 : (Jvm.Cond.code ({ cls := "WhiteLineModel", name := "pinned", desc := "(II)I" } : Jvm.MethodName) prog_14_method_80_code (6 : Nat) (Option.some Jvm.ClassFile.FieldType.int)) ∈ q_tbl := tm_6 221 rfl rfl
theorem w1068 : (Jvm.Cond.methodLink "WhiteLineModel" (334 : Nat) ({ cls := "WhiteLineModel", name := "laysPins", desc := "(I)I" } : Jvm.MethodName)) ∈ q_tbl := tm_6 222 rfl rfl
theorem w1069 : (Jvm.Cond.instanceMethod ({ cls := "WhiteLineModel", name := "laysPins", desc := "(I)I" } : Jvm.MethodName)) ∈ q_tbl := tm_6 224 rfl rfl
theorem w1070 : (Jvm.Cond.code ({ cls := "WhiteLineModel", name := "laysPins", desc := "(I)I" } : Jvm.MethodName) prog_14_method_79_code (6 : Nat) (Option.some Jvm.ClassFile.FieldType.int)) ∈ q_tbl := tm_6 225 rfl rfl
theorem w1071 : (Jvm.Cond.methodLink "WhiteLineLaw" (83 : Nat) ({ cls := "WhiteLineModel", name := "seen", desc := "(III)I" } : Jvm.MethodName)) ∈ q_tbl := tm_6 226 rfl rfl
theorem w1072 : (Jvm.Cond.instanceMethod ({ cls := "WhiteLineModel", name := "seen", desc := "(III)I" } : Jvm.MethodName)) ∈ q_tbl := tm_6 227 rfl rfl
theorem w1073 : (Jvm.Cond.selects "WhiteLineModel" ({ cls := "WhiteLineModel", name := "seen", desc := "(III)I" } : Jvm.MethodName) ({ cls := "WhiteLineModel", name := "seen", desc := "(III)I" } : Jvm.MethodName)) ∈ q_tbl := tm_6 228 rfl rfl
theorem w1074 : (Jvm.Cond.code ({ cls := "WhiteLineModel", name := "seen", desc := "(III)I" } : Jvm.MethodName) prog_14_method_84_code (4 : Nat) (Option.some Jvm.ClassFile.FieldType.int)) ∈ q_tbl := tm_6 229 rfl rfl
theorem w1075 : (Jvm.Cond.methodLink "WhiteLineModel" (344 : Nat) ({ cls := "WhiteLineModel", name := "seenFrom", desc := "(III)I" } : Jvm.MethodName)) ∈ q_tbl := tm_6 230 rfl rfl
theorem w1076 : (Jvm.Cond.instanceMethod ({ cls := "WhiteLineModel", name := "seenFrom", desc := "(III)I" } : Jvm.MethodName)) ∈ q_tbl := tm_6 232 rfl rfl
theorem w1077 : (Jvm.Cond.code ({ cls := "WhiteLineModel", name := "seenFrom", desc := "(III)I" } : Jvm.MethodName) prog_14_method_83_code (5 : Nat) (Option.some Jvm.ClassFile.FieldType.int)) ∈ q_tbl := tm_6 233 rfl rfl
theorem w1078 : (Jvm.Cond.methodLink "WhiteLineModel" (337 : Nat) ({ cls := "WhiteLineModel", name := "ahead", desc := "(II)I" } : Jvm.MethodName)) ∈ q_tbl := tm_6 234 rfl rfl
theorem w1079 : (Jvm.Cond.instanceMethod ({ cls := "WhiteLineModel", name := "ahead", desc := "(II)I" } : Jvm.MethodName)) ∈ q_tbl := tm_6 236 rfl rfl
theorem w1080 : (Jvm.Cond.code ({ cls := "WhiteLineModel", name := "ahead", desc := "(II)I" } : Jvm.MethodName) prog_14_method_82_code (3 : Nat) (Option.some Jvm.ClassFile.FieldType.int)) ∈ q_tbl := tm_6 237 rfl rfl
theorem w1081 : (Jvm.Cond.methodLink "WhiteLineModel" (340 : Nat) ({ cls := "WhiteLineModel", name := "isHidden", desc := "(IIII)Z" } : Jvm.MethodName)) ∈ q_tbl := tm_6 238 rfl rfl
theorem w1082 : (Jvm.Cond.instanceMethod ({ cls := "WhiteLineModel", name := "isHidden", desc := "(IIII)Z" } : Jvm.MethodName)) ∈ q_tbl := tm_7 0 rfl rfl
theorem w1083 : (Jvm.Cond.code ({ cls := "WhiteLineModel", name := "isHidden", desc := "(IIII)Z" } : Jvm.MethodName) prog_14_method_81_code (8 : Nat) (Option.some Jvm.ClassFile.FieldType.boolean)) ∈ q_tbl := tm_7 1 rfl rfl
theorem w1084 : (Jvm.Cond.methodLink "WhiteLineLaw" (87 : Nat) ({ cls := "WhiteLineModel", name := "marked", desc := "(II)I" } : Jvm.MethodName)) ∈ q_tbl := tm_7 2 rfl rfl
theorem w1085 : (Jvm.Cond.instanceMethod ({ cls := "WhiteLineModel", name := "marked", desc := "(II)I" } : Jvm.MethodName)) ∈ q_tbl := tm_7 3 rfl rfl
theorem w1086 : (Jvm.Cond.selects "WhiteLineModel" ({ cls := "WhiteLineModel", name := "marked", desc := "(II)I" } : Jvm.MethodName) ({ cls := "WhiteLineModel", name := "marked", desc := "(II)I" } : Jvm.MethodName)) ∈ q_tbl := tm_7 4 rfl rfl
theorem w1087 : (Jvm.Cond.code ({ cls := "WhiteLineModel", name := "marked", desc := "(II)I" } : Jvm.MethodName) prog_14_method_87_code (3 : Nat) (Option.some Jvm.ClassFile.FieldType.int)) ∈ q_tbl := tm_7 5 rfl rfl
theorem w1088 : (Jvm.Cond.methodLink "WhiteLineModel" (353 : Nat) ({ cls := "WhiteLineModel", name := "markAt", desc := "(II)I" } : Jvm.MethodName)) ∈ q_tbl := tm_7 6 rfl rfl
theorem w1089 : (Jvm.Cond.instanceMethod ({ cls := "WhiteLineModel", name := "markAt", desc := "(II)I" } : Jvm.MethodName)) ∈ q_tbl := tm_7 8 rfl rfl
theorem w1090 : (Jvm.Cond.code ({ cls := "WhiteLineModel", name := "markAt", desc := "(II)I" } : Jvm.MethodName) prog_14_method_86_code (4 : Nat) (Option.some Jvm.ClassFile.FieldType.int)) ∈ q_tbl := tm_7 9 rfl rfl
theorem w1091 : (Jvm.Cond.methodLink "WhiteLineModel" (347 : Nat) ({ cls := "WhiteLineModel", name := "mustSee", desc := "(I)I" } : Jvm.MethodName)) ∈ q_tbl := tm_7 10 rfl rfl
theorem w1092 : (Jvm.Cond.instanceMethod ({ cls := "WhiteLineModel", name := "mustSee", desc := "(I)I" } : Jvm.MethodName)) ∈ q_tbl := tm_7 12 rfl rfl
theorem w1093 : (Jvm.Cond.code ({ cls := "WhiteLineModel", name := "mustSee", desc := "(I)I" } : Jvm.MethodName) prog_14_method_52_code (2 : Nat) (Option.some Jvm.ClassFile.FieldType.int)) ∈ q_tbl := tm_7 13 rfl rfl
theorem w1094 : (Jvm.Cond.methodLink "WhiteLineModel" (350 : Nat) ({ cls := "WhiteLineModel", name := "isEnough", desc := "(IIII)Z" } : Jvm.MethodName)) ∈ q_tbl := tm_7 14 rfl rfl
theorem w1095 : (Jvm.Cond.instanceMethod ({ cls := "WhiteLineModel", name := "isEnough", desc := "(IIII)Z" } : Jvm.MethodName)) ∈ q_tbl := tm_7 16 rfl rfl
theorem w1096 : (Jvm.Cond.code ({ cls := "WhiteLineModel", name := "isEnough", desc := "(IIII)Z" } : Jvm.MethodName) prog_14_method_85_code (6 : Nat) (Option.some Jvm.ClassFile.FieldType.boolean)) ∈ q_tbl := tm_7 17 rfl rfl
theorem w1097 : (Jvm.Cond.methodLink "WhiteLineLaw" (91 : Nat) ({ cls := "WhiteLineModel", name := "markings", desc := "(III)I" } : Jvm.MethodName)) ∈ q_tbl := tm_7 18 rfl rfl
theorem w1098 : (Jvm.Cond.instanceMethod ({ cls := "WhiteLineModel", name := "markings", desc := "(III)I" } : Jvm.MethodName)) ∈ q_tbl := tm_7 19 rfl rfl
theorem w1099 : (Jvm.Cond.selects "WhiteLineModel" ({ cls := "WhiteLineModel", name := "markings", desc := "(III)I" } : Jvm.MethodName) ({ cls := "WhiteLineModel", name := "markings", desc := "(III)I" } : Jvm.MethodName)) ∈ q_tbl := tm_7 20 rfl rfl
theorem w1100 : (Jvm.Cond.code ({ cls := "WhiteLineModel", name := "markings", desc := "(III)I" } : Jvm.MethodName) prog_14_method_88_code (9 : Nat) (Option.some Jvm.ClassFile.FieldType.int)) ∈ q_tbl := tm_7 21 rfl rfl
theorem w1101 : (Jvm.Cond.methodLink "WhiteLineLaw" (138 : Nat) ({ cls := "WhiteLineModel", name := "cut", desc := "(III)I" } : Jvm.MethodName)) ∈ q_tbl := tm_7 22 rfl rfl
theorem w1102 : (Jvm.Cond.instanceMethod ({ cls := "WhiteLineModel", name := "cut", desc := "(III)I" } : Jvm.MethodName)) ∈ q_tbl := tm_7 23 rfl rfl
theorem w1103 : (Jvm.Cond.selects "WhiteLineModel" ({ cls := "WhiteLineModel", name := "cut", desc := "(III)I" } : Jvm.MethodName) ({ cls := "WhiteLineModel", name := "cut", desc := "(III)I" } : Jvm.MethodName)) ∈ q_tbl := tm_7 24 rfl rfl
theorem w1104 : (Jvm.Cond.code ({ cls := "WhiteLineModel", name := "cut", desc := "(III)I" } : Jvm.MethodName) prog_14_method_89_code (6 : Nat) (Option.some Jvm.ClassFile.FieldType.int)) ∈ q_tbl := tm_7 25 rfl rfl
theorem w1105 : (Jvm.Cond.methodLink "WhiteLineLaw" (95 : Nat) ({ cls := "WhiteLineModel", name := "joins", desc := "(III)I" } : Jvm.MethodName)) ∈ q_tbl := tm_7 26 rfl rfl
theorem w1106 : (Jvm.Cond.instanceMethod ({ cls := "WhiteLineModel", name := "joins", desc := "(III)I" } : Jvm.MethodName)) ∈ q_tbl := tm_7 27 rfl rfl
theorem w1107 : (Jvm.Cond.selects "WhiteLineModel" ({ cls := "WhiteLineModel", name := "joins", desc := "(III)I" } : Jvm.MethodName) ({ cls := "WhiteLineModel", name := "joins", desc := "(III)I" } : Jvm.MethodName)) ∈ q_tbl := tm_7 28 rfl rfl
theorem w1108 : (Jvm.Cond.code ({ cls := "WhiteLineModel", name := "joins", desc := "(III)I" } : Jvm.MethodName) prog_14_method_90_code (5 : Nat) (Option.some Jvm.ClassFile.FieldType.int)) ∈ q_tbl := tm_7 29 rfl rfl
theorem w1109 : (Jvm.Cond.methodLink "WhiteLineLaw" (99 : Nat) ({ cls := "WhiteLineModel", name := "begins", desc := "(II)I" } : Jvm.MethodName)) ∈ q_tbl := tm_7 30 rfl rfl
theorem w1110 : (Jvm.Cond.instanceMethod ({ cls := "WhiteLineModel", name := "begins", desc := "(II)I" } : Jvm.MethodName)) ∈ q_tbl := tm_7 31 rfl rfl
theorem w1111 : (Jvm.Cond.selects "WhiteLineModel" ({ cls := "WhiteLineModel", name := "begins", desc := "(II)I" } : Jvm.MethodName) ({ cls := "WhiteLineModel", name := "begins", desc := "(II)I" } : Jvm.MethodName)) ∈ q_tbl := tm_7 32 rfl rfl
theorem w1112 : (Jvm.Cond.code ({ cls := "WhiteLineModel", name := "begins", desc := "(II)I" } : Jvm.MethodName) prog_14_method_96_code (3 : Nat) (Option.some Jvm.ClassFile.FieldType.int)) ∈ q_tbl := tm_7 33 rfl rfl
theorem w1113 : (Jvm.Cond.methodLink "WhiteLineModel" (374 : Nat) ({ cls := "WhiteLineModel", name := "paintsBare", desc := "(II)V" } : Jvm.MethodName)) ∈ q_tbl := tm_7 34 rfl rfl
theorem w1114 : (Jvm.Cond.instanceMethod ({ cls := "WhiteLineModel", name := "paintsBare", desc := "(II)V" } : Jvm.MethodName)) ∈ q_tbl := tm_7 36 rfl rfl
theorem w1115 : (Jvm.Cond.code ({ cls := "WhiteLineModel", name := "paintsBare", desc := "(II)V" } : Jvm.MethodName) prog_14_method_93_code (4 : Nat) (Option.none : Option Jvm.ClassFile.FieldType)) ∈ q_tbl := tm_7 37 rfl rfl
theorem w1116 : (Jvm.Cond.methodLink "WhiteLineModel" (368 : Nat) ({ cls := "WhiteLineModel", name := "startsOne", desc := "(II)V" } : Jvm.MethodName)) ∈ q_tbl := tm_7 38 rfl rfl
theorem w1117 : (Jvm.Cond.instanceMethod ({ cls := "WhiteLineModel", name := "startsOne", desc := "(II)V" } : Jvm.MethodName)) ∈ q_tbl := tm_7 40 rfl rfl
theorem w1118 : (Jvm.Cond.code ({ cls := "WhiteLineModel", name := "startsOne", desc := "(II)V" } : Jvm.MethodName) prog_14_method_91_code (3 : Nat) (Option.none : Option Jvm.ClassFile.FieldType)) ∈ q_tbl := tm_7 41 rfl rfl
theorem w1119 : (Jvm.Cond.methodLink "WhiteLineModel" (371 : Nat) ({ cls := "WhiteLineModel", name := "endsOne", desc := "(II)V" } : Jvm.MethodName)) ∈ q_tbl := tm_7 42 rfl rfl
theorem w1120 : (Jvm.Cond.instanceMethod ({ cls := "WhiteLineModel", name := "endsOne", desc := "(II)V" } : Jvm.MethodName)) ∈ q_tbl := tm_7 44 rfl rfl
theorem w1121 : (Jvm.Cond.code ({ cls := "WhiteLineModel", name := "endsOne", desc := "(II)V" } : Jvm.MethodName) prog_14_method_92_code (4 : Nat) (Option.none : Option Jvm.ClassFile.FieldType)) ∈ q_tbl := tm_7 45 rfl rfl
theorem w1122 : (Jvm.Cond.methodLink "WhiteLineModel" (377 : Nat) ({ cls := "WhiteLineModel", name := "allDry", desc := "()I" } : Jvm.MethodName)) ∈ q_tbl := tm_7 46 rfl rfl
theorem w1123 : (Jvm.Cond.instanceMethod ({ cls := "WhiteLineModel", name := "allDry", desc := "()I" } : Jvm.MethodName)) ∈ q_tbl := tm_7 48 rfl rfl
theorem w1124 : (Jvm.Cond.code ({ cls := "WhiteLineModel", name := "allDry", desc := "()I" } : Jvm.MethodName) prog_14_method_94_code (3 : Nat) (Option.some Jvm.ClassFile.FieldType.int)) ∈ q_tbl := tm_7 49 rfl rfl
theorem w1125 : (Jvm.Cond.methodLink "WhiteLineModel" (380 : Nat) ({ cls := "WhiteLineModel", name := "conesFor", desc := "()I" } : Jvm.MethodName)) ∈ q_tbl := tm_7 50 rfl rfl
theorem w1126 : (Jvm.Cond.instanceMethod ({ cls := "WhiteLineModel", name := "conesFor", desc := "()I" } : Jvm.MethodName)) ∈ q_tbl := tm_7 52 rfl rfl
theorem w1127 : (Jvm.Cond.code ({ cls := "WhiteLineModel", name := "conesFor", desc := "()I" } : Jvm.MethodName) prog_14_method_95_code (5 : Nat) (Option.some Jvm.ClassFile.FieldType.int)) ∈ q_tbl := tm_7 53 rfl rfl
theorem w1128 : (Jvm.Cond.methodLink "WhiteLineLaw" (103 : Nat) ({ cls := "WhiteLineModel", name := "latest", desc := "(I)I" } : Jvm.MethodName)) ∈ q_tbl := tm_7 54 rfl rfl
theorem w1129 : (Jvm.Cond.instanceMethod ({ cls := "WhiteLineModel", name := "latest", desc := "(I)I" } : Jvm.MethodName)) ∈ q_tbl := tm_7 55 rfl rfl
theorem w1130 : (Jvm.Cond.selects "WhiteLineModel" ({ cls := "WhiteLineModel", name := "latest", desc := "(I)I" } : Jvm.MethodName) ({ cls := "WhiteLineModel", name := "latest", desc := "(I)I" } : Jvm.MethodName)) ∈ q_tbl := tm_7 56 rfl rfl
theorem w1131 : (Jvm.Cond.code ({ cls := "WhiteLineModel", name := "latest", desc := "(I)I" } : Jvm.MethodName) prog_14_method_98_code (3 : Nat) (Option.some Jvm.ClassFile.FieldType.int)) ∈ q_tbl := tm_7 57 rfl rfl
theorem w1132 : (Jvm.Cond.methodLink "WhiteLineModel" (383 : Nat) ({ cls := "WhiteLineModel", name := "dryFrom", desc := "(I)I" } : Jvm.MethodName)) ∈ q_tbl := tm_7 58 rfl rfl
theorem w1133 : (Jvm.Cond.instanceMethod ({ cls := "WhiteLineModel", name := "dryFrom", desc := "(I)I" } : Jvm.MethodName)) ∈ q_tbl := tm_7 60 rfl rfl
theorem w1134 : (Jvm.Cond.code ({ cls := "WhiteLineModel", name := "dryFrom", desc := "(I)I" } : Jvm.MethodName) prog_14_method_97_code (2 : Nat) (Option.some Jvm.ClassFile.FieldType.int)) ∈ q_tbl := tm_7 61 rfl rfl
theorem w1135 : (Jvm.Cond.methodLink "WhiteLineLaw" (108 : Nat) ({ cls := "WhiteLineModel", name := "dewOdds", desc := "(IIII)I" } : Jvm.MethodName)) ∈ q_tbl := tm_7 62 rfl rfl
theorem w1136 : (Jvm.Cond.instanceMethod ({ cls := "WhiteLineModel", name := "dewOdds", desc := "(IIII)I" } : Jvm.MethodName)) ∈ q_tbl := tm_7 63 rfl rfl
theorem w1137 : (Jvm.Cond.selects "WhiteLineModel" ({ cls := "WhiteLineModel", name := "dewOdds", desc := "(IIII)I" } : Jvm.MethodName) ({ cls := "WhiteLineModel", name := "dewOdds", desc := "(IIII)I" } : Jvm.MethodName)) ∈ q_tbl := tm_7 64 rfl rfl
theorem w1138 : (Jvm.Cond.code ({ cls := "WhiteLineModel", name := "dewOdds", desc := "(IIII)I" } : Jvm.MethodName) prog_14_method_100_code (9 : Nat) (Option.some Jvm.ClassFile.FieldType.int)) ∈ q_tbl := tm_7 65 rfl rfl
theorem w1139 : (Jvm.Cond.methodLink "WhiteLineModel" (386 : Nat) ({ cls := "WhiteLineModel", name := "gcd", desc := "(II)I" } : Jvm.MethodName)) ∈ q_tbl := tm_7 66 rfl rfl
theorem w1140 : (Jvm.Cond.static ({ cls := "WhiteLineModel", name := "gcd", desc := "(II)I" } : Jvm.MethodName)) ∈ q_tbl := tm_7 67 rfl rfl
theorem w1141 : (Jvm.Cond.code ({ cls := "WhiteLineModel", name := "gcd", desc := "(II)I" } : Jvm.MethodName) prog_14_method_99_code (5 : Nat) (Option.some Jvm.ClassFile.FieldType.int)) ∈ q_tbl := tm_7 68 rfl rfl
theorem w1142 : (Jvm.Cond.methodLink "WhiteLineLaw" (112 : Nat) ({ cls := "WhiteLineModel", name := "meet", desc := "(III)I" } : Jvm.MethodName)) ∈ q_tbl := tm_7 69 rfl rfl
theorem w1143 : (Jvm.Cond.instanceMethod ({ cls := "WhiteLineModel", name := "meet", desc := "(III)I" } : Jvm.MethodName)) ∈ q_tbl := tm_7 70 rfl rfl
theorem w1144 : (Jvm.Cond.selects "WhiteLineModel" ({ cls := "WhiteLineModel", name := "meet", desc := "(III)I" } : Jvm.MethodName) ({ cls := "WhiteLineModel", name := "meet", desc := "(III)I" } : Jvm.MethodName)) ∈ q_tbl := tm_7 71 rfl rfl
theorem w1145 : (Jvm.Cond.code ({ cls := "WhiteLineModel", name := "meet", desc := "(III)I" } : Jvm.MethodName) prog_14_method_101_code (5 : Nat) (Option.some Jvm.ClassFile.FieldType.int)) ∈ q_tbl := tm_7 72 rfl rfl
theorem w1146 : (Jvm.Cond.methodLink "WhiteLineLaw" (120 : Nat) ({ cls := "WhiteLineModel", name := "lights", desc := "(III)I" } : Jvm.MethodName)) ∈ q_tbl := tm_7 73 rfl rfl
theorem w1147 : (Jvm.Cond.instanceMethod ({ cls := "WhiteLineModel", name := "lights", desc := "(III)I" } : Jvm.MethodName)) ∈ q_tbl := tm_7 74 rfl rfl
theorem w1148 : (Jvm.Cond.selects "WhiteLineModel" ({ cls := "WhiteLineModel", name := "lights", desc := "(III)I" } : Jvm.MethodName) ({ cls := "WhiteLineModel", name := "lights", desc := "(III)I" } : Jvm.MethodName)) ∈ q_tbl := tm_7 75 rfl rfl
theorem w1149 : (Jvm.Cond.code ({ cls := "WhiteLineModel", name := "lights", desc := "(III)I" } : Jvm.MethodName) prog_14_method_105_code (6 : Nat) (Option.some Jvm.ClassFile.FieldType.int)) ∈ q_tbl := tm_7 76 rfl rfl
theorem w1150 : (Jvm.Cond.methodLink "WhiteLineModel" (392 : Nat) ({ cls := "WhiteLineModel", name := "areCars", desc := "(I)Z" } : Jvm.MethodName)) ∈ q_tbl := tm_7 77 rfl rfl
theorem w1151 : (Jvm.Cond.instanceMethod ({ cls := "WhiteLineModel", name := "areCars", desc := "(I)Z" } : Jvm.MethodName)) ∈ q_tbl := tm_7 79 rfl rfl
theorem w1152 : (Jvm.Cond.code ({ cls := "WhiteLineModel", name := "areCars", desc := "(I)Z" } : Jvm.MethodName) prog_14_method_104_code (3 : Nat) (Option.some Jvm.ClassFile.FieldType.boolean)) ∈ q_tbl := tm_7 80 rfl rfl
theorem w1153 : (Jvm.Cond.methodLink "WhiteLineModel" (395 : Nat) ({ cls := "WhiteLineModel", name := "waitsBy", desc := "(III)I" } : Jvm.MethodName)) ∈ q_tbl := tm_7 81 rfl rfl
theorem w1154 : (Jvm.Cond.instanceMethod ({ cls := "WhiteLineModel", name := "waitsBy", desc := "(III)I" } : Jvm.MethodName)) ∈ q_tbl := tm_7 83 rfl rfl
theorem w1155 : (Jvm.Cond.code ({ cls := "WhiteLineModel", name := "waitsBy", desc := "(III)I" } : Jvm.MethodName) prog_14_method_102_code (8 : Nat) (Option.some Jvm.ClassFile.FieldType.int)) ∈ q_tbl := tm_7 84 rfl rfl
theorem w1156 : (Jvm.Cond.methodLink "WhiteLineModel" (389 : Nat) ({ cls := "WhiteLineModel", name := "isGreen", desc := "(IIII)Z" } : Jvm.MethodName)) ∈ q_tbl := tm_7 85 rfl rfl
theorem w1157 : (Jvm.Cond.static ({ cls := "WhiteLineModel", name := "isGreen", desc := "(IIII)Z" } : Jvm.MethodName)) ∈ q_tbl := tm_7 86 rfl rfl
theorem w1158 : (Jvm.Cond.code ({ cls := "WhiteLineModel", name := "isGreen", desc := "(IIII)Z" } : Jvm.MethodName) prog_14_method_103_code (5 : Nat) (Option.some Jvm.ClassFile.FieldType.boolean)) ∈ q_tbl := tm_7 87 rfl rfl
theorem w1159 : (Jvm.Cond.methodLink "WhiteLineLaw" (125 : Nat) ({ cls := "WhiteLineModel", name := "believed", desc := "(IZ)I" } : Jvm.MethodName)) ∈ q_tbl := tm_7 88 rfl rfl
theorem w1160 : (Jvm.Cond.instanceMethod ({ cls := "WhiteLineModel", name := "believed", desc := "(IZ)I" } : Jvm.MethodName)) ∈ q_tbl := tm_7 89 rfl rfl
theorem w1161 : (Jvm.Cond.selects "WhiteLineModel" ({ cls := "WhiteLineModel", name := "believed", desc := "(IZ)I" } : Jvm.MethodName) ({ cls := "WhiteLineModel", name := "believed", desc := "(IZ)I" } : Jvm.MethodName)) ∈ q_tbl := tm_7 90 rfl rfl
theorem w1162 : (Jvm.Cond.code ({ cls := "WhiteLineModel", name := "believed", desc := "(IZ)I" } : Jvm.MethodName) prog_14_method_107_code (3 : Nat) (Option.some Jvm.ClassFile.FieldType.int)) ∈ q_tbl := tm_7 91 rfl rfl
theorem w1163 : (Jvm.Cond.methodLink "WhiteLineModel" (402 : Nat) ({ cls := "WhiteLineModel", name := "believedAt", desc := "(IZZ)I" } : Jvm.MethodName)) ∈ q_tbl := tm_7 92 rfl rfl
theorem w1164 : (Jvm.Cond.instanceMethod ({ cls := "WhiteLineModel", name := "believedAt", desc := "(IZZ)I" } : Jvm.MethodName)) ∈ q_tbl := tm_7 94 rfl rfl
theorem w1165 : (Jvm.Cond.code ({ cls := "WhiteLineModel", name := "believedAt", desc := "(IZZ)I" } : Jvm.MethodName) prog_14_method_106_code (8 : Nat) (Option.some Jvm.ClassFile.FieldType.int)) ∈ q_tbl := tm_7 95 rfl rfl
theorem w1166 : (Jvm.Cond.methodLink "WhiteLineModel" (398 : Nat) ({ cls := "WhiteLineModel", name := "plain", desc := "(IIZ)I" } : Jvm.MethodName)) ∈ q_tbl := tm_7 96 rfl rfl
theorem w1167 : (Jvm.Cond.instanceMethod ({ cls := "WhiteLineModel", name := "plain", desc := "(IIZ)I" } : Jvm.MethodName)) ∈ q_tbl := tm_7 98 rfl rfl
theorem w1168 : (Jvm.Cond.code ({ cls := "WhiteLineModel", name := "plain", desc := "(IIZ)I" } : Jvm.MethodName) prog_14_method_53_code (4 : Nat) (Option.some Jvm.ClassFile.FieldType.int)) ∈ q_tbl := tm_7 99 rfl rfl
theorem w1169 : (Jvm.Cond.methodLink "WhiteLineLaw" (129 : Nat) ({ cls := "WhiteLineModel", name := "lost", desc := "(IZ)I" } : Jvm.MethodName)) ∈ q_tbl := tm_7 100 rfl rfl
theorem w1170 : (Jvm.Cond.instanceMethod ({ cls := "WhiteLineModel", name := "lost", desc := "(IZ)I" } : Jvm.MethodName)) ∈ q_tbl := tm_7 101 rfl rfl
theorem w1171 : (Jvm.Cond.selects "WhiteLineModel" ({ cls := "WhiteLineModel", name := "lost", desc := "(IZ)I" } : Jvm.MethodName) ({ cls := "WhiteLineModel", name := "lost", desc := "(IZ)I" } : Jvm.MethodName)) ∈ q_tbl := tm_7 102 rfl rfl
theorem w1172 : (Jvm.Cond.code ({ cls := "WhiteLineModel", name := "lost", desc := "(IZ)I" } : Jvm.MethodName) prog_14_method_110_code (3 : Nat) (Option.some Jvm.ClassFile.FieldType.int)) ∈ q_tbl := tm_7 103 rfl rfl
theorem w1173 : (Jvm.Cond.methodLink "WhiteLineModel" (410 : Nat) ({ cls := "WhiteLineModel", name := "lostBut", desc := "(IIIZ)I" } : Jvm.MethodName)) ∈ q_tbl := tm_7 104 rfl rfl
theorem w1174 : (Jvm.Cond.instanceMethod ({ cls := "WhiteLineModel", name := "lostBut", desc := "(IIIZ)I" } : Jvm.MethodName)) ∈ q_tbl := tm_7 106 rfl rfl
theorem w1175 : (Jvm.Cond.code ({ cls := "WhiteLineModel", name := "lostBut", desc := "(IIIZ)I" } : Jvm.MethodName) prog_14_method_109_code (7 : Nat) (Option.some Jvm.ClassFile.FieldType.int)) ∈ q_tbl := tm_7 107 rfl rfl
theorem w1176 : (Jvm.Cond.methodLink "WhiteLineModel" (406 : Nat) ({ cls := "WhiteLineModel", name := "isLost", desc := "(IIZ)Z" } : Jvm.MethodName)) ∈ q_tbl := tm_7 108 rfl rfl
theorem w1177 : (Jvm.Cond.instanceMethod ({ cls := "WhiteLineModel", name := "isLost", desc := "(IIZ)Z" } : Jvm.MethodName)) ∈ q_tbl := tm_7 110 rfl rfl
theorem w1178 : (Jvm.Cond.code ({ cls := "WhiteLineModel", name := "isLost", desc := "(IIZ)Z" } : Jvm.MethodName) prog_14_method_108_code (4 : Nat) (Option.some Jvm.ClassFile.FieldType.boolean)) ∈ q_tbl := tm_7 111 rfl rfl
theorem w1179 : (Jvm.Cond.methodLink "WhiteLineLaw" (134 : Nat) ({ cls := "WhiteLineModel", name := "burnFirst", desc := "(IIZI)I" } : Jvm.MethodName)) ∈ q_tbl := tm_7 112 rfl rfl
theorem w1180 : (Jvm.Cond.instanceMethod ({ cls := "WhiteLineModel", name := "burnFirst", desc := "(IIZI)I" } : Jvm.MethodName)) ∈ q_tbl := tm_7 113 rfl rfl
theorem w1181 : (Jvm.Cond.selects "WhiteLineModel" ({ cls := "WhiteLineModel", name := "burnFirst", desc := "(IIZI)I" } : Jvm.MethodName) ({ cls := "WhiteLineModel", name := "burnFirst", desc := "(IIZI)I" } : Jvm.MethodName)) ∈ q_tbl := tm_7 114 rfl rfl
theorem w1182 : (Jvm.Cond.code ({ cls := "WhiteLineModel", name := "burnFirst", desc := "(IIZI)I" } : Jvm.MethodName) prog_14_method_111_code (9 : Nat) (Option.some Jvm.ClassFile.FieldType.int)) ∈ q_tbl := tm_7 115 rfl rfl
theorem w1183 : (Jvm.Cond.methodLink "WhiteLineLaw" (142 : Nat) ({ cls := "WhiteLineModel", name := "renewed", desc := "(III)I" } : Jvm.MethodName)) ∈ q_tbl := tm_7 116 rfl rfl
theorem w1184 : (Jvm.Cond.instanceMethod ({ cls := "WhiteLineModel", name := "renewed", desc := "(III)I" } : Jvm.MethodName)) ∈ q_tbl := tm_7 117 rfl rfl
theorem w1185 : (Jvm.Cond.selects "WhiteLineModel" ({ cls := "WhiteLineModel", name := "renewed", desc := "(III)I" } : Jvm.MethodName) ({ cls := "WhiteLineModel", name := "renewed", desc := "(III)I" } : Jvm.MethodName)) ∈ q_tbl := tm_7 118 rfl rfl
theorem w1186 : (Jvm.Cond.code ({ cls := "WhiteLineModel", name := "renewed", desc := "(III)I" } : Jvm.MethodName) prog_14_method_115_code (4 : Nat) (Option.some Jvm.ClassFile.FieldType.int)) ∈ q_tbl := tm_7 119 rfl rfl
theorem w1187 : (Jvm.Cond.methodLink "WhiteLineModel" (421 : Nat) ({ cls := "WhiteLineModel", name := "laysWear", desc := "(II)V" } : Jvm.MethodName)) ∈ q_tbl := tm_7 120 rfl rfl
theorem w1188 : (Jvm.Cond.instanceMethod ({ cls := "WhiteLineModel", name := "laysWear", desc := "(II)V" } : Jvm.MethodName)) ∈ q_tbl := tm_7 122 rfl rfl
theorem w1189 : (Jvm.Cond.code ({ cls := "WhiteLineModel", name := "laysWear", desc := "(II)V" } : Jvm.MethodName) prog_14_method_114_code (6 : Nat) (Option.none : Option Jvm.ClassFile.FieldType)) ∈ q_tbl := tm_7 123 rfl rfl
theorem w1190 : (Jvm.Cond.methodLink "WhiteLineModel" (414 : Nat) ({ cls := "WhiteLineModel", name := "wearFrom", desc := "(II)I" } : Jvm.MethodName)) ∈ q_tbl := tm_7 124 rfl rfl
theorem w1191 : (Jvm.Cond.instanceMethod ({ cls := "WhiteLineModel", name := "wearFrom", desc := "(II)I" } : Jvm.MethodName)) ∈ q_tbl := tm_7 126 rfl rfl
theorem w1192 : (Jvm.Cond.code ({ cls := "WhiteLineModel", name := "wearFrom", desc := "(II)I" } : Jvm.MethodName) prog_14_method_113_code (3 : Nat) (Option.some Jvm.ClassFile.FieldType.int)) ∈ q_tbl := tm_7 127 rfl rfl
theorem w1193 : (Jvm.Cond.constant "WhiteLineModel" (417 : Nat) (-1000000000 : Int32)) ∈ q_tbl := tm_7 128 rfl rfl
theorem w1194 : (Jvm.Cond.methodLink "WhiteLineModel" (418 : Nat) ({ cls := "WhiteLineModel", name := "wearIn", desc := "(II)I" } : Jvm.MethodName)) ∈ q_tbl := tm_7 129 rfl rfl
theorem w1195 : (Jvm.Cond.instanceMethod ({ cls := "WhiteLineModel", name := "wearIn", desc := "(II)I" } : Jvm.MethodName)) ∈ q_tbl := tm_7 131 rfl rfl
theorem w1196 : (Jvm.Cond.code ({ cls := "WhiteLineModel", name := "wearIn", desc := "(II)I" } : Jvm.MethodName) prog_14_method_112_code (5 : Nat) (Option.some Jvm.ClassFile.FieldType.int)) ∈ q_tbl := tm_7 132 rfl rfl
theorem w1197 : (Jvm.Cond.methodLink "WhiteLineLaw" (146 : Nat) ({ cls := "WhiteLineModel", name := "who", desc := "(I)I" } : Jvm.MethodName)) ∈ q_tbl := tm_7 133 rfl rfl
theorem w1198 : (Jvm.Cond.instanceMethod ({ cls := "WhiteLineModel", name := "who", desc := "(I)I" } : Jvm.MethodName)) ∈ q_tbl := tm_7 134 rfl rfl
theorem w1199 : (Jvm.Cond.selects "WhiteLineModel" ({ cls := "WhiteLineModel", name := "who", desc := "(I)I" } : Jvm.MethodName) ({ cls := "WhiteLineModel", name := "who", desc := "(I)I" } : Jvm.MethodName)) ∈ q_tbl := tm_7 135 rfl rfl
theorem w1200 : (Jvm.Cond.code ({ cls := "WhiteLineModel", name := "who", desc := "(I)I" } : Jvm.MethodName) prog_14_method_117_code (5 : Nat) (Option.some Jvm.ClassFile.FieldType.int)) ∈ q_tbl := tm_7 136 rfl rfl
theorem w1201 : (Jvm.Cond.methodLink "WhiteLineModel" (424 : Nat) ({ cls := "WhiteLineModel", name := "couldBe", desc := "(II)Z" } : Jvm.MethodName)) ∈ q_tbl := tm_7 137 rfl rfl
theorem w1202 : (Jvm.Cond.instanceMethod ({ cls := "WhiteLineModel", name := "couldBe", desc := "(II)Z" } : Jvm.MethodName)) ∈ q_tbl := tm_7 139 rfl rfl
theorem w1203 : (Jvm.Cond.code ({ cls := "WhiteLineModel", name := "couldBe", desc := "(II)Z" } : Jvm.MethodName) prog_14_method_116_code (6 : Nat) (Option.some Jvm.ClassFile.FieldType.boolean)) ∈ q_tbl := tm_7 140 rfl rfl
theorem w1204 : (Jvm.Cond.methodLink "WhiteLineLaw" (151 : Nat) ({ cls := "WhiteLineModel", name := "keep", desc := "()I" } : Jvm.MethodName)) ∈ q_tbl := tm_7 141 rfl rfl
theorem w1205 : (Jvm.Cond.instanceMethod ({ cls := "WhiteLineModel", name := "keep", desc := "()I" } : Jvm.MethodName)) ∈ q_tbl := tm_7 142 rfl rfl
theorem w1206 : (Jvm.Cond.selects "WhiteLineModel" ({ cls := "WhiteLineModel", name := "keep", desc := "()I" } : Jvm.MethodName) ({ cls := "WhiteLineModel", name := "keep", desc := "()I" } : Jvm.MethodName)) ∈ q_tbl := tm_7 143 rfl rfl
theorem w1207 : (Jvm.Cond.code ({ cls := "WhiteLineModel", name := "keep", desc := "()I" } : Jvm.MethodName) prog_14_method_118_code (1 : Nat) (Option.some Jvm.ClassFile.FieldType.int)) ∈ q_tbl := tm_7 144 rfl rfl
theorem w1208 : (Jvm.Cond.methodLink "WhiteLineLaw" (156 : Nat) ({ cls := "WhiteLineModel", name := "undo", desc := "()Z" } : Jvm.MethodName)) ∈ q_tbl := tm_7 145 rfl rfl
theorem w1209 : (Jvm.Cond.instanceMethod ({ cls := "WhiteLineModel", name := "undo", desc := "()Z" } : Jvm.MethodName)) ∈ q_tbl := tm_7 146 rfl rfl
theorem w1210 : (Jvm.Cond.selects "WhiteLineModel" ({ cls := "WhiteLineModel", name := "undo", desc := "()Z" } : Jvm.MethodName) ({ cls := "WhiteLineModel", name := "undo", desc := "()Z" } : Jvm.MethodName)) ∈ q_tbl := tm_7 147 rfl rfl
theorem w1211 : (Jvm.Cond.code ({ cls := "WhiteLineModel", name := "undo", desc := "()Z" } : Jvm.MethodName) prog_14_method_119_code (1 : Nat) (Option.some Jvm.ClassFile.FieldType.boolean)) ∈ q_tbl := tm_7 148 rfl rfl
theorem w1212 : (Jvm.Cond.methodLink "WhiteLineLaw" (160 : Nat) ({ cls := "WhiteLineModel", name := "check", desc := "(I)I" } : Jvm.MethodName)) ∈ q_tbl := tm_7 149 rfl rfl
theorem w1213 : (Jvm.Cond.instanceMethod ({ cls := "WhiteLineModel", name := "check", desc := "(I)I" } : Jvm.MethodName)) ∈ q_tbl := tm_7 150 rfl rfl
theorem w1214 : (Jvm.Cond.selects "WhiteLineModel" ({ cls := "WhiteLineModel", name := "check", desc := "(I)I" } : Jvm.MethodName) ({ cls := "WhiteLineModel", name := "check", desc := "(I)I" } : Jvm.MethodName)) ∈ q_tbl := tm_7 151 rfl rfl
theorem w1215 : (Jvm.Cond.code ({ cls := "WhiteLineModel", name := "check", desc := "(I)I" } : Jvm.MethodName) prog_14_method_120_code (3 : Nat) (Option.some Jvm.ClassFile.FieldType.int)) ∈ q_tbl := tm_7 152 rfl rfl
theorem w1216 : (Jvm.Cond.methodLink "WhiteLineLaw" (164 : Nat) ({ cls := "WhiteLineModel", name := "count", desc := "(I)I" } : Jvm.MethodName)) ∈ q_tbl := tm_7 153 rfl rfl
theorem w1217 : (Jvm.Cond.instanceMethod ({ cls := "WhiteLineModel", name := "count", desc := "(I)I" } : Jvm.MethodName)) ∈ q_tbl := tm_7 154 rfl rfl
theorem w1218 : (Jvm.Cond.selects "WhiteLineModel" ({ cls := "WhiteLineModel", name := "count", desc := "(I)I" } : Jvm.MethodName) ({ cls := "WhiteLineModel", name := "count", desc := "(I)I" } : Jvm.MethodName)) ∈ q_tbl := tm_7 155 rfl rfl
theorem w1219 : (Jvm.Cond.code ({ cls := "WhiteLineModel", name := "count", desc := "(I)I" } : Jvm.MethodName) prog_14_method_121_code (2 : Nat) (Option.some Jvm.ClassFile.FieldType.int)) ∈ q_tbl := tm_7 156 rfl rfl
theorem w1220 : Cond.selects "WhiteLine$RowReader" yX8_readValue yX8_readValue ∈ q_tbl := tm_s 0 rfl rfl
theorem w1221 : Cond.selects "WhiteLine$RowReader" yX8_peek yX8_peek ∈ q_tbl := tm_s 1 rfl rfl
theorem w1222 : Cond.selects "WhiteLine$RowReader" yX8_readNumber yX8_readNumber ∈ q_tbl := tm_s 2 rfl rfl
theorem w1223 : Cond.selects "WhiteLine$RowReader" yX8_fail yX8_fail ∈ q_tbl := tm_s 3 rfl rfl
theorem w1224 : Cond.selects "WhiteLine$RowReader" yX8_sumOfAmounts yX8_sumOfAmounts ∈ q_tbl := tm_s 4 rfl rfl
theorem w1225 : Cond.selects "WhiteLine" yX11_putOnTape yX11_putOnTape ∈ q_tbl := tm_s 5 rfl rfl
theorem w1226 : Cond.selects "WhiteLine$LawReader" yX4_readClause yX4_readClause ∈ q_tbl := tm_s 6 rfl rfl
theorem w1227 : Cond.selects "WhiteLine$LawReader" yX4_peek yX4_peek ∈ q_tbl := tm_s 7 rfl rfl
theorem w1228 : Cond.selects "WhiteLine$LawReader" yX4_fail yX4_fail ∈ q_tbl := tm_s 8 rfl rfl
theorem w1229 : Cond.selects "WhiteLine$LawReader" yX4_readSum yX4_readSum ∈ q_tbl := tm_s 9 rfl rfl
theorem w1230 : Cond.selects "WhiteLine$LawReader" yX4_readTerm yX4_readTerm ∈ q_tbl := tm_s 10 rfl rfl
theorem w1231 : Cond.selects "WhiteLine$LawReader" yX4_readFactor yX4_readFactor ∈ q_tbl := tm_s 11 rfl rfl
theorem w1232 : Cond.selects "WhiteLine$LawReader" yX4_mayOpen yX4_mayOpen ∈ q_tbl := tm_s 12 rfl rfl
theorem w1233 : Cond.selects "WhiteLine$LawReader" yX4_expect yX4_expect ∈ q_tbl := tm_s 13 rfl rfl
theorem w1234 : Cond.selects "WhiteLine$LawReader" yX4_readNumber yX4_readNumber ∈ q_tbl := tm_s 14 rfl rfl
theorem w1235 : Cond.selects "WhiteLine$LawReader" yX4_readParts yX4_readParts ∈ q_tbl := tm_s 15 rfl rfl
theorem w1236 : Cond.selects "WhiteLine$LawReader" yX4_readPart yX4_readPart ∈ q_tbl := tm_s 16 rfl rfl
theorem w1237 : Cond.selects "WhiteLine$LawReader" yX4_readPiece yX4_readPiece ∈ q_tbl := tm_s 17 rfl rfl
theorem w1238 : Cond.selects "WhiteLine$Law" yX3_run yX3_run ∈ q_tbl := tm_s 18 rfl rfl
theorem w1239 : Cond.selects "WhiteLine$Law" yX3_take yX3_take ∈ q_tbl := tm_s 19 rfl rfl
theorem w1240 : Cond.selects "WhiteLine$Law" yX3_push yX3_push ∈ q_tbl := tm_s 20 rfl rfl
theorem w1241 : Cond.selects "WhiteLine$Law" yX3_valueOf yX3_valueOf ∈ q_tbl := tm_s 21 rfl rfl
theorem w1242 : Cond.selects "WhiteLine$Law" yX3_pop yX3_pop ∈ q_tbl := tm_s 22 rfl rfl
theorem w1243 : Cond.selects "WhiteLine$Law" yX3_skipOrGoOn yX3_skipOrGoOn ∈ q_tbl := tm_s 23 rfl rfl
theorem w1244 : Cond.selects "WhiteLine$Law" yX3_reckon yX3_reckon ∈ q_tbl := tm_s 24 rfl rfl
theorem w1245 : Cond.selects "WhiteLine$Fit" yX1_lowestBest yX1_lowestBest ∈ q_tbl := tm_s 25 rfl rfl
theorem w1246 : Cond.selects "WhiteLine$Plan" yX6_paintOne yX6_paintOne ∈ q_tbl := tm_s 26 rfl rfl
theorem w1247 : Cond.selects "WhiteLine$Stretches" yX10_mostFrom yX10_mostFrom ∈ q_tbl := tm_s 27 rfl rfl
theorem w1248 : Cond.selects "WhiteLine$Stretches" yX10_mostBegunAt yX10_mostBegunAt ∈ q_tbl := tm_s 28 rfl rfl
theorem w1249 : Cond.selects "WhiteLine$Driver" yX0_suspectOneWay yX0_suspectOneWay ∈ q_tbl := tm_s 29 rfl rfl
theorem w1250 : Cond.selects "WhiteLine$Driver" yX0_note yX0_note ∈ q_tbl := tm_s 30 rfl rfl
theorem w1251 : Cond.selects "WhiteLineModel" yX12_bares yX12_bares ∈ q_tbl := tm_s 31 rfl rfl
theorem w1252 : Cond.selects "WhiteLineModel" yX12_isDot yX12_isDot ∈ q_tbl := tm_s 32 rfl rfl
theorem w1253 : Cond.selects "WhiteLineModel" yX12_leaves yX12_leaves ∈ q_tbl := tm_s 33 rfl rfl
theorem w1254 : Cond.selects "WhiteLineModel" yX12_isPainted yX12_isPainted ∈ q_tbl := tm_s 34 rfl rfl
theorem w1255 : Cond.selects "WhiteLineModel" yX12_types yX12_types ∈ q_tbl := tm_s 35 rfl rfl
theorem w1256 : Cond.selects "WhiteLineModel" yX12_readsValue yX12_readsValue ∈ q_tbl := tm_s 36 rfl rfl
theorem w1257 : Cond.selects "WhiteLineModel" yX12_here yX12_here ∈ q_tbl := tm_s 37 rfl rfl
theorem w1258 : Cond.selects "WhiteLineModel" yX12_readsTwo yX12_readsTwo ∈ q_tbl := tm_s 38 rfl rfl
theorem w1259 : Cond.selects "WhiteLineModel" yX12_isDigit yX12_isDigit ∈ q_tbl := tm_s 39 rfl rfl
theorem w1260 : Cond.selects "WhiteLineModel" yX12_wrongAt yX12_wrongAt ∈ q_tbl := tm_s 40 rfl rfl
theorem w1261 : Cond.selects "WhiteLineModel" yX12_takes yX12_takes ∈ q_tbl := tm_s 41 rfl rfl
theorem w1262 : Cond.selects "WhiteLineModel" yX12_readsClause yX12_readsClause ∈ q_tbl := tm_s 42 rfl rfl
theorem w1263 : Cond.selects "WhiteLineModel" yX12_readsSum yX12_readsSum ∈ q_tbl := tm_s 43 rfl rfl
theorem w1264 : Cond.selects "WhiteLineModel" yX12_readsFactor yX12_readsFactor ∈ q_tbl := tm_s 44 rfl rfl
theorem w1265 : Cond.selects "WhiteLineModel" yX12_opens yX12_opens ∈ q_tbl := tm_s 45 rfl rfl
theorem w1266 : Cond.selects "WhiteLineModel" yX12_readsNumber yX12_readsNumber ∈ q_tbl := tm_s 46 rfl rfl
theorem w1267 : Cond.selects "WhiteLineModel" yX12_notes yX12_notes ∈ q_tbl := tm_s 47 rfl rfl
theorem w1268 : Cond.selects "WhiteLineModel" yX12_closesSums yX12_closesSums ∈ q_tbl := tm_s 48 rfl rfl
theorem w1269 : Cond.selects "WhiteLineModel" yX12_waitTop yX12_waitTop ∈ q_tbl := tm_s 49 rfl rfl
theorem w1270 : Cond.selects "WhiteLineModel" yX12_hasOpenSum yX12_hasOpenSum ∈ q_tbl := tm_s 50 rfl rfl
theorem w1271 : Cond.selects "WhiteLineModel" yX12_readsCondition yX12_readsCondition ∈ q_tbl := tm_s 51 rfl rfl
theorem w1272 : Cond.selects "WhiteLineModel" yX12_readsCompared yX12_readsCompared ∈ q_tbl := tm_s 52 rfl rfl
theorem w1273 : Cond.selects "WhiteLineModel" yX12_endsPiece yX12_endsPiece ∈ q_tbl := tm_s 53 rfl rfl
theorem w1274 : Cond.selects "WhiteLineModel" yX12_lands yX12_lands ∈ q_tbl := tm_s 54 rfl rfl
theorem w1275 : Cond.selects "WhiteLineModel" yX12_jumps yX12_jumps ∈ q_tbl := tm_s 55 rfl rfl
theorem w1276 : Cond.selects "WhiteLineModel" yX12_minutesGo yX12_minutesGo ∈ q_tbl := tm_s 56 rfl rfl
theorem w1277 : Cond.selects "WhiteLineModel" yX12_minuteGoes yX12_minuteGoes ∈ q_tbl := tm_s 57 rfl rfl
theorem w1278 : Cond.selects "WhiteLineModel" yX12_beginsWith yX12_beginsWith ∈ q_tbl := tm_s 58 rfl rfl
theorem w1279 : Cond.selects "WhiteLineModel" yX12_nextOf yX12_nextOf ∈ q_tbl := tm_s 59 rfl rfl
theorem w1280 : Cond.selects "WhiteLineModel" yX12_isPainting yX12_isPainting ∈ q_tbl := tm_s 60 rfl rfl
theorem w1281 : Cond.selects "WhiteLineModel" yX12_busy yX12_busy ∈ q_tbl := tm_s 61 rfl rfl
theorem w1282 : Cond.selects "WhiteLineModel" yX12_isWet yX12_isWet ∈ q_tbl := tm_s 62 rfl rfl
theorem w1283 : Cond.selects "WhiteLineModel" yX12_paintsFor yX12_paintsFor ∈ q_tbl := tm_s 63 rfl rfl
theorem w1284 : Cond.selects "WhiteLineModel" yX12_feels yX12_feels ∈ q_tbl := tm_s 64 rfl rfl
theorem w1285 : Cond.selects "WhiteLineModel" yX12_byLaw yX12_byLaw ∈ q_tbl := tm_s 65 rfl rfl
theorem w1286 : Cond.selects "WhiteLineModel" yX12_comesTo yX12_comesTo ∈ q_tbl := tm_s 66 rfl rfl
theorem w1287 : Cond.selects "WhiteLineModel" yX12_paintsOn yX12_paintsOn ∈ q_tbl := tm_s 67 rfl rfl
theorem w1288 : Cond.selects "WhiteLineModel" yX12_driesFor yX12_driesFor ∈ q_tbl := tm_s 68 rfl rfl
theorem w1289 : Cond.selects "WhiteLineModel" yX12_drives yX12_drives ∈ q_tbl := tm_s 69 rfl rfl
theorem w1290 : Cond.selects "WhiteLineModel" yX12_paintedAll yX12_paintedAll ∈ q_tbl := tm_s 70 rfl rfl
theorem w1291 : Cond.selects "WhiteLineModel" yX12_spoiltAll yX12_spoiltAll ∈ q_tbl := tm_s 71 rfl rfl
theorem w1292 : Cond.selects "WhiteLineModel" yX12_wetAll yX12_wetAll ∈ q_tbl := tm_s 72 rfl rfl
theorem w1293 : Cond.selects "WhiteLineModel" yX12_offAll yX12_offAll ∈ q_tbl := tm_s 73 rfl rfl
theorem w1294 : Cond.selects "WhiteLineModel" yX12_paintedBy yX12_paintedBy ∈ q_tbl := tm_s 74 rfl rfl
theorem w1295 : Cond.selects "WhiteLineModel" yX12_laysSmooth yX12_laysSmooth ∈ q_tbl := tm_s 75 rfl rfl
theorem w1296 : Cond.selects "WhiteLineModel" yX12_offBy yX12_offBy ∈ q_tbl := tm_s 76 rfl rfl
theorem w1297 : Cond.selects "WhiteLineModel" yX12_worst yX12_worst ∈ q_tbl := tm_s 77 rfl rfl
theorem w1298 : Cond.selects "WhiteLineModel" yX12_straight yX12_straight ∈ q_tbl := tm_s 78 rfl rfl
theorem w1299 : Cond.selects "WhiteLineModel" yX12_offBetween yX12_offBetween ∈ q_tbl := tm_s 79 rfl rfl
theorem w1300 : Cond.selects "WhiteLineModel" yX12_laysPins yX12_laysPins ∈ q_tbl := tm_s 80 rfl rfl
theorem w1301 : Cond.selects "WhiteLineModel" yX12_seenFrom yX12_seenFrom ∈ q_tbl := tm_s 81 rfl rfl
theorem w1302 : Cond.selects "WhiteLineModel" yX12_ahead yX12_ahead ∈ q_tbl := tm_s 82 rfl rfl
theorem w1303 : Cond.selects "WhiteLineModel" yX12_isHidden yX12_isHidden ∈ q_tbl := tm_s 83 rfl rfl
theorem w1304 : Cond.selects "WhiteLineModel" yX12_markAt yX12_markAt ∈ q_tbl := tm_s 84 rfl rfl
theorem w1305 : Cond.selects "WhiteLineModel" yX12_mustSee yX12_mustSee ∈ q_tbl := tm_s 85 rfl rfl
theorem w1306 : Cond.selects "WhiteLineModel" yX12_isEnough yX12_isEnough ∈ q_tbl := tm_s 86 rfl rfl
theorem w1307 : Cond.selects "WhiteLineModel" yX12_paintsBare yX12_paintsBare ∈ q_tbl := tm_s 87 rfl rfl
theorem w1308 : Cond.selects "WhiteLineModel" yX12_startsOne yX12_startsOne ∈ q_tbl := tm_s 88 rfl rfl
theorem w1309 : Cond.selects "WhiteLineModel" yX12_endsOne yX12_endsOne ∈ q_tbl := tm_s 89 rfl rfl
theorem w1310 : Cond.selects "WhiteLineModel" yX12_allDry yX12_allDry ∈ q_tbl := tm_s 90 rfl rfl
theorem w1311 : Cond.selects "WhiteLineModel" yX12_conesFor yX12_conesFor ∈ q_tbl := tm_s 91 rfl rfl
theorem w1312 : Cond.selects "WhiteLineModel" yX12_dryFrom yX12_dryFrom ∈ q_tbl := tm_s 92 rfl rfl
theorem w1313 : Cond.selects "WhiteLineModel" yX12_areCars yX12_areCars ∈ q_tbl := tm_s 93 rfl rfl
theorem w1314 : Cond.selects "WhiteLineModel" yX12_waitsBy yX12_waitsBy ∈ q_tbl := tm_s 94 rfl rfl
theorem w1315 : Cond.selects "WhiteLineModel" yX12_believedAt yX12_believedAt ∈ q_tbl := tm_s 95 rfl rfl
theorem w1316 : Cond.selects "WhiteLineModel" yX12_plain yX12_plain ∈ q_tbl := tm_s 96 rfl rfl
theorem w1317 : Cond.selects "WhiteLineModel" yX12_lostBut yX12_lostBut ∈ q_tbl := tm_s 97 rfl rfl
theorem w1318 : Cond.selects "WhiteLineModel" yX12_isLost yX12_isLost ∈ q_tbl := tm_s 98 rfl rfl
theorem w1319 : Cond.selects "WhiteLineModel" yX12_laysWear yX12_laysWear ∈ q_tbl := tm_s 99 rfl rfl
theorem w1320 : Cond.selects "WhiteLineModel" yX12_wearFrom yX12_wearFrom ∈ q_tbl := tm_s 100 rfl rfl
theorem w1321 : Cond.selects "WhiteLineModel" yX12_wearIn yX12_wearIn ∈ q_tbl := tm_s 101 rfl rfl
theorem w1322 : Cond.selects "WhiteLineModel" yX12_couldBe yX12_couldBe ∈ q_tbl := tm_s 102 rfl rfl
theorem in_0 : ∀ w ∈ u_ws RX0 TX0 4, w ∈ q_tbl := by
  intro w hw
  have h1 : (u_ws RX0 TX0 4).all goodWord = true := by decide +kernel
  have h2 : u_ws RX0 TX0 4 = ([321, 323, 325, 327] : List Nat).filterMap (fun i => tables_1[i]?) := by decide +kernel
  refine q_mem (List.mem_append_right _ ?_) (List.all_eq_true.mp h1 w hw)
  rw [h2] at hw
  obtain ⟨i, -, hi⟩ := List.mem_filterMap.mp hw
  exact List.mem_of_getElem? hi
theorem in_1 : ∀ w ∈ u_ws RX1 TX1 5, w ∈ q_tbl := by
  intro w hw
  have h1 : (u_ws RX1 TX1 5).all goodWord = true := by decide +kernel
  have h2 : u_ws RX1 TX1 5 = ([297, 299, 301, 303, 305] : List Nat).filterMap (fun i => tables_1[i]?) := by decide +kernel
  refine q_mem (List.mem_append_right _ ?_) (List.all_eq_true.mp h1 w hw)
  rw [h2] at hw
  obtain ⟨i, -, hi⟩ := List.mem_filterMap.mp hw
  exact List.mem_of_getElem? hi
theorem in_2 : ∀ w ∈ u_ws RX2 TX2 4, w ∈ q_tbl := by
  intro w hw
  have h1 : (u_ws RX2 TX2 4).all goodWord = true := by decide +kernel
  have h2 : u_ws RX2 TX2 4 = ([356, 358, 360, 362] : List Nat).filterMap (fun i => tables_1[i]?) := by decide +kernel
  refine q_mem (List.mem_append_right _ ?_) (List.all_eq_true.mp h1 w hw)
  rw [h2] at hw
  obtain ⟨i, -, hi⟩ := List.mem_filterMap.mp hw
  exact List.mem_of_getElem? hi
theorem in_3 : ∀ w ∈ u_ws RX3 TX3 16, w ∈ q_tbl := by
  intro w hw
  have h1 : (u_ws RX3 TX3 16).all goodWord = true := by decide +kernel
  have h2 : u_ws RX3 TX3 16 = ([83, 85, 87, 89, 91, 93, 95, 97, 99, 101, 103, 105, 107, 109, 111, 113] : List Nat).filterMap (fun i => tables_1[i]?) := by decide +kernel
  refine q_mem (List.mem_append_right _ ?_) (List.all_eq_true.mp h1 w hw)
  rw [h2] at hw
  obtain ⟨i, -, hi⟩ := List.mem_filterMap.mp hw
  exact List.mem_of_getElem? hi
theorem in_4 : ∀ w ∈ u_ws RX4 TX4 5, w ∈ q_tbl := by
  intro w hw
  have h1 : (u_ws RX4 TX4 5).all goodWord = true := by decide +kernel
  have h2 : u_ws RX4 TX4 5 = ([122, 124, 126, 128, 130] : List Nat).filterMap (fun i => tables_1[i]?) := by decide +kernel
  refine q_mem (List.mem_append_right _ ?_) (List.all_eq_true.mp h1 w hw)
  rw [h2] at hw
  obtain ⟨i, -, hi⟩ := List.mem_filterMap.mp hw
  exact List.mem_of_getElem? hi
theorem in_5 : ∀ w ∈ u_ws RX6 TX6 7, w ∈ q_tbl := by
  intro w hw
  have h1 : (u_ws RX6 TX6 7).all goodWord = true := by decide +kernel
  have h2 : u_ws RX6 TX6 7 = ([270, 272, 274, 276, 278, 280, 282] : List Nat).filterMap (fun i => tables_1[i]?) := by decide +kernel
  refine q_mem (List.mem_append_right _ ?_) (List.all_eq_true.mp h1 w hw)
  rw [h2] at hw
  obtain ⟨i, -, hi⟩ := List.mem_filterMap.mp hw
  exact List.mem_of_getElem? hi
theorem in_6 : ∀ w ∈ u_ws RX7 TX7 18, w ∈ q_tbl := by
  intro w hw
  have h1 : (u_ws RX7 TX7 18).all goodWord = true := by decide +kernel
  have h2 : u_ws RX7 TX7 18 = ([215, 217, 219, 221, 223, 225, 227, 229, 231, 233, 235, 237, 239, 241, 243, 245, 247, 249] : List Nat).filterMap (fun i => tables_1[i]?) := by decide +kernel
  refine q_mem (List.mem_append_right _ ?_) (List.all_eq_true.mp h1 w hw)
  rw [h2] at hw
  obtain ⟨i, -, hi⟩ := List.mem_filterMap.mp hw
  exact List.mem_of_getElem? hi
theorem in_7 : ∀ w ∈ u_ws RX8 TX8 6, w ∈ q_tbl := by
  intro w hw
  have h1 : (u_ws RX8 TX8 6).all goodWord = true := by decide +kernel
  have h2 : u_ws RX8 TX8 6 = ([38, 40, 42, 44, 46, 48] : List Nat).filterMap (fun i => tables_1[i]?) := by decide +kernel
  refine q_mem (List.mem_append_right _ ?_) (List.all_eq_true.mp h1 w hw)
  rw [h2] at hw
  obtain ⟨i, -, hi⟩ := List.mem_filterMap.mp hw
  exact List.mem_of_getElem? hi
theorem in_8 : ∀ w ∈ u_ws RX10 TX10 2, w ∈ q_tbl := by
  intro w hw
  have h1 : (u_ws RX10 TX10 2).all goodWord = true := by decide +kernel
  have h2 : u_ws RX10 TX10 2 = ([341, 343] : List Nat).filterMap (fun i => tables_1[i]?) := by decide +kernel
  refine q_mem (List.mem_append_right _ ?_) (List.all_eq_true.mp h1 w hw)
  rw [h2] at hw
  obtain ⟨i, -, hi⟩ := List.mem_filterMap.mp hw
  exact List.mem_of_getElem? hi
theorem in_9 : ∀ w ∈ u_ws RX11 TX11 14, w ∈ q_tbl := by
  intro w hw
  have h1 : (u_ws RX11 TX11 14).all goodWord = true := by decide +kernel
  have h2 : u_ws RX11 TX11 14 = ([379, 381, 383, 385, 387, 389, 391, 393, 395, 397, 399, 401, 403, 405] : List Nat).filterMap (fun i => tables_1[i]?) := by decide +kernel
  refine q_mem (List.mem_append_right _ ?_) (List.all_eq_true.mp h1 w hw)
  rw [h2] at hw
  obtain ⟨i, -, hi⟩ := List.mem_filterMap.mp hw
  exact List.mem_of_getElem? hi
theorem in_10 : ∀ w ∈ u_ws RX12 TX12 46, w ∈ q_tbl := by
  intro w hw
  have h1 : (u_ws RX12 TX12 46).all goodWord = true := by decide +kernel
  have h2 : u_ws RX12 TX12 46 = ([1043, 1045, 1047, 1049, 1051, 1053, 1055, 1057, 1059, 1061, 1063, 1065, 1067, 1069, 1071, 1073, 1075, 1077, 1079, 1081, 1083, 1085, 1087, 1089, 1091, 1093, 1095, 1097, 1099, 1101, 1103, 1105, 1107, 1109, 1111, 1113, 1115, 1117, 1119, 1121, 1123, 1125, 1127, 1129, 1131, 1133] : List Nat).filterMap (fun i => tables_1[i]?) := by decide +kernel
  refine q_mem (List.mem_append_right _ ?_) (List.all_eq_true.mp h1 w hw)
  rw [h2] at hw
  obtain ⟨i, -, hi⟩ := List.mem_filterMap.mp hw
  exact List.mem_of_getElem? hi
