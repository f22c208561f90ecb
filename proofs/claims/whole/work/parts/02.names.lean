def RX0 : String := "GravelHasTheLastWord$Drive"
def TX0 : u_T := fun k => match k with
  | 0 => ("GravelHasTheLastWord$Drive", "stones", "[I", true)
  | 1 => ("GravelHasTheLastWord$Drive", "kinds", "[I", true)
  | 2 => ("GravelHasTheLastWord$Drive", "weights", "[I", true)
  | 3 => ("GravelHasTheLastWord$Drive", "chances", "[I", true)
  | 4 => ("GravelHasTheLastWord$Drive", "width", "I", false)
  | 5 => ("GravelHasTheLastWord$Drive", "rain", "I", false)
  | 6 => ("GravelHasTheLastWord$Drive", "ear", "I", false)
  | 7 => ("GravelHasTheLastWord$Drive", "walkers", "I", false)
  | _ => ("GravelHasTheLastWord$Drive", "seed", "I", false)
def tyX0 : Nat → FieldType := fun k => match k with
  | 0 => .array .int
  | 1 => .array .int
  | 2 => .array .int
  | 3 => .array .int
  | 4 => .int
  | 5 => .int
  | 6 => .int
  | 7 => .int
  | _ => .int
abbrev wsX00 : List Cond := u_ws RX0 TX0 9
theorem nmX0 : ∀ a, a < 9 → ∀ b, b < 9 → a ≠ b → (TX0 a).2.1 ≠ (TX0 b).2.1 := by decide +kernel
theorem tyX0_ok : ∀ k, k < 9 → parseFieldDescriptor (TX0 k).2.2.1 = some (tyX0 k) := by decide +kernel
abbrev cX0_init : ByteArray := prog_2_method_1_code
def yX0_init : MethodName := ⟨RX0, "<init>", "()V"⟩
abbrev cX0_layOut : ByteArray := prog_2_method_2_code
def yX0_layOut : MethodName := ⟨RX0, "layOut", "(I)V"⟩
abbrev cX0_takeFrom : ByteArray := prog_2_method_3_code
def yX0_takeFrom : MethodName := ⟨RX0, "takeFrom", "(LGravelHasTheLastWord$Drive;)V"⟩
abbrev cX0_cells : ByteArray := prog_2_method_4_code
def yX0_cells : MethodName := ⟨RX0, "cells", "()I"⟩
abbrev cX0_rowOf : ByteArray := prog_2_method_5_code
def yX0_rowOf : MethodName := ⟨RX0, "rowOf", "(I)I"⟩
abbrev cX0_columnOf : ByteArray := prog_2_method_6_code
def yX0_columnOf : MethodName := ⟨RX0, "columnOf", "(I)I"⟩
abbrev cX0_cellAt : ByteArray := prog_2_method_7_code
def yX0_cellAt : MethodName := ⟨RX0, "cellAt", "(II)I"⟩
abbrev cX0_stonesOn : ByteArray := prog_2_method_8_code
def yX0_stonesOn : MethodName := ⟨RX0, "stonesOn", "(I)I"⟩
abbrev cX0_pour : ByteArray := prog_2_method_9_code
def yX0_pour : MethodName := ⟨RX0, "pour", "(II)V"⟩
abbrev cX0_wetOn : ByteArray := prog_2_method_10_code
def yX0_wetOn : MethodName := ⟨RX0, "wetOn", "(II)I"⟩
abbrev cX0_rakeAll : ByteArray := prog_2_method_11_code
def yX0_rakeAll : MethodName := ⟨RX0, "rakeAll", "()V"⟩
abbrev cX0_allStones : ByteArray := prog_2_method_12_code
def yX0_allStones : MethodName := ⟨RX0, "allStones", "()I"⟩
abbrev cX0_count : ByteArray := prog_2_method_13_code
def yX0_count : MethodName := ⟨RX0, "count", "()I"⟩
abbrev cX0_isFull : ByteArray := prog_2_method_14_code
def yX0_isFull : MethodName := ⟨RX0, "isFull", "()Z"⟩
abbrev cX0_welcome : ByteArray := prog_2_method_15_code
def yX0_welcome : MethodName := ⟨RX0, "welcome", "(III)I"⟩
abbrev cX0_kindOf : ByteArray := prog_2_method_16_code
def yX0_kindOf : MethodName := ⟨RX0, "kindOf", "(I)I"⟩
abbrev cX0_weightOf : ByteArray := prog_2_method_17_code
def yX0_weightOf : MethodName := ⟨RX0, "weightOf", "(I)I"⟩
abbrev cX0_chanceOf : ByteArray := prog_2_method_18_code
def yX0_chanceOf : MethodName := ⟨RX0, "chanceOf", "(I)I"⟩
abbrev cX0_allChances : ByteArray := prog_2_method_19_code
def yX0_allChances : MethodName := ⟨RX0, "allChances", "()I"⟩
abbrev cX0_stepBy : ByteArray := prog_2_method_20_code
def yX0_stepBy : MethodName := ⟨RX0, "stepBy", "(IIII)I"⟩
abbrev cX0_stepUnder : ByteArray := prog_2_method_21_code
def yX0_stepUnder : MethodName := ⟨RX0, "stepUnder", "(IIII)I"⟩
abbrev cX0_stepAs : ByteArray := prog_2_method_22_code
def yX0_stepAs : MethodName := ⟨RX0, "stepAs", "(III)I"⟩
abbrev cX0_stepOn : ByteArray := prog_2_method_23_code
def yX0_stepOn : MethodName := ⟨RX0, "stepOn", "(II)I"⟩
abbrev cX0_raisedStep : ByteArray := prog_2_method_24_code
def yX0_raisedStep : MethodName := ⟨RX0, "raisedStep", "(II)I"⟩
abbrev cX0_soundUnder : ByteArray := prog_2_method_25_code
def yX0_soundUnder : MethodName := ⟨RX0, "soundUnder", "(III)J"⟩
abbrev cX0_drawBelow : ByteArray := prog_2_method_26_code
def yX0_drawBelow : MethodName := ⟨RX0, "drawBelow", "(I)I"⟩
abbrev cX0_drawFeet : ByteArray := prog_2_method_27_code
def yX0_drawFeet : MethodName := ⟨RX0, "drawFeet", "()I"⟩
def RX1 : String := "GravelHasTheLastWord$Paths"
def TX1 : u_T := fun k => match k with
  | 0 => ("GravelHasTheLastWord$Paths", "steps", "[I", true)
  | 1 => ("GravelHasTheLastWord$Paths", "rest", "[I", true)
  | 2 => ("GravelHasTheLastWord$Paths", "counts", "[I", true)
  | 3 => ("GravelHasTheLastWord$Paths", "way", "[I", true)
  | 4 => ("GravelHasTheLastWord$Paths", "open", "[I", true)
  | 5 => ("GravelHasTheLastWord$Paths", "turnable", "[Z", true)
  | 6 => ("GravelHasTheLastWord$Paths", "turned", "[I", true)
  | _ => ("GravelHasTheLastWord$Paths", "width", "I", false)
def tyX1 : Nat → FieldType := fun k => match k with
  | 0 => .array .int
  | 1 => .array .int
  | 2 => .array .int
  | 3 => .array .int
  | 4 => .array .int
  | 5 => .array .boolean
  | 6 => .array .int
  | _ => .int
abbrev wsX10 : List Cond := u_ws RX1 TX1 8
theorem nmX1 : ∀ a, a < 8 → ∀ b, b < 8 → a ≠ b → (TX1 a).2.1 ≠ (TX1 b).2.1 := by decide +kernel
theorem tyX1_ok : ∀ k, k < 8 → parseFieldDescriptor (TX1 k).2.2.1 = some (tyX1 k) := by decide +kernel
abbrev cX1_init : ByteArray := prog_3_method_1_code
def yX1_init : MethodName := ⟨RX1, "<init>", "()V"⟩
abbrev cX1_length : ByteArray := prog_3_method_2_code
def yX1_length : MethodName := ⟨RX1, "length", "()I"⟩
abbrev cX1_cellIn : ByteArray := prog_3_method_3_code
def yX1_cellIn : MethodName := ⟨RX1, "cellIn", "(II)I"⟩
abbrev cX1_stepOn : ByteArray := prog_3_method_4_code
def yX1_stepOn : MethodName := ⟨RX1, "stepOn", "(I)I"⟩
abbrev cX1_putStep : ByteArray := prog_3_method_5_code
def yX1_putStep : MethodName := ⟨RX1, "putStep", "(II)V"⟩
abbrev cX1_cellOnWay : ByteArray := prog_3_method_6_code
def yX1_cellOnWay : MethodName := ⟨RX1, "cellOnWay", "(I)I"⟩
abbrev cX1_turnedCell : ByteArray := prog_3_method_7_code
def yX1_turnedCell : MethodName := ⟨RX1, "turnedCell", "(I)I"⟩
abbrev cX1_leastBehind : ByteArray := prog_3_method_8_code
def yX1_leastBehind : MethodName := ⟨RX1, "leastBehind", "(II)I"⟩
abbrev cX1_sumBehind : ByteArray := prog_3_method_9_code
def yX1_sumBehind : MethodName := ⟨RX1, "sumBehind", "([III)I"⟩
abbrev cX1_leastAtGate : ByteArray := prog_3_method_10_code
def yX1_leastAtGate : MethodName := ⟨RX1, "leastAtGate", "()I"⟩
abbrev cX1_leastTogether : ByteArray := prog_3_method_11_code
def yX1_leastTogether : MethodName := ⟨RX1, "leastTogether", "()I"⟩
abbrev cX1_leastGreatest : ByteArray := prog_3_method_12_code
def yX1_leastGreatest : MethodName := ⟨RX1, "leastGreatest", "()I"⟩
abbrev cX1_keepFirst : ByteArray := prog_3_method_13_code
def yX1_keepFirst : MethodName := ⟨RX1, "keepFirst", "(IZ)V"⟩
abbrev cX1_openWays : ByteArray := prog_3_method_14_code
def yX1_openWays : MethodName := ⟨RX1, "openWays", "()I"⟩
abbrev cX1_allTogether : ByteArray := prog_3_method_15_code
def yX1_allTogether : MethodName := ⟨RX1, "allTogether", "()I"⟩
abbrev cX1_gateSum : ByteArray := prog_3_method_16_code
def yX1_gateSum : MethodName := ⟨RX1, "gateSum", "([I)I"⟩
abbrev cX1_markOpen : ByteArray := prog_3_method_17_code
def yX1_markOpen : MethodName := ⟨RX1, "markOpen", "()V"⟩
abbrev cX1_markTurnable : ByteArray := prog_3_method_18_code
def yX1_markTurnable : MethodName := ⟨RX1, "markTurnable", "(IZ)V"⟩
abbrev cX1_isPassable : ByteArray := prog_3_method_19_code
def yX1_isPassable : MethodName := ⟨RX1, "isPassable", "()Z"⟩
abbrev cX1_turn : ByteArray := prog_3_method_20_code
def yX1_turn : MethodName := ⟨RX1, "turn", "(I)V"⟩
abbrev cX1_fewestTurned : ByteArray := prog_3_method_21_code
def yX1_fewestTurned : MethodName := ⟨RX1, "fewestTurned", "(Z)I"⟩
abbrev cX1_firstTurned : ByteArray := prog_3_method_22_code
def yX1_firstTurned : MethodName := ⟨RX1, "firstTurned", "(IZ)I"⟩
def RX2 : String := "GravelHasTheLastWord$Shelves"
def TX2 : u_T := fun k => match k with
  | 0 => ("GravelHasTheLastWord$Shelves", "marks", "[I", true)
  | 1 => ("GravelHasTheLastWord$Shelves", "sizes", "[I", true)
  | _ => ("GravelHasTheLastWord$Shelves", "elements", "[J", true)
def tyX2 : Nat → FieldType := fun k => match k with
  | 0 => .array .int
  | 1 => .array .int
  | _ => .array .long
abbrev wsX20 : List Cond := u_ws RX2 TX2 3
theorem nmX2 : ∀ a, a < 3 → ∀ b, b < 3 → a ≠ b → (TX2 a).2.1 ≠ (TX2 b).2.1 := by decide +kernel
theorem tyX2_ok : ∀ k, k < 3 → parseFieldDescriptor (TX2 k).2.2.1 = some (tyX2 k) := by decide +kernel
abbrev cX2_init : ByteArray := prog_4_method_1_code
def yX2_init : MethodName := ⟨RX2, "<init>", "()V"⟩
abbrev cX2_heldBy : ByteArray := prog_4_method_2_code
def yX2_heldBy : MethodName := ⟨RX2, "heldBy", "(I)I"⟩
abbrev cX2_sizeOf : ByteArray := prog_4_method_3_code
def yX2_sizeOf : MethodName := ⟨RX2, "sizeOf", "(I)I"⟩
abbrev cX2_taken : ByteArray := prog_4_method_4_code
def yX2_taken : MethodName := ⟨RX2, "taken", "()I"⟩
abbrev cX2_whyNoRow : ByteArray := prog_4_method_5_code
def yX2_whyNoRow : MethodName := ⟨RX2, "whyNoRow", "(I)I"⟩
abbrev cX2_whyNoCopy : ByteArray := prog_4_method_6_code
def yX2_whyNoCopy : MethodName := ⟨RX2, "whyNoCopy", "(II)I"⟩
abbrev cX2_layRow : ByteArray := prog_4_method_7_code
def yX2_layRow : MethodName := ⟨RX2, "layRow", "(III)V"⟩
abbrev cX2_layFeet : ByteArray := prog_4_method_8_code
def yX2_layFeet : MethodName := ⟨RX2, "layFeet", "(II)V"⟩
abbrev cX2_dropFeetFrom : ByteArray := prog_4_method_9_code
def yX2_dropFeetFrom : MethodName := ⟨RX2, "dropFeetFrom", "(I)V"⟩
abbrev cX2_elementOf : ByteArray := prog_4_method_10_code
def yX2_elementOf : MethodName := ⟨RX2, "elementOf", "(II)J"⟩
abbrev cX2_put : ByteArray := prog_4_method_11_code
def yX2_put : MethodName := ⟨RX2, "put", "(IIJ)V"⟩
abbrev cX2_lowest : ByteArray := prog_4_method_12_code
def yX2_lowest : MethodName := ⟨RX2, "lowest", "(IJ)J"⟩
abbrev cX2_move : ByteArray := prog_4_method_13_code
def yX2_move : MethodName := ⟨RX2, "move", "(IIIII)V"⟩
def RX3 : String := "GravelHasTheLastWord$Tape"
def TX3 : u_T := fun k => match k with
  | 0 => ("GravelHasTheLastWord$Tape", "letters", "[I", true)
  | 1 => ("GravelHasTheLastWord$Tape", "size", "I", false)
  | 2 => ("GravelHasTheLastWord$Tape", "token", "I", false)
  | 3 => ("GravelHasTheLastWord$Tape", "place", "I", false)
  | _ => ("GravelHasTheLastWord$Tape", "end", "I", false)
def tyX3 : Nat → FieldType := fun k => match k with
  | 0 => .array .int
  | 1 => .int
  | 2 => .int
  | 3 => .int
  | _ => .int
abbrev wsX30 : List Cond := u_ws RX3 TX3 5
theorem nmX3 : ∀ a, a < 5 → ∀ b, b < 5 → a ≠ b → (TX3 a).2.1 ≠ (TX3 b).2.1 := by decide +kernel
theorem tyX3_ok : ∀ k, k < 5 → parseFieldDescriptor (TX3 k).2.2.1 = some (tyX3 k) := by decide +kernel
abbrev cX3_init : ByteArray := prog_5_method_1_code
def yX3_init : MethodName := ⟨RX3, "<init>", "()V"⟩
abbrev cX3_isFull : ByteArray := prog_5_method_2_code
def yX3_isFull : MethodName := ⟨RX3, "isFull", "()Z"⟩
abbrev cX3_append : ByteArray := prog_5_method_3_code
def yX3_append : MethodName := ⟨RX3, "append", "(I)I"⟩
abbrev cX3_cut : ByteArray := prog_5_method_4_code
def yX3_cut : MethodName := ⟨RX3, "cut", "()I"⟩
abbrev cX3_letterAt : ByteArray := prog_5_method_5_code
def yX3_letterAt : MethodName := ⟨RX3, "letterAt", "(I)I"⟩
abbrev cX3_tokenOf : ByteArray := prog_5_method_6_code
def yX3_tokenOf : MethodName := ⟨RX3, "tokenOf", "(I)I"⟩
abbrev cX3_next : ByteArray := prog_5_method_7_code
def yX3_next : MethodName := ⟨RX3, "next", "()V"⟩
abbrev cX3_readInto : ByteArray := prog_5_method_8_code
def yX3_readInto : MethodName := ⟨RX3, "readInto", "(LGravelHasTheLastWord$Drive;)I"⟩
abbrev cX3_isSpelt : ByteArray := prog_5_method_9_code
def yX3_isSpelt : MethodName := ⟨RX3, "isSpelt", "(Ljava/lang/String;)Z"⟩
abbrev cX3_isTaken : ByteArray := prog_5_method_10_code
def yX3_isTaken : MethodName := ⟨RX3, "isTaken", "(Ljava/lang/String;)Z"⟩
abbrev cX3_number : ByteArray := prog_5_method_11_code
def yX3_number : MethodName := ⟨RX3, "number", "(II)I"⟩
abbrev cX3_isStatement : ByteArray := prog_5_method_12_code
def yX3_isStatement : MethodName := ⟨RX3, "isStatement", "(LGravelHasTheLastWord$Drive;)Z"⟩
abbrev cX3_isFootTold : ByteArray := prog_5_method_13_code
def yX3_isFootTold : MethodName := ⟨RX3, "isFootTold", "(LGravelHasTheLastWord$Drive;)Z"⟩
abbrev cX3_isSideTold : ByteArray := prog_5_method_14_code
def yX3_isSideTold : MethodName := ⟨RX3, "isSideTold", "(LGravelHasTheLastWord$Drive;)Z"⟩
abbrev cX3_isGravelTold : ByteArray := prog_5_method_15_code
def yX3_isGravelTold : MethodName := ⟨RX3, "isGravelTold", "(LGravelHasTheLastWord$Drive;)Z"⟩
abbrev cX3_isPlankTold : ByteArray := prog_5_method_16_code
def yX3_isPlankTold : MethodName := ⟨RX3, "isPlankTold", "(LGravelHasTheLastWord$Drive;)Z"⟩
abbrev cX3_isRainTold : ByteArray := prog_5_method_17_code
def yX3_isRainTold : MethodName := ⟨RX3, "isRainTold", "(LGravelHasTheLastWord$Drive;)Z"⟩
abbrev cX3_isEarTold : ByteArray := prog_5_method_18_code
def yX3_isEarTold : MethodName := ⟨RX3, "isEarTold", "(LGravelHasTheLastWord$Drive;)Z"⟩
def RX4 : String := "GravelHasTheLastWord"
def TX4 : u_T := fun k => match k with
  | 0 => ("GravelHasTheLastWord", "now", "LGravelHasTheLastWord$Drive;", true)
  | 1 => ("GravelHasTheLastWord", "kept", "LGravelHasTheLastWord$Drive;", true)
  | 2 => ("GravelHasTheLastWord", "trial", "LGravelHasTheLastWord$Drive;", true)
  | 3 => ("GravelHasTheLastWord", "shelves", "LGravelHasTheLastWord$Shelves;", true)
  | 4 => ("GravelHasTheLastWord", "tape", "LGravelHasTheLastWord$Tape;", true)
  | 5 => ("GravelHasTheLastWord", "paths", "LGravelHasTheLastWord$Paths;", true)
  | 6 => ("GravelHasTheLastWord", "sounds", "[J", true)
  | 7 => ("GravelHasTheLastWord", "volumes", "[I", true)
  | 8 => ("GravelHasTheLastWord", "refusals", "[I", true)
  | _ => ("GravelHasTheLastWord", "isKept", "Z", false)
def tyX4 : Nat → FieldType := fun k => match k with
  | 0 => .object "GravelHasTheLastWord$Drive"
  | 1 => .object "GravelHasTheLastWord$Drive"
  | 2 => .object "GravelHasTheLastWord$Drive"
  | 3 => .object "GravelHasTheLastWord$Shelves"
  | 4 => .object "GravelHasTheLastWord$Tape"
  | 5 => .object "GravelHasTheLastWord$Paths"
  | 6 => .array .long
  | 7 => .array .int
  | 8 => .array .int
  | _ => .boolean
abbrev wsX40 : List Cond := u_ws RX4 TX4 10
theorem nmX4 : ∀ a, a < 10 → ∀ b, b < 10 → a ≠ b → (TX4 a).2.1 ≠ (TX4 b).2.1 := by decide +kernel
theorem tyX4_ok : ∀ k, k < 10 → parseFieldDescriptor (TX4 k).2.2.1 = some (tyX4 k) := by decide +kernel
abbrev cX4_init : ByteArray := prog_1_method_1_code
def yX4_init : MethodName := ⟨RX4, "<init>", "()V"⟩
abbrev cX4_row : ByteArray := prog_1_method_2_code
def yX4_row : MethodName := ⟨RX4, "row", "(III)I"⟩
abbrev cX4_set : ByteArray := prog_1_method_3_code
def yX4_set : MethodName := ⟨RX4, "set", "(IIJ)I"⟩
abbrev cX4_copy : ByteArray := prog_1_method_4_code
def yX4_copy : MethodName := ⟨RX4, "copy", "(IIIII)I"⟩
abbrev cX4_element : ByteArray := prog_1_method_5_code
def yX4_element : MethodName := ⟨RX4, "element", "(II)J"⟩
abbrev cX4_holds : ByteArray := prog_1_method_6_code
def yX4_holds : MethodName := ⟨RX4, "holds", "(I)I"⟩
abbrev cX4_show : ByteArray := prog_1_method_7_code
def yX4_show : MethodName := ⟨RX4, "show", "(II)I"⟩
abbrev cX4_says : ByteArray := prog_1_method_8_code
def yX4_says : MethodName := ⟨RX4, "says", "(II)I"⟩
abbrev cX4_side : ByteArray := prog_1_method_9_code
def yX4_side : MethodName := ⟨RX4, "side", "(I)I"⟩
abbrev cX4_gravel : ByteArray := prog_1_method_10_code
def yX4_gravel : MethodName := ⟨RX4, "gravel", "(II)I"⟩
abbrev cX4_ask : ByteArray := prog_1_method_11_code
def yX4_ask : MethodName := ⟨RX4, "ask", "(II)I"⟩
abbrev cX4_feet : ByteArray := prog_1_method_12_code
def yX4_feet : MethodName := ⟨RX4, "feet", "(III)I"⟩
abbrev cX4_feed : ByteArray := prog_1_method_13_code
def yX4_feed : MethodName := ⟨RX4, "feed", "(I)I"⟩
abbrev cX4_wipe : ByteArray := prog_1_method_14_code
def yX4_wipe : MethodName := ⟨RX4, "wipe", "()I"⟩
abbrev cX4_drive : ByteArray := prog_1_method_15_code
def yX4_drive : MethodName := ⟨RX4, "drive", "()I"⟩
abbrev cX4_feetOf : ByteArray := prog_1_method_16_code
def yX4_feetOf : MethodName := ⟨RX4, "feetOf", "(II)I"⟩
abbrev cX4_cellOf : ByteArray := prog_1_method_17_code
def yX4_cellOf : MethodName := ⟨RX4, "cellOf", "(II)I"⟩
abbrev cX4_crunch : ByteArray := prog_1_method_18_code
def yX4_crunch : MethodName := ⟨RX4, "crunch", "(III)I"⟩
abbrev cX4_quietest : ByteArray := prog_1_method_19_code
def yX4_quietest : MethodName := ⟨RX4, "quietest", "(II)I"⟩
abbrev cX4_softest : ByteArray := prog_1_method_20_code
def yX4_softest : MethodName := ⟨RX4, "softest", "(II)I"⟩
abbrev cX4_unheard : ByteArray := prog_1_method_21_code
def yX4_unheard : MethodName := ⟨RX4, "unheard", "(II)I"⟩
abbrev cX4_raked : ByteArray := prog_1_method_22_code
def yX4_raked : MethodName := ⟨RX4, "raked", "(II)I"⟩
abbrev cX4_loudest : ByteArray := prog_1_method_23_code
def yX4_loudest : MethodName := ⟨RX4, "loudest", "(II)I"⟩
abbrev cX4_ways : ByteArray := prog_1_method_24_code
def yX4_ways : MethodName := ⟨RX4, "ways", "()I"⟩
abbrev cX4_through : ByteArray := prog_1_method_25_code
def yX4_through : MethodName := ⟨RX4, "through", "(I)I"⟩
abbrev cX4_dry : ByteArray := prog_1_method_26_code
def yX4_dry : MethodName := ⟨RX4, "dry", "(I)I"⟩
abbrev cX4_mean : ByteArray := prog_1_method_27_code
def yX4_mean : MethodName := ⟨RX4, "mean", "(I)I"⟩
abbrev cX4_planks : ByteArray := prog_1_method_28_code
def yX4_planks : MethodName := ⟨RX4, "planks", "(II)I"⟩
abbrev cX4_column : ByteArray := prog_1_method_29_code
def yX4_column : MethodName := ⟨RX4, "column", "(I)I"⟩
abbrev cX4_worst : ByteArray := prog_1_method_30_code
def yX4_worst : MethodName := ⟨RX4, "worst", "(I)I"⟩
abbrev cX4_ranked : ByteArray := prog_1_method_31_code
def yX4_ranked : MethodName := ⟨RX4, "ranked", "(I)I"⟩
abbrev cX4_duel : ByteArray := prog_1_method_32_code
def yX4_duel : MethodName := ⟨RX4, "duel", "(II)I"⟩
abbrev cX4_heardOn : ByteArray := prog_1_method_33_code
def yX4_heardOn : MethodName := ⟨RX4, "heardOn", "(I)I"⟩
abbrev cX4_silent : ByteArray := prog_1_method_34_code
def yX4_silent : MethodName := ⟨RX4, "silent", "()I"⟩
abbrev cX4_heardBy : ByteArray := prog_1_method_35_code
def yX4_heardBy : MethodName := ⟨RX4, "heardBy", "(I)I"⟩
abbrev cX4_gap : ByteArray := prog_1_method_36_code
def yX4_gap : MethodName := ⟨RX4, "gap", "(III)I"⟩
abbrev cX4_confused : ByteArray := prog_1_method_37_code
def yX4_confused : MethodName := ⟨RX4, "confused", "(I)I"⟩
abbrev cX4_odds : ByteArray := prog_1_method_38_code
def yX4_odds : MethodName := ⟨RX4, "odds", "(I)I"⟩
abbrev cX4_who : ByteArray := prog_1_method_39_code
def yX4_who : MethodName := ⟨RX4, "who", "(III)I"⟩
abbrev cX4_apart : ByteArray := prog_1_method_40_code
def yX4_apart : MethodName := ⟨RX4, "apart", "(I)I"⟩
abbrev cX4_telling : ByteArray := prog_1_method_41_code
def yX4_telling : MethodName := ⟨RX4, "telling", "(I)I"⟩
abbrev cX4_as : ByteArray := prog_1_method_42_code
def yX4_as : MethodName := ⟨RX4, "as", "(IIII)I"⟩
abbrev cX4_two : ByteArray := prog_1_method_43_code
def yX4_two : MethodName := ⟨RX4, "two", "(IIII)I"⟩
abbrev cX4_meant : ByteArray := prog_1_method_44_code
def yX4_meant : MethodName := ⟨RX4, "meant", "(IIII)I"⟩
abbrev cX4_judge : ByteArray := prog_1_method_45_code
def yX4_judge : MethodName := ⟨RX4, "judge", "(II)I"⟩
abbrev cX4_loud : ByteArray := prog_1_method_46_code
def yX4_loud : MethodName := ⟨RX4, "loud", "(IIII)I"⟩
abbrev cX4_done : ByteArray := prog_1_method_47_code
def yX4_done : MethodName := ⟨RX4, "done", "(III)I"⟩
abbrev cX4_rake : ByteArray := prog_1_method_48_code
def yX4_rake : MethodName := ⟨RX4, "rake", "()I"⟩
abbrev cX4_sweep : ByteArray := prog_1_method_49_code
def yX4_sweep : MethodName := ⟨RX4, "sweep", "(I)I"⟩
abbrev cX4_arrivals : ByteArray := prog_1_method_50_code
def yX4_arrivals : MethodName := ⟨RX4, "arrivals", "(I)I"⟩
abbrev cX4_seed : ByteArray := prog_1_method_51_code
def yX4_seed : MethodName := ⟨RX4, "seed", "(I)I"⟩
abbrev cX4_image : ByteArray := prog_1_method_52_code
def yX4_image : MethodName := ⟨RX4, "image", "()I"⟩
abbrev cX4_back : ByteArray := prog_1_method_53_code
def yX4_back : MethodName := ⟨RX4, "back", "()I"⟩
abbrev cX4_status : ByteArray := prog_1_method_54_code
def yX4_status : MethodName := ⟨RX4, "status", "(I)I"⟩
abbrev cX4_refuse : ByteArray := prog_1_method_55_code
def yX4_refuse : MethodName := ⟨RX4, "refuse", "(I)I"⟩
abbrev cX4_isWithin : ByteArray := prog_1_method_56_code
def yX4_isWithin : MethodName := ⟨RX4, "isWithin", "(III)Z"⟩
abbrev cX4_isPart : ByteArray := prog_1_method_57_code
def yX4_isPart : MethodName := ⟨RX4, "isPart", "(III)Z"⟩
abbrev cX4_isShelf : ByteArray := prog_1_method_58_code
def yX4_isShelf : MethodName := ⟨RX4, "isShelf", "(I)Z"⟩
abbrev cX4_isFeet : ByteArray := prog_1_method_59_code
def yX4_isFeet : MethodName := ⟨RX4, "isFeet", "(I)Z"⟩
abbrev cX4_isPair : ByteArray := prog_1_method_60_code
def yX4_isPair : MethodName := ⟨RX4, "isPair", "(II)Z"⟩
abbrev cX4_isCell : ByteArray := prog_1_method_61_code
def yX4_isCell : MethodName := ⟨RX4, "isCell", "(I)Z"⟩
abbrev cX4_isColumn : ByteArray := prog_1_method_62_code
def yX4_isColumn : MethodName := ⟨RX4, "isColumn", "(I)Z"⟩
abbrev cX4_isStepOrNone : ByteArray := prog_1_method_63_code
def yX4_isStepOrNone : MethodName := ⟨RX4, "isStepOrNone", "(I)Z"⟩
abbrev cX4_isOfKind : ByteArray := prog_1_method_64_code
def yX4_isOfKind : MethodName := ⟨RX4, "isOfKind", "(II)Z"⟩
abbrev cX4_whyNoRowOf : ByteArray := prog_1_method_65_code
def yX4_whyNoRowOf : MethodName := ⟨RX4, "whyNoRowOf", "(II)I"⟩
abbrev cX4_whyNoWay : ByteArray := prog_1_method_66_code
def yX4_whyNoWay : MethodName := ⟨RX4, "whyNoWay", "(II)I"⟩
abbrev cX4_thousandths : ByteArray := prog_1_method_67_code
def yX4_thousandths : MethodName := ⟨RX4, "thousandths", "(II)I"⟩
abbrev cX4_layNothing : ByteArray := prog_1_method_68_code
def yX4_layNothing : MethodName := ⟨RX4, "layNothing", "()V"⟩
abbrev cX4_layCrunches : ByteArray := prog_1_method_69_code
def yX4_layCrunches : MethodName := ⟨RX4, "layCrunches", "(II)V"⟩
abbrev cX4_layHeard : ByteArray := prog_1_method_70_code
def yX4_layHeard : MethodName := ⟨RX4, "layHeard", "(II)V"⟩
abbrev cX4_leastOf : ByteArray := prog_1_method_71_code
def yX4_leastOf : MethodName := ⟨RX4, "leastOf", "(I)I"⟩
abbrev cX4_toldOfOpenWays : ByteArray := prog_1_method_72_code
def yX4_toldOfOpenWays : MethodName := ⟨RX4, "toldOfOpenWays", "(I)I"⟩
abbrev cX4_toldOfFewest : ByteArray := prog_1_method_73_code
def yX4_toldOfFewest : MethodName := ⟨RX4, "toldOfFewest", "(II)I"⟩
abbrev cX4_placeOf : ByteArray := prog_1_method_74_code
def yX4_placeOf : MethodName := ⟨RX4, "placeOf", "(I)I"⟩
abbrev cX4_listen : ByteArray := prog_1_method_75_code
def yX4_listen : MethodName := ⟨RX4, "listen", "(II)V"⟩
abbrev cX4_soundingAs : ByteArray := prog_1_method_76_code
def yX4_soundingAs : MethodName := ⟨RX4, "soundingAs", "(I)I"⟩
abbrev cX4_apartUnder : ByteArray := prog_1_method_77_code
def yX4_apartUnder : MethodName := ⟨RX4, "apartUnder", "(II)I"⟩
abbrev cX4_mostApart : ByteArray := prog_1_method_78_code
def yX4_mostApart : MethodName := ⟨RX4, "mostApart", "()I"⟩
abbrev cX4_leastRainApart : ByteArray := prog_1_method_79_code
def yX4_leastRainApart : MethodName := ⟨RX4, "leastRainApart", "()I"⟩
abbrev cX4_isToldSo : ByteArray := prog_1_method_80_code
def yX4_isToldSo : MethodName := ⟨RX4, "isToldSo", "(IIIII)Z"⟩
abbrev cX4_fitting : ByteArray := prog_1_method_81_code
def yX4_fitting : MethodName := ⟨RX4, "fitting", "(III)I"⟩
abbrev cX4_sureBehind : ByteArray := prog_1_method_82_code
def yX4_sureBehind : MethodName := ⟨RX4, "sureBehind", "(II)I"⟩
abbrev cX4_likeliestOf : ByteArray := prog_1_method_83_code
def yX4_likeliestOf : MethodName := ⟨RX4, "likeliestOf", "(I)I"⟩
abbrev cX4_chancesOf : ByteArray := prog_1_method_84_code
def yX4_chancesOf : MethodName := ⟨RX4, "chancesOf", "(I)I"⟩
abbrev cX4_areTogether : ByteArray := prog_1_method_85_code
def yX4_areTogether : MethodName := ⟨RX4, "areTogether", "(IIIII)Z"⟩
abbrev cX4_kindsMeant : ByteArray := prog_1_method_86_code
def yX4_kindsMeant : MethodName := ⟨RX4, "kindsMeant", "(III)I"⟩
abbrev cX4_leastWeightMeant : ByteArray := prog_1_method_87_code
def yX4_leastWeightMeant : MethodName := ⟨RX4, "leastWeightMeant", "(III)I"⟩
abbrev cX4_wrongIn : ByteArray := prog_1_method_88_code
def yX4_wrongIn : MethodName := ⟨RX4, "wrongIn", "(II)I"⟩
abbrev cX4_allAlong : ByteArray := prog_1_method_89_code
def yX4_allAlong : MethodName := ⟨RX4, "allAlong", "(II)I"⟩
abbrev cX4_firstHeardAlong : ByteArray := prog_1_method_90_code
def yX4_firstHeardAlong : MethodName := ⟨RX4, "firstHeardAlong", "(II)I"⟩
def RX5 : String := "GravelHasTheLastWordModel"
def TX5 : u_T := fun k => match k with
  | 0 => ("GravelHasTheLastWordModel", "n", "I", false)
  | 1 => ("GravelHasTheLastWordModel", "gravel", "[I", true)
  | 2 => ("GravelHasTheLastWordModel", "rain", "I", false)
  | 3 => ("GravelHasTheLastWordModel", "ear", "I", false)
  | 4 => ("GravelHasTheLastWordModel", "many", "I", false)
  | 5 => ("GravelHasTheLastWordModel", "kind", "[I", true)
  | 6 => ("GravelHasTheLastWordModel", "own", "[I", true)
  | 7 => ("GravelHasTheLastWordModel", "likely", "[I", true)
  | 8 => ("GravelHasTheLastWordModel", "seed", "I", false)
  | 9 => ("GravelHasTheLastWordModel", "taped", "I", false)
  | 10 => ("GravelHasTheLastWordModel", "tape", "[I", true)
  | 11 => ("GravelHasTheLastWordModel", "from", "I", false)
  | 12 => ("GravelHasTheLastWordModel", "to", "I", false)
  | 13 => ("GravelHasTheLastWordModel", "token", "I", false)
  | 14 => ("GravelHasTheLastWordModel", "value", "I", false)
  | 15 => ("GravelHasTheLastWordModel", "holding", "[I", true)
  | 16 => ("GravelHasTheLastWordModel", "rowLength", "[I", true)
  | 17 => ("GravelHasTheLastWordModel", "rowOf", "[J", true)
  | 18 => ("GravelHasTheLastWordModel", "refusals", "[I", true)
  | 19 => ("GravelHasTheLastWordModel", "imaged", "Z", false)
  | 20 => ("GravelHasTheLastWordModel", "old", "[I", true)
  | 21 => ("GravelHasTheLastWordModel", "ahead", "[I", true)
  | 22 => ("GravelHasTheLastWordModel", "cost", "[I", true)
  | 23 => ("GravelHasTheLastWordModel", "may", "[Z", true)
  | 24 => ("GravelHasTheLastWordModel", "rest", "[I", true)
  | _ => ("GravelHasTheLastWordModel", "way", "[I", true)
def tyX5 : Nat → FieldType := fun k => match k with
  | 0 => .int
  | 1 => .array .int
  | 2 => .int
  | 3 => .int
  | 4 => .int
  | 5 => .array .int
  | 6 => .array .int
  | 7 => .array .int
  | 8 => .int
  | 9 => .int
  | 10 => .array .int
  | 11 => .int
  | 12 => .int
  | 13 => .int
  | 14 => .int
  | 15 => .array .int
  | 16 => .array .int
  | 17 => .array .long
  | 18 => .array .int
  | 19 => .boolean
  | 20 => .array .int
  | 21 => .array .int
  | 22 => .array .int
  | 23 => .array .boolean
  | 24 => .array .int
  | _ => .array .int
abbrev wsX50 : List Cond := u_ws RX5 TX5 26
theorem nmX5 : ∀ a, a < 26 → ∀ b, b < 26 → a ≠ b → (TX5 a).2.1 ≠ (TX5 b).2.1 := by decide +kernel
theorem tyX5_ok : ∀ k, k < 26 → parseFieldDescriptor (TX5 k).2.2.1 = some (tyX5 k) := by decide +kernel
abbrev cX5_init : ByteArray := prog_7_method_1_code
def yX5_init : MethodName := ⟨RX5, "<init>", "()V"⟩
abbrev cX5_no : ByteArray := prog_7_method_2_code
def yX5_no : MethodName := ⟨RX5, "no", "(I)I"⟩
abbrev cX5_within : ByteArray := prog_7_method_3_code
def yX5_within : MethodName := ⟨RX5, "within", "(III)Z"⟩
abbrev cX5_isFeet : ByteArray := prog_7_method_4_code
def yX5_isFeet : MethodName := ⟨RX5, "isFeet", "(I)Z"⟩
abbrev cX5_isCell : ByteArray := prog_7_method_5_code
def yX5_isCell : MethodName := ⟨RX5, "isCell", "(I)Z"⟩
abbrev cX5_isColumn : ByteArray := prog_7_method_6_code
def yX5_isColumn : MethodName := ⟨RX5, "isColumn", "(I)Z"⟩
abbrev cX5_isPlace : ByteArray := prog_7_method_7_code
def yX5_isPlace : MethodName := ⟨RX5, "isPlace", "(I)Z"⟩
abbrev cX5_isShelf : ByteArray := prog_7_method_8_code
def yX5_isShelf : MethodName := ⟨RX5, "isShelf", "(I)Z"⟩
abbrev cX5_isRow : ByteArray := prog_7_method_9_code
def yX5_isRow : MethodName := ⟨RX5, "isRow", "(I)Z"⟩
abbrev cX5_row : ByteArray := prog_7_method_10_code
def yX5_row : MethodName := ⟨RX5, "row", "(III)I"⟩
abbrev cX5_noRow : ByteArray := prog_7_method_11_code
def yX5_noRow : MethodName := ⟨RX5, "noRow", "(I)I"⟩
abbrev cX5_kept : ByteArray := prog_7_method_12_code
def yX5_kept : MethodName := ⟨RX5, "kept", "(IJ)J"⟩
abbrev cX5_set : ByteArray := prog_7_method_13_code
def yX5_set : MethodName := ⟨RX5, "set", "(IIJ)I"⟩
abbrev cX5_copy : ByteArray := prog_7_method_14_code
def yX5_copy : MethodName := ⟨RX5, "copy", "(IIIII)I"⟩
abbrev cX5_element : ByteArray := prog_7_method_15_code
def yX5_element : MethodName := ⟨RX5, "element", "(II)J"⟩
abbrev cX5_holds : ByteArray := prog_7_method_16_code
def yX5_holds : MethodName := ⟨RX5, "holds", "(I)I"⟩
abbrev cX5_show : ByteArray := prog_7_method_17_code
def yX5_show : MethodName := ⟨RX5, "show", "(II)I"⟩
abbrev cX5_isUnder : ByteArray := prog_7_method_18_code
def yX5_isUnder : MethodName := ⟨RX5, "isUnder", "(II)Z"⟩
abbrev cX5_says : ByteArray := prog_7_method_19_code
def yX5_says : MethodName := ⟨RX5, "says", "(II)I"⟩
abbrev cX5_wet : ByteArray := prog_7_method_20_code
def yX5_wet : MethodName := ⟨RX5, "wet", "(I)I"⟩
abbrev cX5_crunches : ByteArray := prog_7_method_21_code
def yX5_crunches : MethodName := ⟨RX5, "crunches", "(III)I"⟩
abbrev cX5_stepOn : ByteArray := prog_7_method_22_code
def yX5_stepOn : MethodName := ⟨RX5, "stepOn", "(II)I"⟩
abbrev cX5_sides : ByteArray := prog_7_method_23_code
def yX5_sides : MethodName := ⟨RX5, "sides", "(I)I"⟩
abbrev cX5_side : ByteArray := prog_7_method_24_code
def yX5_side : MethodName := ⟨RX5, "side", "(I)I"⟩
abbrev cX5_gravel : ByteArray := prog_7_method_25_code
def yX5_gravel : MethodName := ⟨RX5, "gravel", "(II)I"⟩
abbrev cX5_ask : ByteArray := prog_7_method_26_code
def yX5_ask : MethodName := ⟨RX5, "ask", "(II)I"⟩
abbrev cX5_newFeet : ByteArray := prog_7_method_27_code
def yX5_newFeet : MethodName := ⟨RX5, "newFeet", "(III)I"⟩
abbrev cX5_feet : ByteArray := prog_7_method_28_code
def yX5_feet : MethodName := ⟨RX5, "feet", "(III)I"⟩
abbrev cX5_rakes : ByteArray := prog_7_method_29_code
def yX5_rakes : MethodName := ⟨RX5, "rakes", "()V"⟩
abbrev cX5_feed : ByteArray := prog_7_method_30_code
def yX5_feed : MethodName := ⟨RX5, "feed", "(I)I"⟩
abbrev cX5_wipe : ByteArray := prog_7_method_31_code
def yX5_wipe : MethodName := ⟨RX5, "wipe", "()I"⟩
abbrev cX5_isLetter : ByteArray := prog_7_method_32_code
def yX5_isLetter : MethodName := ⟨RX5, "isLetter", "(I)Z"⟩
abbrev cX5_isDigit : ByteArray := prog_7_method_33_code
def yX5_isDigit : MethodName := ⟨RX5, "isDigit", "(I)Z"⟩
abbrev cX5_next : ByteArray := prog_7_method_34_code
def yX5_next : MethodName := ⟨RX5, "next", "()V"⟩
abbrev cX5_isWord : ByteArray := prog_7_method_35_code
def yX5_isWord : MethodName := ⟨RX5, "isWord", "(Ljava/lang/String;)Z"⟩
abbrev cX5_number : ByteArray := prog_7_method_36_code
def yX5_number : MethodName := ⟨RX5, "number", "(II)I"⟩
abbrev cX5_statement : ByteArray := prog_7_method_37_code
def yX5_statement : MethodName := ⟨RX5, "statement", "()Z"⟩
abbrev cX5_drive : ByteArray := prog_7_method_38_code
def yX5_drive : MethodName := ⟨RX5, "drive", "()I"⟩
abbrev cX5_feetOf : ByteArray := prog_7_method_39_code
def yX5_feetOf : MethodName := ⟨RX5, "feetOf", "(II)I"⟩
abbrev cX5_cellOf : ByteArray := prog_7_method_40_code
def yX5_cellOf : MethodName := ⟨RX5, "cellOf", "(II)I"⟩
abbrev cX5_crunch : ByteArray := prog_7_method_41_code
def yX5_crunch : MethodName := ⟨RX5, "crunch", "(III)I"⟩
abbrev cX5_costs : ByteArray := prog_7_method_42_code
def yX5_costs : MethodName := ⟨RX5, "costs", "(I)V"⟩
abbrev cX5_isNext : ByteArray := prog_7_method_43_code
def yX5_isNext : MethodName := ⟨RX5, "isNext", "(II)Z"⟩
abbrev cX5_count : ByteArray := prog_7_method_44_code
def yX5_count : MethodName := ⟨RX5, "count", "()I"⟩
abbrev cX5_first : ByteArray := prog_7_method_45_code
def yX5_first : MethodName := ⟨RX5, "first", "()V"⟩
abbrev cX5_sums : ByteArray := prog_7_method_46_code
def yX5_sums : MethodName := ⟨RX5, "sums", "(I)I"⟩
abbrev cX5_quiet : ByteArray := prog_7_method_47_code
def yX5_quiet : MethodName := ⟨RX5, "quiet", "(I)I"⟩
abbrev cX5_quietest : ByteArray := prog_7_method_48_code
def yX5_quietest : MethodName := ⟨RX5, "quietest", "(II)I"⟩
abbrev cX5_loudest : ByteArray := prog_7_method_49_code
def yX5_loudest : MethodName := ⟨RX5, "loudest", "(II)I"⟩
abbrev cX5_upTo : ByteArray := prog_7_method_50_code
def yX5_upTo : MethodName := ⟨RX5, "upTo", "(I)I"⟩
abbrev cX5_softest : ByteArray := prog_7_method_51_code
def yX5_softest : MethodName := ⟨RX5, "softest", "(II)I"⟩
abbrev cX5_unheardBy : ByteArray := prog_7_method_52_code
def yX5_unheardBy : MethodName := ⟨RX5, "unheardBy", "(I)I"⟩
abbrev cX5_unheard : ByteArray := prog_7_method_53_code
def yX5_unheard : MethodName := ⟨RX5, "unheard", "(II)I"⟩
abbrev cX5_isSo : ByteArray := prog_7_method_54_code
def yX5_isSo : MethodName := ⟨RX5, "isSo", "(IZ)Z"⟩
abbrev cX5_fewest : ByteArray := prog_7_method_55_code
def yX5_fewest : MethodName := ⟨RX5, "fewest", "(IIZ)I"⟩
abbrev cX5_cellsOf : ByteArray := prog_7_method_56_code
def yX5_cellsOf : MethodName := ⟨RX5, "cellsOf", "(IIZI)I"⟩
abbrev cX5_raked : ByteArray := prog_7_method_57_code
def yX5_raked : MethodName := ⟨RX5, "raked", "(II)I"⟩
abbrev cX5_planks : ByteArray := prog_7_method_58_code
def yX5_planks : MethodName := ⟨RX5, "planks", "(II)I"⟩
abbrev cX5_ways : ByteArray := prog_7_method_59_code
def yX5_ways : MethodName := ⟨RX5, "ways", "()I"⟩
abbrev cX5_through : ByteArray := prog_7_method_60_code
def yX5_through : MethodName := ⟨RX5, "through", "(I)I"⟩
abbrev cX5_dry : ByteArray := prog_7_method_61_code
def yX5_dry : MethodName := ⟨RX5, "dry", "(I)I"⟩
abbrev cX5_mean : ByteArray := prog_7_method_62_code
def yX5_mean : MethodName := ⟨RX5, "mean", "(I)I"⟩
abbrev cX5_heardOn : ByteArray := prog_7_method_63_code
def yX5_heardOn : MethodName := ⟨RX5, "heardOn", "(I)I"⟩
abbrev cX5_silent : ByteArray := prog_7_method_64_code
def yX5_silent : MethodName := ⟨RX5, "silent", "()I"⟩
abbrev cX5_heardBy : ByteArray := prog_7_method_65_code
def yX5_heardBy : MethodName := ⟨RX5, "heardBy", "(I)I"⟩
abbrev cX5_gapOf : ByteArray := prog_7_method_66_code
def yX5_gapOf : MethodName := ⟨RX5, "gapOf", "(III)I"⟩
abbrev cX5_areTwo : ByteArray := prog_7_method_67_code
def yX5_areTwo : MethodName := ⟨RX5, "areTwo", "(II)Z"⟩
abbrev cX5_gap : ByteArray := prog_7_method_68_code
def yX5_gap : MethodName := ⟨RX5, "gap", "(III)I"⟩
abbrev cX5_confused : ByteArray := prog_7_method_69_code
def yX5_confused : MethodName := ⟨RX5, "confused", "(I)I"⟩
abbrev cX5_straight : ByteArray := prog_7_method_70_code
def yX5_straight : MethodName := ⟨RX5, "straight", "(II)I"⟩
abbrev cX5_column : ByteArray := prog_7_method_71_code
def yX5_column : MethodName := ⟨RX5, "column", "(I)I"⟩
abbrev cX5_allLikely : ByteArray := prog_7_method_72_code
def yX5_allLikely : MethodName := ⟨RX5, "allLikely", "()I"⟩
abbrev cX5_odds : ByteArray := prog_7_method_73_code
def yX5_odds : MethodName := ⟨RX5, "odds", "(I)I"⟩
abbrev cX5_worst : ByteArray := prog_7_method_74_code
def yX5_worst : MethodName := ⟨RX5, "worst", "(I)I"⟩
abbrev cX5_ranked : ByteArray := prog_7_method_75_code
def yX5_ranked : MethodName := ⟨RX5, "ranked", "(I)I"⟩
abbrev cX5_noHeard : ByteArray := prog_7_method_76_code
def yX5_noHeard : MethodName := ⟨RX5, "noHeard", "(I)I"⟩
abbrev cX5_toldAt : ByteArray := prog_7_method_77_code
def yX5_toldAt : MethodName := ⟨RX5, "toldAt", "(II)J"⟩
abbrev cX5_fits : ByteArray := prog_7_method_78_code
def yX5_fits : MethodName := ⟨RX5, "fits", "(III)I"⟩
abbrev cX5_fitting : ByteArray := prog_7_method_79_code
def yX5_fitting : MethodName := ⟨RX5, "fitting", "(II)I"⟩
abbrev cX5_likeliest : ByteArray := prog_7_method_80_code
def yX5_likeliest : MethodName := ⟨RX5, "likeliest", "(I)I"⟩
abbrev cX5_sure : ByteArray := prog_7_method_81_code
def yX5_sure : MethodName := ⟨RX5, "sure", "(II)I"⟩
abbrev cX5_who : ByteArray := prog_7_method_82_code
def yX5_who : MethodName := ⟨RX5, "who", "(III)I"⟩
abbrev cX5_apartOn : ByteArray := prog_7_method_83_code
def yX5_apartOn : MethodName := ⟨RX5, "apartOn", "(I)I"⟩
abbrev cX5_apart : ByteArray := prog_7_method_84_code
def yX5_apart : MethodName := ⟨RX5, "apart", "(I)I"⟩
abbrev cX5_mostApart : ByteArray := prog_7_method_85_code
def yX5_mostApart : MethodName := ⟨RX5, "mostApart", "()I"⟩
abbrev cX5_telling : ByteArray := prog_7_method_86_code
def yX5_telling : MethodName := ⟨RX5, "telling", "(I)I"⟩
abbrev cX5_as : ByteArray := prog_7_method_87_code
def yX5_as : MethodName := ⟨RX5, "as", "(IIII)I"⟩
abbrev cX5_two : ByteArray := prog_7_method_88_code
def yX5_two : MethodName := ⟨RX5, "two", "(IIII)I"⟩
abbrev cX5_meant : ByteArray := prog_7_method_89_code
def yX5_meant : MethodName := ⟨RX5, "meant", "(IIII)I"⟩
abbrev cX5_duel : ByteArray := prog_7_method_90_code
def yX5_duel : MethodName := ⟨RX5, "duel", "(II)I"⟩
abbrev cX5_noWay : ByteArray := prog_7_method_91_code
def yX5_noWay : MethodName := ⟨RX5, "noWay", "(II)I"⟩
abbrev cX5_wrong : ByteArray := prog_7_method_92_code
def yX5_wrong : MethodName := ⟨RX5, "wrong", "(II)I"⟩
abbrev cX5_judge : ByteArray := prog_7_method_93_code
def yX5_judge : MethodName := ⟨RX5, "judge", "(II)I"⟩
abbrev cX5_loudOf : ByteArray := prog_7_method_94_code
def yX5_loudOf : MethodName := ⟨RX5, "loudOf", "(III)I"⟩
abbrev cX5_loud : ByteArray := prog_7_method_95_code
def yX5_loud : MethodName := ⟨RX5, "loud", "(IIII)I"⟩
abbrev cX5_done : ByteArray := prog_7_method_96_code
def yX5_done : MethodName := ⟨RX5, "done", "(III)I"⟩
abbrev cX5_allGravel : ByteArray := prog_7_method_97_code
def yX5_allGravel : MethodName := ⟨RX5, "allGravel", "()I"⟩
abbrev cX5_rake : ByteArray := prog_7_method_98_code
def yX5_rake : MethodName := ⟨RX5, "rake", "()I"⟩
abbrev cX5_sweep : ByteArray := prog_7_method_99_code
def yX5_sweep : MethodName := ⟨RX5, "sweep", "(I)I"⟩
abbrev cX5_draw : ByteArray := prog_7_method_100_code
def yX5_draw : MethodName := ⟨RX5, "draw", "(I)I"⟩
abbrev cX5_arrivals : ByteArray := prog_7_method_101_code
def yX5_arrivals : MethodName := ⟨RX5, "arrivals", "(I)I"⟩
abbrev cX5_seed : ByteArray := prog_7_method_102_code
def yX5_seed : MethodName := ⟨RX5, "seed", "(I)I"⟩
abbrev cX5_keep : ByteArray := prog_7_method_103_code
def yX5_keep : MethodName := ⟨RX5, "keep", "([I)V"⟩
abbrev cX5_again : ByteArray := prog_7_method_104_code
def yX5_again : MethodName := ⟨RX5, "again", "([I)V"⟩
abbrev cX5_image : ByteArray := prog_7_method_105_code
def yX5_image : MethodName := ⟨RX5, "image", "()I"⟩
abbrev cX5_back : ByteArray := prog_7_method_106_code
def yX5_back : MethodName := ⟨RX5, "back", "()I"⟩
abbrev cX5_status : ByteArray := prog_7_method_107_code
def yX5_status : MethodName := ⟨RX5, "status", "(I)I"⟩
def RJ6 : String := "java/lang/Integer"
def TJ6 : u_T := fun k => match k with
  | _ => ("", "", "", false)
def tyJ6 : Nat → FieldType := fun k => match k with
  | _ => .int
abbrev wsJ60 : List Cond := u_ws RJ6 TJ6 0
theorem nmJ6 : ∀ a, a < 0 → ∀ b, b < 0 → a ≠ b → (TJ6 a).2.1 ≠ (TJ6 b).2.1 := by decide +kernel
theorem tyJ6_ok : ∀ k, k < 0 → parseFieldDescriptor (TJ6 k).2.2.1 = some (tyJ6 k) := by decide +kernel
abbrev cJ6_bitCount_0f7a4 : ByteArray := prog_8_method_49_code
def yJ6_bitCount_0f7a4 : MethodName := ⟨RJ6, "bitCount", "(I)I"⟩
def RJ9 : String := "java/lang/Math"
def TJ9 : u_T := fun k => match k with
  | _ => ("", "", "", false)
def tyJ9 : Nat → FieldType := fun k => match k with
  | _ => .int
abbrev wsJ90 : List Cond := u_ws RJ9 TJ9 0
theorem nmJ9 : ∀ a, a < 0 → ∀ b, b < 0 → a ≠ b → (TJ9 a).2.1 ≠ (TJ9 b).2.1 := by decide +kernel
theorem tyJ9_ok : ∀ k, k < 0 → parseFieldDescriptor (TJ9 k).2.2.1 = some (tyJ9 k) := by decide +kernel
abbrev cJ9_abs_0f7a4 : ByteArray := prog_9_method_59_code
def yJ9_abs_0f7a4 : MethodName := ⟨RJ9, "abs", "(I)I"⟩
abbrev cJ9_abs_067f4 : ByteArray := prog_9_method_61_code
def yJ9_abs_067f4 : MethodName := ⟨RJ9, "abs", "(J)J"⟩
abbrev cJ9_max_7cf53 : ByteArray := prog_9_method_65_code
def yJ9_max_7cf53 : MethodName := ⟨RJ9, "max", "(II)I"⟩
abbrev cJ9_min_7cf53 : ByteArray := prog_9_method_69_code
def yJ9_min_7cf53 : MethodName := ⟨RJ9, "min", "(II)I"⟩
def RJ0 : String := "java/lang/String"
def TJ0 : u_T := fun k => match k with
  | _ => ("", "", "", false)
def tyJ0 : Nat → FieldType := fun k => match k with
  | _ => .int
abbrev wsJ00 : List Cond := u_ws RJ0 TJ0 0
theorem nmJ0 : ∀ a, a < 0 → ∀ b, b < 0 → a ≠ b → (TJ0 a).2.1 ≠ (TJ0 b).2.1 := by decide +kernel
theorem tyJ0_ok : ∀ k, k < 0 → parseFieldDescriptor (TJ0 k).2.2.1 = some (tyJ0 k) := by decide +kernel
abbrev cJ0_length_8abf5 : ByteArray := prog_10_method_54_code
def yJ0_length_8abf5 : MethodName := ⟨RJ0, "length", "()I"⟩
abbrev cJ0_charAt_5068e : ByteArray := prog_10_method_56_code
def yJ0_charAt_5068e : MethodName := ⟨RJ0, "charAt", "(I)C"⟩
abbrev cJ0_coder_7d493 : ByteArray := prog_10_method_152_code
def yJ0_coder_7d493 : MethodName := ⟨RJ0, "coder", "()B"⟩
abbrev cJ0_isLatin1_aae02 : ByteArray := prog_10_method_154_code
def yJ0_isLatin1_aae02 : MethodName := ⟨RJ0, "isLatin1", "()Z"⟩
abbrev cJ0_checkIndex_df160 : ByteArray := prog_10_method_155_code
def yJ0_checkIndex_df160 : MethodName := ⟨RJ0, "checkIndex", "(II)V"⟩
def RJ1 : String := "java/lang/StringLatin1"
def TJ1 : u_T := fun k => match k with
  | _ => ("", "", "", false)
def tyJ1 : Nat → FieldType := fun k => match k with
  | _ => .int
abbrev wsJ10 : List Cond := u_ws RJ1 TJ1 0
theorem nmJ1 : ∀ a, a < 0 → ∀ b, b < 0 → a ≠ b → (TJ1 a).2.1 ≠ (TJ1 b).2.1 := by decide +kernel
theorem tyJ1_ok : ∀ k, k < 0 → parseFieldDescriptor (TJ1 k).2.2.1 = some (tyJ1 k) := by decide +kernel
abbrev cJ1_charAt_3b067 : ByteArray := prog_11_method_2_code
def yJ1_charAt_3b067 : MethodName := ⟨RJ1, "charAt", "([BI)C"⟩
def RJ2 : String := "java/lang/StringUTF16"
def TJ2 : u_T := fun k => match k with
  | _ => ("", "", "", false)
def tyJ2 : Nat → FieldType := fun k => match k with
  | _ => .int
abbrev wsJ20 : List Cond := u_ws RJ2 TJ2 0
theorem nmJ2 : ∀ a, a < 0 → ∀ b, b < 0 → a ≠ b → (TJ2 a).2.1 ≠ (TJ2 b).2.1 := by decide +kernel
theorem tyJ2_ok : ∀ k, k < 0 → parseFieldDescriptor (TJ2 k).2.2.1 = some (tyJ2 k) := by decide +kernel
abbrev cJ2_getChar_3b067 : ByteArray := prog_12_method_5_code
def yJ2_getChar_3b067 : MethodName := ⟨RJ2, "getChar", "([BI)C"⟩
abbrev cJ2_length_9d52b : ByteArray := prog_12_method_6_code
def yJ2_length_9d52b : MethodName := ⟨RJ2, "length", "([B)I"⟩
abbrev cJ2_charAt_3b067 : ByteArray := prog_12_method_83_code
def yJ2_charAt_3b067 : MethodName := ⟨RJ2, "charAt", "([BI)C"⟩
abbrev cJ2_checkIndex_2214a : ByteArray := prog_12_method_91_code
def yJ2_checkIndex_2214a : MethodName := ⟨RJ2, "checkIndex", "(I[B)V"⟩
def RJ10 : String := "java/lang/System"
def TJ10 : u_T := fun k => match k with
  | _ => ("", "", "", false)
def tyJ10 : Nat → FieldType := fun k => match k with
  | _ => .int
abbrev wsJ100 : List Cond := u_ws RJ10 TJ10 0
theorem nmJ10 : ∀ a, a < 0 → ∀ b, b < 0 → a ≠ b → (TJ10 a).2.1 ≠ (TJ10 b).2.1 := by decide +kernel
theorem tyJ10_ok : ∀ k, k < 0 → parseFieldDescriptor (TJ10 k).2.2.1 = some (tyJ10 k) := by decide +kernel
def RJ3 : String := "jdk/internal/util/Preconditions"
def TJ3 : u_T := fun k => match k with
  | _ => ("", "", "", false)
def tyJ3 : Nat → FieldType := fun k => match k with
  | _ => .int
abbrev wsJ30 : List Cond := u_ws RJ3 TJ3 0
theorem nmJ3 : ∀ a, a < 0 → ∀ b, b < 0 → a ≠ b → (TJ3 a).2.1 ≠ (TJ3 b).2.1 := by decide +kernel
theorem tyJ3_ok : ∀ k, k < 0 → parseFieldDescriptor (TJ3 k).2.2.1 = some (tyJ3 k) := by decide +kernel
abbrev cJ3_checkIndex_8e157 : ByteArray := prog_14_method_11_code
def yJ3_checkIndex_8e157 : MethodName := ⟨RJ3, "checkIndex", "(IILjava/util/function/BiFunction;)I"⟩
def RL : String := "GravelHasTheLastWordLaw"
abbrev cL_law : ByteArray := code
def yL_law : MethodName := ⟨RL, "law", "([I)Z"⟩
abbrev classes : List vw_C := [(RX0, TX0, 9), (RX1, TX1, 8), (RX2, TX2, 3), (RX3, TX3, 5), (RX4, TX4, 10), (RX5, TX5, 26)]
/-- all words of the tables that last -/
def WS : List Cond := lw_tbl.filter goodWord
theorem WS_tbl {w : Cond} (h : w ∈ WS) : w ∈ lw_tbl := (List.mem_filter.mp h).1
theorem WS_good {w : Cond} (h : w ∈ WS) : goodWord w = true := (List.mem_filter.mp h).2
theorem WS_in {w : Cond} (h : w ∈ tables_1) (g : goodWord w = true) : w ∈ WS := List.mem_filter.mpr ⟨List.mem_append_right _ h, g⟩
theorem WS_inS {w : Cond} (h : w ∈ k2_sels lw_privs) (g : goodWord w = true) : w ∈ WS := List.mem_filter.mpr ⟨List.mem_append_left _ h, g⟩
theorem WS_g1 {w : Cond} (i : Nat) (h : tables_1_1[i]? = some w) (g : goodWord w = true) : w ∈ WS := WS_in (List.mem_append_left _ (List.mem_of_getElem? h)) g
theorem WS_g2 {w : Cond} (i : Nat) (h : tables_1_2[i]? = some w) (g : goodWord w = true) : w ∈ WS := WS_in (List.mem_append_right _ (List.mem_append_left _ (List.mem_of_getElem? h))) g
theorem WS_g3 {w : Cond} (i : Nat) (h : tables_1_3[i]? = some w) (g : goodWord w = true) : w ∈ WS := WS_in (List.mem_append_right _ (List.mem_append_right _ (List.mem_append_left _ (List.mem_of_getElem? h)))) g
theorem WS_g4 {w : Cond} (i : Nat) (h : tables_1_4[i]? = some w) (g : goodWord w = true) : w ∈ WS := WS_in (List.mem_append_right _ (List.mem_append_right _ (List.mem_append_right _ (List.mem_append_left _ (List.mem_of_getElem? h))))) g
theorem WS_g5 {w : Cond} (i : Nat) (h : tables_1_5[i]? = some w) (g : goodWord w = true) : w ∈ WS := WS_in (List.mem_append_right _ (List.mem_append_right _ (List.mem_append_right _ (List.mem_append_right _ (List.mem_append_left _ (List.mem_of_getElem? h)))))) g
theorem WS_g6 {w : Cond} (i : Nat) (h : tables_1_6[i]? = some w) (g : goodWord w = true) : w ∈ WS := WS_in (List.mem_append_right _ (List.mem_append_right _ (List.mem_append_right _ (List.mem_append_right _ (List.mem_append_right _ (List.mem_append_left _ (List.mem_of_getElem? h))))))) g
theorem WS_g7 {w : Cond} (i : Nat) (h : tables_1_7[i]? = some w) (g : goodWord w = true) : w ∈ WS := WS_in (List.mem_append_right _ (List.mem_append_right _ (List.mem_append_right _ (List.mem_append_right _ (List.mem_append_right _ (List.mem_append_right _ (List.mem_of_getElem? h))))))) g
theorem WS_s1 {w : Cond} (i : Nat) (h : (k2_sels lw_privs_1)[i]? = some w) (g : goodWord w = true) : w ∈ WS := WS_inS (by
  have e : k2_sels lw_privs_1 ⊆ k2_sels lw_privs := by
    intro z hz
    simp only [lw_privs, k2_sels, List.map_append, List.mem_append] at hz ⊢
    simp [hz]
  exact e (List.mem_of_getElem? h)) g
theorem WS_s2 {w : Cond} (i : Nat) (h : (k2_sels lw_privs_2)[i]? = some w) (g : goodWord w = true) : w ∈ WS := WS_inS (by
  have e : k2_sels lw_privs_2 ⊆ k2_sels lw_privs := by
    intro z hz
    simp only [lw_privs, k2_sels, List.map_append, List.mem_append] at hz ⊢
    simp [hz]
  exact e (List.mem_of_getElem? h)) g
theorem WS_s3 {w : Cond} (i : Nat) (h : (k2_sels lw_privs_3)[i]? = some w) (g : goodWord w = true) : w ∈ WS := WS_inS (by
  have e : k2_sels lw_privs_3 ⊆ k2_sels lw_privs := by
    intro z hz
    simp only [lw_privs, k2_sels, List.map_append, List.mem_append] at hz ⊢
    simp [hz]
  exact e (List.mem_of_getElem? h)) g
theorem WS_s4 {w : Cond} (i : Nat) (h : (k2_sels lw_privs_4)[i]? = some w) (g : goodWord w = true) : w ∈ WS := WS_inS (by
  have e : k2_sels lw_privs_4 ⊆ k2_sels lw_privs := by
    intro z hz
    simp only [lw_privs, k2_sels, List.map_append, List.mem_append] at hz ⊢
    simp [hz]
  exact e (List.mem_of_getElem? h)) g
theorem WS_s5 {w : Cond} (i : Nat) (h : (k2_sels lw_privs_5)[i]? = some w) (g : goodWord w = true) : w ∈ WS := WS_inS (by
  have e : k2_sels lw_privs_5 ⊆ k2_sels lw_privs := by
    intro z hz
    simp only [lw_privs, k2_sels, List.map_append, List.mem_append] at hz ⊢
    simp [hz]
  exact e (List.mem_of_getElem? h)) g
theorem WS_s6 {w : Cond} (i : Nat) (h : (k2_sels lw_privs_6)[i]? = some w) (g : goodWord w = true) : w ∈ WS := WS_inS (by
  have e : k2_sels lw_privs_6 ⊆ k2_sels lw_privs := by
    intro z hz
    simp only [lw_privs, k2_sels, List.map_append, List.mem_append] at hz ⊢
    simp [hz]
  exact e (List.mem_of_getElem? h)) g
theorem WS_s7 {w : Cond} (i : Nat) (h : (k2_sels lw_privs_7)[i]? = some w) (g : goodWord w = true) : w ∈ WS := WS_inS (by
  have e : k2_sels lw_privs_7 ⊆ k2_sels lw_privs := by
    intro z hz
    simp only [lw_privs, k2_sels, List.map_append, List.mem_append] at hz ⊢
    simp [hz]
  exact e (List.mem_of_getElem? h)) g
/-- a callee's words among a caller's -/
theorem gW {c0 c1 : Cond} (h : c1 ∈ WS) : GoodIn (c0 :: WS) (c1 :: WS) := fun w hw => by
  have hw : w ∈ WS := (List.mem_cons.mp hw).elim (fun e => e ▸ h) id
  exact ⟨List.mem_cons_of_mem _ hw, good_of_word (WS_good hw)⟩
theorem gV {c0 c1 : Cond} {own C : String} {idx : Nat} {y : MethodName} (h1 : Cond.methodLink own idx y ∈ WS) (h2 : Cond.instanceMethod y ∈ WS) (h3 : Cond.selects C y y ∈ WS) (h4 : Cond.initialized C ∈ WS) (h : c1 ∈ WS) : GoodIn (c0 :: WS) (wsV own idx C y (c1 :: WS)) := fun w hw => by
  rcases List.mem_append.mp hw with q | q
  · have hw : w ∈ WS := by
      simp only [List.mem_cons, List.not_mem_nil, or_false] at q
      rcases q with q | q | q | q <;> rw [q] <;> assumption
    exact ⟨List.mem_cons_of_mem _ hw, good_of_word (WS_good hw)⟩
  · exact gW h w q
theorem gS {c0 c1 : Cond} {own : String} {idx : Nat} {y : MethodName} (h1 : Cond.methodLink own idx y ∈ WS) (h2 : Cond.static y ∈ WS) (h3 : Cond.initialized y.cls ∈ WS) (h : c1 ∈ WS) : GoodIn (c0 :: WS) (va_wsS own idx y (c1 :: WS)) := fun w hw => by
  rcases List.mem_append.mp hw with q | q
  · have hw : w ∈ WS := by
      simp only [List.mem_cons, List.not_mem_nil, or_false] at q
      rcases q with q | q | q <;> rw [q] <;> assumption
    exact ⟨List.mem_cons_of_mem _ hw, good_of_word (WS_good hw)⟩
  · exact gW h w q
theorem WS_all (l : List Cond) (h : l.all (fun w => decide (w ∈ tables_1) && goodWord w) = true) : ∀ w ∈ l, w ∈ WS := fun w hw => by
  have q := List.all_eq_true.mp h w hw
  simp only [Bool.and_eq_true, decide_eq_true_eq] at q
  exact WS_in q.1 q.2
theorem us_D : ∀ w ∈ wsX00, w ∈ WS := WS_all _ (by decide +kernel)
theorem us_P : ∀ w ∈ wsX10, w ∈ WS := WS_all _ (by decide +kernel)
theorem us_S : ∀ w ∈ wsX20, w ∈ WS := WS_all _ (by decide +kernel)
theorem us_T : ∀ w ∈ wsX30, w ∈ WS := WS_all _ (by decide +kernel)
theorem us_M : ∀ w ∈ wsX40, w ∈ WS := WS_all _ (by decide +kernel)
theorem us_R : ∀ w ∈ wsX50, w ∈ WS := WS_all _ (by decide +kernel)
