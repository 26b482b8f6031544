/-! ===== BEGIN printed: names, fields, word lists, decode rows ===== -/
def RX0 : String := "RibbonQuarry$Commands"
def TX0 : u_T := fun k => match k with
  | 0 => ("RibbonQuarry$Commands", "text", "[C", true)
  | 1 => ("RibbonQuarry$Commands", "size", "I", false)
  | 2 => ("RibbonQuarry$Commands", "at", "I", false)
  | 3 => ("RibbonQuarry$Commands", "kinds", "[I", true)
  | 4 => ("RibbonQuarry$Commands", "parameters", "[I", true)
  | 5 => ("RibbonQuarry$Commands", "commandCount", "I", false)
  | _ => ("RibbonQuarry$Commands", "parameterCount", "I", false)
def tyX0 : Nat → FieldType := fun k => match k with
  | 0 => .array .char
  | 1 => .int
  | 2 => .int
  | 3 => .array .int
  | 4 => .array .int
  | 5 => .int
  | _ => .int
abbrev wsX00 : List Cond := u_ws RX0 TX0 7
theorem nmX0 : ∀ a, a < 7 → ∀ b, b < 7 → a ≠ b → (TX0 a).2.1 ≠ (TX0 b).2.1 := by decide +kernel
theorem tyX0_ok : ∀ k, k < 7 → parseFieldDescriptor (TX0 k).2.2.1 = some (tyX0 k) := by decide +kernel
abbrev cX0_init : ByteArray := prog_2_method_1_code
def yX0_init : MethodName := ⟨RX0, "<init>", "()V"⟩
abbrev cX0_isFull : ByteArray := prog_2_method_2_code
def yX0_isFull : MethodName := ⟨RX0, "isFull", "()Z"⟩
abbrev cX0_addCharacter : ByteArray := prog_2_method_3_code
def yX0_addCharacter : MethodName := ⟨RX0, "addCharacter", "(C)I"⟩
abbrev cX0_clearText : ByteArray := prog_2_method_4_code
def yX0_clearText : MethodName := ⟨RX0, "clearText", "()V"⟩
abbrev cX0_commandCount : ByteArray := prog_2_method_5_code
def yX0_commandCount : MethodName := ⟨RX0, "commandCount", "()I"⟩
abbrev cX0_kindOf : ByteArray := prog_2_method_6_code
def yX0_kindOf : MethodName := ⟨RX0, "kindOf", "(I)I"⟩
abbrev cX0_parameterOf : ByteArray := prog_2_method_7_code
def yX0_parameterOf : MethodName := ⟨RX0, "parameterOf", "(II)I"⟩
abbrev cX0_parse : ByteArray := prog_2_method_8_code
def yX0_parse : MethodName := ⟨RX0, "parse", "()I"⟩
abbrev cX0_readCommand : ByteArray := prog_2_method_9_code
def yX0_readCommand : MethodName := ⟨RX0, "readCommand", "()Z"⟩
abbrev cX0_kindAhead : ByteArray := prog_2_method_10_code
def yX0_kindAhead : MethodName := ⟨RX0, "kindAhead", "()I"⟩
abbrev cX0_formOf : ByteArray := prog_2_method_11_code
def yX0_formOf : MethodName := ⟨RX0, "formOf", "(I)Ljava/lang/String;"⟩
abbrev cX0_readPiece : ByteArray := prog_2_method_12_code
def yX0_readPiece : MethodName := ⟨RX0, "readPiece", "(C)Z"⟩
abbrev cX0_readDigits : ByteArray := prog_2_method_13_code
def yX0_readDigits : MethodName := ⟨RX0, "readDigits", "(I)Z"⟩
abbrev cX0_readColour : ByteArray := prog_2_method_14_code
def yX0_readColour : MethodName := ⟨RX0, "readColour", "()Z"⟩
abbrev cX0_readSign : ByteArray := prog_2_method_15_code
def yX0_readSign : MethodName := ⟨RX0, "readSign", "(C)Z"⟩
abbrev cX0_isDigit : ByteArray := prog_2_method_16_code
def yX0_isDigit : MethodName := ⟨RX0, "isDigit", "(C)Z"⟩
abbrev cX0_signAt : ByteArray := prog_2_method_17_code
def yX0_signAt : MethodName := ⟨RX0, "signAt", "(I)C"⟩
abbrev cX0_addParameter : ByteArray := prog_2_method_18_code
def yX0_addParameter : MethodName := ⟨RX0, "addParameter", "(I)V"⟩
abbrev cX0_addCommand : ByteArray := prog_2_method_19_code
def yX0_addCommand : MethodName := ⟨RX0, "addCommand", "(I)V"⟩
def RX1 : String := "RibbonQuarry$History"
def TX1 : u_T := fun k => match k with
  | 0 => ("RibbonQuarry$History", "rows", "[I", true)
  | 1 => ("RibbonQuarry$History", "next", "I", false)
  | _ => ("RibbonQuarry$History", "size", "I", false)
def tyX1 : Nat → FieldType := fun k => match k with
  | 0 => .array .int
  | 1 => .int
  | _ => .int
abbrev wsX10 : List Cond := u_ws RX1 TX1 3
theorem nmX1 : ∀ a, a < 3 → ∀ b, b < 3 → a ≠ b → (TX1 a).2.1 ≠ (TX1 b).2.1 := by decide +kernel
theorem tyX1_ok : ∀ k, k < 3 → parseFieldDescriptor (TX1 k).2.2.1 = some (tyX1 k) := by decide +kernel
abbrev cX1_init : ByteArray := prog_3_method_1_code
def yX1_init : MethodName := ⟨RX1, "<init>", "()V"⟩
abbrev cX1_size : ByteArray := prog_3_method_2_code
def yX1_size : MethodName := ⟨RX1, "size", "()I"⟩
abbrev cX1_keep : ByteArray := prog_3_method_3_code
def yX1_keep : MethodName := ⟨RX1, "keep", "([I)V"⟩
abbrev cX1_takeBack : ByteArray := prog_3_method_4_code
def yX1_takeBack : MethodName := ⟨RX1, "takeBack", "(LRibbonQuarry$Reels;)V"⟩
abbrev cX1_forget : ByteArray := prog_3_method_5_code
def yX1_forget : MethodName := ⟨RX1, "forget", "()V"⟩
def RX2 : String := "RibbonQuarry$Line"
def TX2 : u_T := fun k => match k with
  | 0 => ("RibbonQuarry$Line", "characters", "[C", true)
  | _ => ("RibbonQuarry$Line", "size", "I", false)
def tyX2 : Nat → FieldType := fun k => match k with
  | 0 => .array .char
  | _ => .int
abbrev wsX20 : List Cond := u_ws RX2 TX2 2
theorem nmX2 : ∀ a, a < 2 → ∀ b, b < 2 → a ≠ b → (TX2 a).2.1 ≠ (TX2 b).2.1 := by decide +kernel
theorem tyX2_ok : ∀ k, k < 2 → parseFieldDescriptor (TX2 k).2.2.1 = some (tyX2 k) := by decide +kernel
abbrev cX2_init : ByteArray := prog_4_method_1_code
def yX2_init : MethodName := ⟨RX2, "<init>", "()V"⟩
abbrev cX2_size : ByteArray := prog_4_method_2_code
def yX2_size : MethodName := ⟨RX2, "size", "()I"⟩
abbrev cX2_clear : ByteArray := prog_4_method_3_code
def yX2_clear : MethodName := ⟨RX2, "clear", "()V"⟩
abbrev cX2_add : ByteArray := prog_4_method_4_code
def yX2_add : MethodName := ⟨RX2, "add", "(C)V"⟩
abbrev cX2_addNumber : ByteArray := prog_4_method_5_code
def yX2_addNumber : MethodName := ⟨RX2, "addNumber", "(I)V"⟩
abbrev cX2_characterAt : ByteArray := prog_4_method_6_code
def yX2_characterAt : MethodName := ⟨RX2, "characterAt", "(I)C"⟩
def RX3 : String := "RibbonQuarry$Reels"
def TX3 : u_T := fun k => match k with
  | _ => ("RibbonQuarry$Reels", "cells", "[I", true)
def tyX3 : Nat → FieldType := fun k => match k with
  | _ => .array .int
abbrev wsX30 : List Cond := u_ws RX3 TX3 1
theorem nmX3 : ∀ a, a < 1 → ∀ b, b < 1 → a ≠ b → (TX3 a).2.1 ≠ (TX3 b).2.1 := by decide +kernel
theorem tyX3_ok : ∀ k, k < 1 → parseFieldDescriptor (TX3 k).2.2.1 = some (tyX3 k) := by decide +kernel
abbrev cX3_init : ByteArray := prog_5_method_1_code
def yX3_init : MethodName := ⟨RX3, "<init>", "()V"⟩
abbrev cX3_cellAt : ByteArray := prog_5_method_2_code
def yX3_cellAt : MethodName := ⟨RX3, "cellAt", "(I)I"⟩
abbrev cX3_setCell : ByteArray := prog_5_method_3_code
def yX3_setCell : MethodName := ⟨RX3, "setCell", "(II)V"⟩
abbrev cX3_copyTo : ByteArray := prog_5_method_4_code
def yX3_copyTo : MethodName := ⟨RX3, "copyTo", "([II)V"⟩
abbrev cX3_copyFrom : ByteArray := prog_5_method_5_code
def yX3_copyFrom : MethodName := ⟨RX3, "copyFrom", "([II)V"⟩
abbrev cX3_countOf : ByteArray := prog_5_method_6_code
def yX3_countOf : MethodName := ⟨RX3, "countOf", "(I)I"⟩
abbrev cX3_setCount : ByteArray := prog_5_method_7_code
def yX3_setCount : MethodName := ⟨RX3, "setCount", "(II)V"⟩
abbrev cX3_countOfAll : ByteArray := prog_5_method_8_code
def yX3_countOfAll : MethodName := ⟨RX3, "countOfAll", "()I"⟩
abbrev cX3_placeOf : ByteArray := prog_5_method_9_code
def yX3_placeOf : MethodName := ⟨RX3, "placeOf", "(II)I"⟩
abbrev cX3_segmentAt : ByteArray := prog_5_method_10_code
def yX3_segmentAt : MethodName := ⟨RX3, "segmentAt", "(II)I"⟩
abbrev cX3_setSegment : ByteArray := prog_5_method_11_code
def yX3_setSegment : MethodName := ⟨RX3, "setSegment", "(III)V"⟩
abbrev cX3_lengthAt : ByteArray := prog_5_method_12_code
def yX3_lengthAt : MethodName := ⟨RX3, "lengthAt", "(II)I"⟩
abbrev cX3_colourAt : ByteArray := prog_5_method_13_code
def yX3_colourAt : MethodName := ⟨RX3, "colourAt", "(II)I"⟩
abbrev cX3_areTangled : ByteArray := prog_5_method_14_code
def yX3_areTangled : MethodName := ⟨RX3, "areTangled", "(II)Z"⟩
abbrev cX3_putIn : ByteArray := prog_5_method_15_code
def yX3_putIn : MethodName := ⟨RX3, "putIn", "(IIII)I"⟩
abbrev cX3_takeOut : ByteArray := prog_5_method_16_code
def yX3_takeOut : MethodName := ⟨RX3, "takeOut", "(II)I"⟩
abbrev cX3_setLength : ByteArray := prog_5_method_17_code
def yX3_setLength : MethodName := ⟨RX3, "setLength", "(III)I"⟩
abbrev cX3_cutOff : ByteArray := prog_5_method_18_code
def yX3_cutOff : MethodName := ⟨RX3, "cutOff", "(III)I"⟩
abbrev cX3_join : ByteArray := prog_5_method_19_code
def yX3_join : MethodName := ⟨RX3, "join", "(II)I"⟩
abbrev cX3_moveTail : ByteArray := prog_5_method_20_code
def yX3_moveTail : MethodName := ⟨RX3, "moveTail", "(III)V"⟩
abbrev cX3_swap : ByteArray := prog_5_method_21_code
def yX3_swap : MethodName := ⟨RX3, "swap", "(II)I"⟩
abbrev cX3_swapSegments : ByteArray := prog_5_method_22_code
def yX3_swapSegments : MethodName := ⟨RX3, "swapSegments", "(IIII)V"⟩
abbrev cX3_reverse : ByteArray := prog_5_method_23_code
def yX3_reverse : MethodName := ⟨RX3, "reverse", "(III)I"⟩
abbrev cX3_paint : ByteArray := prog_5_method_24_code
def yX3_paint : MethodName := ⟨RX3, "paint", "(IIII)I"⟩
abbrev cX3_refreshParts : ByteArray := prog_5_method_25_code
def yX3_refreshParts : MethodName := ⟨RX3, "refreshParts", "()V"⟩
abbrev cX3_refreshPart : ByteArray := prog_5_method_26_code
def yX3_refreshPart : MethodName := ⟨RX3, "refreshPart", "(II)V"⟩
abbrev cX3_sumBefore : ByteArray := prog_5_method_27_code
def yX3_sumBefore : MethodName := ⟨RX3, "sumBefore", "(II)I"⟩
abbrev cX3_lengthOf : ByteArray := prog_5_method_28_code
def yX3_lengthOf : MethodName := ⟨RX3, "lengthOf", "(I)I"⟩
abbrev cX3_tanglesOf : ByteArray := prog_5_method_29_code
def yX3_tanglesOf : MethodName := ⟨RX3, "tanglesOf", "(I)I"⟩
abbrev cX3_tanglesByScan : ByteArray := prog_5_method_30_code
def yX3_tanglesByScan : MethodName := ⟨RX3, "tanglesByScan", "(I)I"⟩
abbrev cX3_partsAgree : ByteArray := prog_5_method_31_code
def yX3_partsAgree : MethodName := ⟨RX3, "partsAgree", "(I)Z"⟩
abbrev cX3_sumOfRange : ByteArray := prog_5_method_32_code
def yX3_sumOfRange : MethodName := ⟨RX3, "sumOfRange", "(III)I"⟩
abbrev cX3_positionOfOffset : ByteArray := prog_5_method_33_code
def yX3_positionOfOffset : MethodName := ⟨RX3, "positionOfOffset", "(II)I"⟩
abbrev cX3_longestOfRange : ByteArray := prog_5_method_34_code
def yX3_longestOfRange : MethodName := ⟨RX3, "longestOfRange", "(III)I"⟩
abbrev cX3_positionOfRank : ByteArray := prog_5_method_35_code
def yX3_positionOfRank : MethodName := ⟨RX3, "positionOfRank", "(II)I"⟩
abbrev cX3_rankOfSegment : ByteArray := prog_5_method_36_code
def yX3_rankOfSegment : MethodName := ⟨RX3, "rankOfSegment", "(II)I"⟩
abbrev cX3_longestRunOf : ByteArray := prog_5_method_37_code
def yX3_longestRunOf : MethodName := ⟨RX3, "longestRunOf", "(I)I"⟩
abbrev cX3_positionOfColour : ByteArray := prog_5_method_38_code
def yX3_positionOfColour : MethodName := ⟨RX3, "positionOfColour", "(III)I"⟩
abbrev cX3_sumOfColour : ByteArray := prog_5_method_39_code
def yX3_sumOfColour : MethodName := ⟨RX3, "sumOfColour", "(II)I"⟩
abbrev cX3_colourOfRank : ByteArray := prog_5_method_40_code
def yX3_colourOfRank : MethodName := ⟨RX3, "colourOfRank", "(II)I"⟩
abbrev cX3_rankOfColour : ByteArray := prog_5_method_41_code
def yX3_rankOfColour : MethodName := ⟨RX3, "rankOfColour", "(III)I"⟩
abbrev cX3_readsTheSameBackwards : ByteArray := prog_5_method_42_code
def yX3_readsTheSameBackwards : MethodName := ⟨RX3, "readsTheSameBackwards", "(I)Z"⟩
abbrev cX3_sharedBeginning : ByteArray := prog_5_method_43_code
def yX3_sharedBeginning : MethodName := ⟨RX3, "sharedBeginning", "(II)I"⟩
def RX4 : String := "RibbonQuarry"
def TX4 : u_T := fun k => match k with
  | 0 => ("RibbonQuarry", "reels", "LRibbonQuarry$Reels;", true)
  | 1 => ("RibbonQuarry", "before", "[I", true)
  | 2 => ("RibbonQuarry", "snapshot", "[I", true)
  | 3 => ("RibbonQuarry", "hasSnapshot", "Z", false)
  | 4 => ("RibbonQuarry", "history", "LRibbonQuarry$History;", true)
  | 5 => ("RibbonQuarry", "commands", "LRibbonQuarry$Commands;", true)
  | 6 => ("RibbonQuarry", "line", "LRibbonQuarry$Line;", true)
  | 7 => ("RibbonQuarry", "lastError", "I", false)
  | _ => ("RibbonQuarry", "lastFailure", "I", false)
def tyX4 : Nat → FieldType := fun k => match k with
  | 0 => .object "RibbonQuarry$Reels"
  | 1 => .array .int
  | 2 => .array .int
  | 3 => .boolean
  | 4 => .object "RibbonQuarry$History"
  | 5 => .object "RibbonQuarry$Commands"
  | 6 => .object "RibbonQuarry$Line"
  | 7 => .int
  | _ => .int
abbrev wsX40 : List Cond := u_ws RX4 TX4 9
theorem nmX4 : ∀ a, a < 9 → ∀ b, b < 9 → a ≠ b → (TX4 a).2.1 ≠ (TX4 b).2.1 := by decide +kernel
theorem tyX4_ok : ∀ k, k < 9 → parseFieldDescriptor (TX4 k).2.2.1 = some (tyX4 k) := by decide +kernel
abbrev cX4_init : ByteArray := prog_1_method_1_code
def yX4_init : MethodName := ⟨RX4, "<init>", "()V"⟩
abbrev cX4_append : ByteArray := prog_1_method_2_code
def yX4_append : MethodName := ⟨RX4, "append", "(III)I"⟩
abbrev cX4_insert : ByteArray := prog_1_method_3_code
def yX4_insert : MethodName := ⟨RX4, "insert", "(IIII)I"⟩
abbrev cX4_remove : ByteArray := prog_1_method_4_code
def yX4_remove : MethodName := ⟨RX4, "remove", "(II)I"⟩
abbrev cX4_retie : ByteArray := prog_1_method_5_code
def yX4_retie : MethodName := ⟨RX4, "retie", "(III)I"⟩
abbrev cX4_segmentCount : ByteArray := prog_1_method_6_code
def yX4_segmentCount : MethodName := ⟨RX4, "segmentCount", "(I)I"⟩
abbrev cX4_length : ByteArray := prog_1_method_7_code
def yX4_length : MethodName := ⟨RX4, "length", "(II)I"⟩
abbrev cX4_colour : ByteArray := prog_1_method_8_code
def yX4_colour : MethodName := ⟨RX4, "colour", "(II)I"⟩
abbrev cX4_cut : ByteArray := prog_1_method_9_code
def yX4_cut : MethodName := ⟨RX4, "cut", "(III)I"⟩
abbrev cX4_splice : ByteArray := prog_1_method_10_code
def yX4_splice : MethodName := ⟨RX4, "splice", "(II)I"⟩
abbrev cX4_exchange : ByteArray := prog_1_method_11_code
def yX4_exchange : MethodName := ⟨RX4, "exchange", "(II)I"⟩
abbrev cX4_flip : ByteArray := prog_1_method_12_code
def yX4_flip : MethodName := ⟨RX4, "flip", "(III)I"⟩
abbrev cX4_dye : ByteArray := prog_1_method_13_code
def yX4_dye : MethodName := ⟨RX4, "dye", "(IIII)I"⟩
abbrev cX4_reelLength : ByteArray := prog_1_method_14_code
def yX4_reelLength : MethodName := ⟨RX4, "reelLength", "(I)I"⟩
abbrev cX4_lengthBefore : ByteArray := prog_1_method_15_code
def yX4_lengthBefore : MethodName := ⟨RX4, "lengthBefore", "(II)I"⟩
abbrev cX4_lengthBeforeByScan : ByteArray := prog_1_method_16_code
def yX4_lengthBeforeByScan : MethodName := ⟨RX4, "lengthBeforeByScan", "(II)I"⟩
abbrev cX4_positionAt : ByteArray := prog_1_method_17_code
def yX4_positionAt : MethodName := ⟨RX4, "positionAt", "(II)I"⟩
abbrev cX4_rangeLength : ByteArray := prog_1_method_18_code
def yX4_rangeLength : MethodName := ⟨RX4, "rangeLength", "(III)I"⟩
abbrev cX4_longestInRange : ByteArray := prog_1_method_19_code
def yX4_longestInRange : MethodName := ⟨RX4, "longestInRange", "(III)I"⟩
abbrev cX4_segmentAtRank : ByteArray := prog_1_method_20_code
def yX4_segmentAtRank : MethodName := ⟨RX4, "segmentAtRank", "(II)I"⟩
abbrev cX4_totalLength : ByteArray := prog_1_method_21_code
def yX4_totalLength : MethodName := ⟨RX4, "totalLength", "()J"⟩
abbrev cX4_tangleCount : ByteArray := prog_1_method_22_code
def yX4_tangleCount : MethodName := ⟨RX4, "tangleCount", "(I)I"⟩
abbrev cX4_tangleCountByScan : ByteArray := prog_1_method_23_code
def yX4_tangleCountByScan : MethodName := ⟨RX4, "tangleCountByScan", "(I)I"⟩
abbrev cX4_isTangled : ByteArray := prog_1_method_24_code
def yX4_isTangled : MethodName := ⟨RX4, "isTangled", "(II)Z"⟩
abbrev cX4_longestRun : ByteArray := prog_1_method_25_code
def yX4_longestRun : MethodName := ⟨RX4, "longestRun", "(I)I"⟩
abbrev cX4_nextOfColour : ByteArray := prog_1_method_26_code
def yX4_nextOfColour : MethodName := ⟨RX4, "nextOfColour", "(III)I"⟩
abbrev cX4_colourLength : ByteArray := prog_1_method_27_code
def yX4_colourLength : MethodName := ⟨RX4, "colourLength", "(II)I"⟩
abbrev cX4_colourAtRank : ByteArray := prog_1_method_28_code
def yX4_colourAtRank : MethodName := ⟨RX4, "colourAtRank", "(II)I"⟩
abbrev cX4_isSymmetric : ByteArray := prog_1_method_29_code
def yX4_isSymmetric : MethodName := ⟨RX4, "isSymmetric", "(I)Z"⟩
abbrev cX4_commonBeginning : ByteArray := prog_1_method_30_code
def yX4_commonBeginning : MethodName := ⟨RX4, "commonBeginning", "(II)I"⟩
abbrev cX4_areEqual : ByteArray := prog_1_method_31_code
def yX4_areEqual : MethodName := ⟨RX4, "areEqual", "(II)Z"⟩
abbrev cX4_cutCount : ByteArray := prog_1_method_32_code
def yX4_cutCount : MethodName := ⟨RX4, "cutCount", "()I"⟩
abbrev cX4_spliceCount : ByteArray := prog_1_method_33_code
def yX4_spliceCount : MethodName := ⟨RX4, "spliceCount", "()I"⟩
abbrev cX4_type : ByteArray := prog_1_method_34_code
def yX4_type : MethodName := ⟨RX4, "type", "(C)I"⟩
abbrev cX4_run : ByteArray := prog_1_method_35_code
def yX4_run : MethodName := ⟨RX4, "run", "()I"⟩
abbrev cX4_describeReel : ByteArray := prog_1_method_38_code
def yX4_describeReel : MethodName := ⟨RX4, "describeReel", "(I)I"⟩
abbrev cX4_lineAt : ByteArray := prog_1_method_39_code
def yX4_lineAt : MethodName := ⟨RX4, "lineAt", "(I)C"⟩
abbrev cX4_meanLength : ByteArray := prog_1_method_40_code
def yX4_meanLength : MethodName := ⟨RX4, "meanLength", "(I)D"⟩
abbrev cX4_colourShare : ByteArray := prog_1_method_41_code
def yX4_colourShare : MethodName := ⟨RX4, "colourShare", "(II)F"⟩
abbrev cX4_isConsistent : ByteArray := prog_1_method_42_code
def yX4_isConsistent : MethodName := ⟨RX4, "isConsistent", "()Z"⟩
abbrev cX4_undo : ByteArray := prog_1_method_43_code
def yX4_undo : MethodName := ⟨RX4, "undo", "()I"⟩
abbrev cX4_save : ByteArray := prog_1_method_44_code
def yX4_save : MethodName := ⟨RX4, "save", "()I"⟩
abbrev cX4_restore : ByteArray := prog_1_method_45_code
def yX4_restore : MethodName := ⟨RX4, "restore", "()I"⟩
abbrev cX4_raise : ByteArray := prog_1_method_46_code
def yX4_raise : MethodName := ⟨RX4, "raise", "(I)V"⟩
abbrev cX4_found : ByteArray := prog_1_method_47_code
def yX4_found : MethodName := ⟨RX4, "found", "(I)I"⟩
abbrev cX4_isReel : ByteArray := prog_1_method_48_code
def yX4_isReel : MethodName := ⟨RX4, "isReel", "(I)Z"⟩
abbrev cX4_isLength : ByteArray := prog_1_method_49_code
def yX4_isLength : MethodName := ⟨RX4, "isLength", "(I)Z"⟩
abbrev cX4_isColour : ByteArray := prog_1_method_50_code
def yX4_isColour : MethodName := ⟨RX4, "isColour", "(I)Z"⟩
abbrev cX4_isPosition : ByteArray := prog_1_method_51_code
def yX4_isPosition : MethodName := ⟨RX4, "isPosition", "(II)Z"⟩
abbrev cX4_reelFault : ByteArray := prog_1_method_52_code
def yX4_reelFault : MethodName := ⟨RX4, "reelFault", "(I)I"⟩
abbrev cX4_pairFault : ByteArray := prog_1_method_53_code
def yX4_pairFault : MethodName := ⟨RX4, "pairFault", "(II)I"⟩
abbrev cX4_colourFault : ByteArray := prog_1_method_54_code
def yX4_colourFault : MethodName := ⟨RX4, "colourFault", "(I)I"⟩
abbrev cX4_positionFault : ByteArray := prog_1_method_55_code
def yX4_positionFault : MethodName := ⟨RX4, "positionFault", "(II)I"⟩
abbrev cX4_borderFault : ByteArray := prog_1_method_56_code
def yX4_borderFault : MethodName := ⟨RX4, "borderFault", "(II)I"⟩
abbrev cX4_rangeFault : ByteArray := prog_1_method_57_code
def yX4_rangeFault : MethodName := ⟨RX4, "rangeFault", "(III)I"⟩
abbrev cX4_addFault : ByteArray := prog_1_method_58_code
def yX4_addFault : MethodName := ⟨RX4, "addFault", "(III)I"⟩
abbrev cX4_putFault : ByteArray := prog_1_method_59_code
def yX4_putFault : MethodName := ⟨RX4, "putFault", "(IIII)I"⟩
abbrev cX4_newSegmentFault : ByteArray := prog_1_method_60_code
def yX4_newSegmentFault : MethodName := ⟨RX4, "newSegmentFault", "(III)I"⟩
abbrev cX4_tieFault : ByteArray := prog_1_method_61_code
def yX4_tieFault : MethodName := ⟨RX4, "tieFault", "(III)I"⟩
abbrev cX4_cutFault : ByteArray := prog_1_method_62_code
def yX4_cutFault : MethodName := ⟨RX4, "cutFault", "(III)I"⟩
abbrev cX4_joinFault : ByteArray := prog_1_method_63_code
def yX4_joinFault : MethodName := ⟨RX4, "joinFault", "(II)I"⟩
abbrev cX4_dyeFault : ByteArray := prog_1_method_64_code
def yX4_dyeFault : MethodName := ⟨RX4, "dyeFault", "(IIII)I"⟩
abbrev cX4_change : ByteArray := prog_1_method_65_code
def yX4_change : MethodName := ⟨RX4, "change", "(IIIII)I"⟩
abbrev cX4_faultOf : ByteArray := prog_1_method_66_code
def yX4_faultOf : MethodName := ⟨RX4, "faultOf", "(IIIII)I"⟩
abbrev cX4_carryOut : ByteArray := prog_1_method_67_code
def yX4_carryOut : MethodName := ⟨RX4, "carryOut", "(IIIII)I"⟩
abbrev cX4_carryOutCommands : ByteArray := prog_1_method_68_code
def yX4_carryOutCommands : MethodName := ⟨RX4, "carryOutCommands", "()I"⟩
abbrev cX4_copyRow : ByteArray := prog_1_method_69_code
def yX4_copyRow : MethodName := ⟨RX4, "copyRow", "([II[II)V"⟩
abbrev cX4_hasRowAt : ByteArray := prog_1_method_70_code
def yX4_hasRowAt : MethodName := ⟨RX4, "hasRowAt", "([II)Z"⟩
def RX5 : String := "RibbonQuarryModel"
def TX5 : u_T := fun k => match k with
  | _ => ("", "", "", false)
def tyX5 : Nat → FieldType := fun k => match k with
  | _ => .int
abbrev wsX50 : List Cond := u_ws RX5 TX5 0
theorem nmX5 : ∀ a, a < 0 → ∀ b, b < 0 → a ≠ b → (TX5 a).2.1 ≠ (TX5 b).2.1 := by decide +kernel
theorem tyX5_ok : ∀ k, k < 0 → parseFieldDescriptor (TX5 k).2.2.1 = some (tyX5 k) := by decide +kernel
def RJx145de : String := "java/io/Serializable"
def TJx145de : u_T := fun k => match k with
  | _ => ("", "", "", false)
def tyJx145de : Nat → FieldType := fun k => match k with
  | _ => .int
abbrev wsJx145de0 : List Cond := u_ws RJx145de TJx145de 0
theorem nmJx145de : ∀ a, a < 0 → ∀ b, b < 0 → a ≠ b → (TJx145de a).2.1 ≠ (TJx145de b).2.1 := by decide +kernel
theorem tyJx145de_ok : ∀ k, k < 0 → parseFieldDescriptor (TJx145de k).2.2.1 = some (tyJx145de k) := by decide +kernel
def RJ5 : String := "java/lang/AbstractStringBuilder"
def TJ5 : u_T := fun k => match k with
  | _ => ("", "", "", false)
def tyJ5 : Nat → FieldType := fun k => match k with
  | _ => .int
abbrev wsJ50 : List Cond := u_ws RJ5 TJ5 0
theorem nmJ5 : ∀ a, a < 0 → ∀ b, b < 0 → a ≠ b → (TJ5 a).2.1 ≠ (TJ5 b).2.1 := by decide +kernel
theorem tyJ5_ok : ∀ k, k < 0 → parseFieldDescriptor (TJ5 k).2.2.1 = some (tyJ5 k) := by decide +kernel
abbrev cJ5_init_d00df : ByteArray := prog_9_method_2_code
def yJ5_init_d00df : MethodName := ⟨RJ5, "<init>", "(I)V"⟩
abbrev cJ5_length_8abf5 : ByteArray := prog_9_method_6_code
def yJ5_length_8abf5 : MethodName := ⟨RJ5, "length", "()I"⟩
abbrev cJ5_ensureCapacityInternal_d00df : ByteArray := prog_9_method_9_code
def yJ5_ensureCapacityInternal_d00df : MethodName := ⟨RJ5, "ensureCapacityInternal", "(I)V"⟩
abbrev cJ5_newCapacity_0f7a4 : ByteArray := prog_9_method_10_code
def yJ5_newCapacity_0f7a4 : MethodName := ⟨RJ5, "newCapacity", "(I)I"⟩
abbrev cJ5_inflate_da8c8 : ByteArray := prog_9_method_11_code
def yJ5_inflate_da8c8 : MethodName := ⟨RJ5, "inflate", "()V"⟩
abbrev cJ5_append_cf1ce : ByteArray := prog_9_method_22_code
def yJ5_append_cf1ce : MethodName := ⟨RJ5, "append", "(Ljava/lang/String;)Ljava/lang/AbstractStringBuilder;"⟩
abbrev cJ5_appendNull_278bc : ByteArray := prog_9_method_26_code
def yJ5_appendNull_278bc : MethodName := ⟨RJ5, "appendNull", "()Ljava/lang/AbstractStringBuilder;"⟩
abbrev cJ5_append_c97b9 : ByteArray := prog_9_method_32_code
def yJ5_append_c97b9 : MethodName := ⟨RJ5, "append", "(I)Ljava/lang/AbstractStringBuilder;"⟩
abbrev cJ5_getValue_6d5f1 : ByteArray := prog_9_method_64_code
def yJ5_getValue_6d5f1 : MethodName := ⟨RJ5, "getValue", "()[B"⟩
abbrev cJ5_isLatin1_aae02 : ByteArray := prog_9_method_68_code
def yJ5_isLatin1_aae02 : MethodName := ⟨RJ5, "isLatin1", "()Z"⟩
abbrev cJ5_inflateIfNeededFor_a7421 : ByteArray := prog_9_method_71_code
def yJ5_inflateIfNeededFor_a7421 : MethodName := ⟨RJ5, "inflateIfNeededFor", "(Ljava/lang/String;)V"⟩
abbrev cJ5_putStringAt_47b60 : ByteArray := prog_9_method_73_code
def yJ5_putStringAt_47b60 : MethodName := ⟨RJ5, "putStringAt", "(ILjava/lang/String;)V"⟩
def RJx2cfe8 : String := "java/lang/Appendable"
def TJx2cfe8 : u_T := fun k => match k with
  | _ => ("", "", "", false)
def tyJx2cfe8 : Nat → FieldType := fun k => match k with
  | _ => .int
abbrev wsJx2cfe80 : List Cond := u_ws RJx2cfe8 TJx2cfe8 0
theorem nmJx2cfe8 : ∀ a, a < 0 → ∀ b, b < 0 → a ≠ b → (TJx2cfe8 a).2.1 ≠ (TJx2cfe8 b).2.1 := by decide +kernel
theorem tyJx2cfe8_ok : ∀ k, k < 0 → parseFieldDescriptor (TJx2cfe8 k).2.2.1 = some (tyJx2cfe8 k) := by decide +kernel
def RJx00060 : String := "java/lang/ArrayIndexOutOfBoundsException"
def TJx00060 : u_T := fun k => match k with
  | 0 => ("java/lang/Throwable", "backtrace", "Ljava/lang/Object;", false)
  | 1 => ("java/lang/Throwable", "detailMessage", "Ljava/lang/String;", false)
  | 2 => ("java/lang/Throwable", "cause", "Ljava/lang/Throwable;", false)
  | 3 => ("java/lang/Throwable", "stackTrace", "[Ljava/lang/StackTraceElement;", false)
  | 4 => ("java/lang/Throwable", "depth", "I", false)
  | _ => ("java/lang/Throwable", "suppressedExceptions", "Ljava/util/List;", false)
def tyJx00060 : Nat → FieldType := fun k => match k with
  | 0 => .object "java/lang/Object"
  | 1 => .object "java/lang/String"
  | 2 => .object "java/lang/Throwable"
  | 3 => .array (.object "java/lang/StackTraceElement")
  | 4 => .int
  | _ => .object "java/util/List"
abbrev wsJx000600 : List Cond := u_ws RJx00060 TJx00060 6
theorem nmJx00060 : ∀ a, a < 6 → ∀ b, b < 6 → a ≠ b → (TJx00060 a).2.1 ≠ (TJx00060 b).2.1 := by decide +kernel
theorem tyJx00060_ok : ∀ k, k < 6 → parseFieldDescriptor (TJx00060 k).2.2.1 = some (tyJx00060 k) := by decide +kernel
abbrev cJx00060_init_a7421 : ByteArray := prog_12_method_2_code
def yJx00060_init_a7421 : MethodName := ⟨RJx00060, "<init>", "(Ljava/lang/String;)V"⟩
def RJx9f9b0 : String := "java/lang/CharSequence"
def TJx9f9b0 : u_T := fun k => match k with
  | _ => ("", "", "", false)
def tyJx9f9b0 : Nat → FieldType := fun k => match k with
  | _ => .int
abbrev wsJx9f9b00 : List Cond := u_ws RJx9f9b0 TJx9f9b0 0
theorem nmJx9f9b0 : ∀ a, a < 0 → ∀ b, b < 0 → a ≠ b → (TJx9f9b0 a).2.1 ≠ (TJx9f9b0 b).2.1 := by decide +kernel
theorem tyJx9f9b0_ok : ∀ k, k < 0 → parseFieldDescriptor (TJx9f9b0 k).2.2.1 = some (tyJx9f9b0 k) := by decide +kernel
def RJx8e188 : String := "java/lang/Cloneable"
def TJx8e188 : u_T := fun k => match k with
  | _ => ("", "", "", false)
def tyJx8e188 : Nat → FieldType := fun k => match k with
  | _ => .int
abbrev wsJx8e1880 : List Cond := u_ws RJx8e188 TJx8e188 0
theorem nmJx8e188 : ∀ a, a < 0 → ∀ b, b < 0 → a ≠ b → (TJx8e188 a).2.1 ≠ (TJx8e188 b).2.1 := by decide +kernel
theorem tyJx8e188_ok : ∀ k, k < 0 → parseFieldDescriptor (TJx8e188 k).2.2.1 = some (tyJx8e188 k) := by decide +kernel
def RJxb160c : String := "java/lang/Comparable"
def TJxb160c : u_T := fun k => match k with
  | _ => ("", "", "", false)
def tyJxb160c : Nat → FieldType := fun k => match k with
  | _ => .int
abbrev wsJxb160c0 : List Cond := u_ws RJxb160c TJxb160c 0
theorem nmJxb160c : ∀ a, a < 0 → ∀ b, b < 0 → a ≠ b → (TJxb160c a).2.1 ≠ (TJxb160c b).2.1 := by decide +kernel
theorem tyJxb160c_ok : ∀ k, k < 0 → parseFieldDescriptor (TJxb160c k).2.2.1 = some (tyJxb160c k) := by decide +kernel
def RJ6 : String := "java/lang/Integer"
def TJ6 : u_T := fun k => match k with
  | _ => ("", "", "", false)
def tyJ6 : Nat → FieldType := fun k => match k with
  | _ => .int
abbrev wsJ60 : List Cond := u_ws RJ6 TJ6 0
theorem nmJ6 : ∀ a, a < 0 → ∀ b, b < 0 → a ≠ b → (TJ6 a).2.1 ≠ (TJ6 b).2.1 := by decide +kernel
theorem tyJ6_ok : ∀ k, k < 0 → parseFieldDescriptor (TJ6 k).2.2.1 = some (tyJ6 k) := by decide +kernel
abbrev cJ6_getChars_ba4f3 : ByteArray := prog_20_method_12_code
def yJ6_getChars_ba4f3 : MethodName := ⟨RJ6, "getChars", "(II[B)I"⟩
abbrev cJ6_stringSize_0f7a4 : ByteArray := prog_20_method_13_code
def yJ6_stringSize_0f7a4 : MethodName := ⟨RJ6, "stringSize", "(I)I"⟩
def RJ9 : String := "java/lang/Math"
def TJ9 : u_T := fun k => match k with
  | _ => ("", "", "", false)
def tyJ9 : Nat → FieldType := fun k => match k with
  | _ => .int
abbrev wsJ90 : List Cond := u_ws RJ9 TJ9 0
theorem nmJ9 : ∀ a, a < 0 → ∀ b, b < 0 → a ≠ b → (TJ9 a).2.1 ≠ (TJ9 b).2.1 := by decide +kernel
theorem tyJ9_ok : ∀ k, k < 0 → parseFieldDescriptor (TJ9 k).2.2.1 = some (tyJ9 k) := by decide +kernel
abbrev cJ9_max_7cf53 : ByteArray := prog_21_method_65_code
def yJ9_max_7cf53 : MethodName := ⟨RJ9, "max", "(II)I"⟩
abbrev cJ9_min_7cf53 : ByteArray := prog_21_method_69_code
def yJ9_min_7cf53 : MethodName := ⟨RJ9, "min", "(II)I"⟩
def RJxd2413 : String := "java/lang/Number"
def TJxd2413 : u_T := fun k => match k with
  | _ => ("", "", "", false)
def tyJxd2413 : Nat → FieldType := fun k => match k with
  | _ => .int
abbrev wsJxd24130 : List Cond := u_ws RJxd2413 TJxd2413 0
theorem nmJxd2413 : ∀ a, a < 0 → ∀ b, b < 0 → a ≠ b → (TJxd2413 a).2.1 ≠ (TJxd2413 b).2.1 := by decide +kernel
theorem tyJxd2413_ok : ∀ k, k < 0 → parseFieldDescriptor (TJxd2413 k).2.2.1 = some (tyJxd2413 k) := by decide +kernel
def RJ0 : String := "java/lang/String"
def TJ0 : u_T := fun k => match k with
  | 0 => ("java/lang/String", "value", "[B", true)
  | 1 => ("java/lang/String", "coder", "B", true)
  | 2 => ("java/lang/String", "hash", "I", false)
  | _ => ("java/lang/String", "hashIsZero", "Z", false)
def tyJ0 : Nat → FieldType := fun k => match k with
  | 0 => .array .byte
  | 1 => .byte
  | 2 => .int
  | _ => .boolean
abbrev wsJ00 : List Cond := u_ws RJ0 TJ0 4
theorem nmJ0 : ∀ a, a < 4 → ∀ b, b < 4 → a ≠ b → (TJ0 a).2.1 ≠ (TJ0 b).2.1 := by decide +kernel
theorem tyJ0_ok : ∀ k, k < 4 → parseFieldDescriptor (TJ0 k).2.2.1 = some (tyJ0 k) := by decide +kernel
abbrev cJ0_init_81219 : ByteArray := prog_24_method_53_code
def yJ0_init_81219 : MethodName := ⟨RJ0, "<init>", "(Ljava/lang/StringBuilder;)V"⟩
abbrev cJ0_length_8abf5 : ByteArray := prog_24_method_54_code
def yJ0_length_8abf5 : MethodName := ⟨RJ0, "length", "()I"⟩
abbrev cJ0_isEmpty_aae02 : ByteArray := prog_24_method_55_code
def yJ0_isEmpty_aae02 : MethodName := ⟨RJ0, "isEmpty", "()Z"⟩
abbrev cJ0_charAt_5068e : ByteArray := prog_24_method_56_code
def yJ0_charAt_5068e : MethodName := ⟨RJ0, "charAt", "(I)C"⟩
abbrev cJ0_getBytes_840e7 : ByteArray := prog_24_method_147_code
def yJ0_getBytes_840e7 : MethodName := ⟨RJ0, "getBytes", "([BIB)V"⟩
abbrev cJ0_init_db425 : ByteArray := prog_24_method_150_code
def yJ0_init_db425 : MethodName := ⟨RJ0, "<init>", "(Ljava/lang/AbstractStringBuilder;Ljava/lang/Void;)V"⟩
abbrev cJ0_coder_7d493 : ByteArray := prog_24_method_152_code
def yJ0_coder_7d493 : MethodName := ⟨RJ0, "coder", "()B"⟩
abbrev cJ0_isLatin1_aae02 : ByteArray := prog_24_method_154_code
def yJ0_isLatin1_aae02 : MethodName := ⟨RJ0, "isLatin1", "()Z"⟩
abbrev cJ0_checkIndex_df160 : ByteArray := prog_24_method_155_code
def yJ0_checkIndex_df160 : MethodName := ⟨RJ0, "checkIndex", "(II)V"⟩
abbrev cJ0_checkBoundsOffCount_cabcc : ByteArray := prog_24_method_157_code
def yJ0_checkBoundsOffCount_cabcc : MethodName := ⟨RJ0, "checkBoundsOffCount", "(III)I"⟩
abbrev cJ0_checkBoundsBeginEnd_23922 : ByteArray := prog_24_method_158_code
def yJ0_checkBoundsBeginEnd_23922 : MethodName := ⟨RJ0, "checkBoundsBeginEnd", "(III)V"⟩
def RJ4 : String := "java/lang/StringBuilder"
def TJ4 : u_T := fun k => match k with
  | 0 => ("java/lang/AbstractStringBuilder", "value", "[B", false)
  | 1 => ("java/lang/AbstractStringBuilder", "coder", "B", false)
  | 2 => ("java/lang/AbstractStringBuilder", "maybeLatin1", "Z", false)
  | _ => ("java/lang/AbstractStringBuilder", "count", "I", false)
def tyJ4 : Nat → FieldType := fun k => match k with
  | 0 => .array .byte
  | 1 => .byte
  | 2 => .boolean
  | _ => .int
abbrev wsJ40 : List Cond := u_ws RJ4 TJ4 4
theorem nmJ4 : ∀ a, a < 4 → ∀ b, b < 4 → a ≠ b → (TJ4 a).2.1 ≠ (TJ4 b).2.1 := by decide +kernel
theorem tyJ4_ok : ∀ k, k < 4 → parseFieldDescriptor (TJ4 k).2.2.1 = some (tyJ4 k) := by decide +kernel
abbrev cJ4_init_da8c8 : ByteArray := prog_25_method_1_code
def yJ4_init_da8c8 : MethodName := ⟨RJ4, "<init>", "()V"⟩
abbrev cJ4_append_15ec4 : ByteArray := prog_25_method_7_code
def yJ4_append_15ec4 : MethodName := ⟨RJ4, "append", "(Ljava/lang/String;)Ljava/lang/StringBuilder;"⟩
abbrev cJ4_append_bf812 : ByteArray := prog_25_method_15_code
def yJ4_append_bf812 : MethodName := ⟨RJ4, "append", "(I)Ljava/lang/StringBuilder;"⟩
abbrev cJ4_toString_0e30d : ByteArray := prog_25_method_42_code
def yJ4_toString_0e30d : MethodName := ⟨RJ4, "toString", "()Ljava/lang/String;"⟩
abbrev cJ4_length_8abf5 : ByteArray := prog_25_method_93_code
def yJ4_length_8abf5 : MethodName := ⟨RJ4, "length", "()I"⟩
def RJ1 : String := "java/lang/StringLatin1"
def TJ1 : u_T := fun k => match k with
  | _ => ("", "", "", false)
def tyJ1 : Nat → FieldType := fun k => match k with
  | _ => .int
abbrev wsJ10 : List Cond := u_ws RJ1 TJ1 0
theorem nmJ1 : ∀ a, a < 0 → ∀ b, b < 0 → a ≠ b → (TJ1 a).2.1 ≠ (TJ1 b).2.1 := by decide +kernel
theorem tyJ1_ok : ∀ k, k < 0 → parseFieldDescriptor (TJ1 k).2.2.1 = some (tyJ1 k) := by decide +kernel
abbrev cJ1_charAt_3b067 : ByteArray := prog_26_method_2_code
def yJ1_charAt_3b067 : MethodName := ⟨RJ1, "charAt", "([BI)C"⟩
abbrev cJ1_inflate_0e8fd : ByteArray := prog_26_method_50_code
def yJ1_inflate_0e8fd : MethodName := ⟨RJ1, "inflate", "([BI[BII)V"⟩
def RJ2 : String := "java/lang/StringUTF16"
def TJ2 : u_T := fun k => match k with
  | _ => ("", "", "", false)
def tyJ2 : Nat → FieldType := fun k => match k with
  | _ => .int
abbrev wsJ20 : List Cond := u_ws RJ2 TJ2 0
theorem nmJ2 : ∀ a, a < 0 → ∀ b, b < 0 → a ≠ b → (TJ2 a).2.1 ≠ (TJ2 b).2.1 := by decide +kernel
theorem tyJ2_ok : ∀ k, k < 0 → parseFieldDescriptor (TJ2 k).2.2.1 = some (tyJ2 k) := by decide +kernel
abbrev cJ2_newBytesFor_77867 : ByteArray := prog_27_method_2_code
def yJ2_newBytesFor_77867 : MethodName := ⟨RJ2, "newBytesFor", "(I)[B"⟩
abbrev cJ2_newBytesLength_0f7a4 : ByteArray := prog_27_method_3_code
def yJ2_newBytesLength_0f7a4 : MethodName := ⟨RJ2, "newBytesLength", "(I)I"⟩
abbrev cJ2_putChar_b72d1 : ByteArray := prog_27_method_4_code
def yJ2_putChar_b72d1 : MethodName := ⟨RJ2, "putChar", "([BII)V"⟩
abbrev cJ2_getChar_3b067 : ByteArray := prog_27_method_5_code
def yJ2_getChar_3b067 : MethodName := ⟨RJ2, "getChar", "([BI)C"⟩
abbrev cJ2_length_9d52b : ByteArray := prog_27_method_6_code
def yJ2_length_9d52b : MethodName := ⟨RJ2, "length", "([B)I"⟩
abbrev cJ2_coderFromArrayLen_85cad : ByteArray := prog_27_method_15_code
def yJ2_coderFromArrayLen_85cad : MethodName := ⟨RJ2, "coderFromArrayLen", "([BI)B"⟩
abbrev cJ2_compress_39247 : ByteArray := prog_27_method_17_code
def yJ2_compress_39247 : MethodName := ⟨RJ2, "compress", "([BII)[B"⟩
abbrev cJ2_compress_5af95 : ByteArray := prog_27_method_22_code
def yJ2_compress_5af95 : MethodName := ⟨RJ2, "compress", "([BI[BII)I"⟩
abbrev cJ2_getChars_46870 : ByteArray := prog_27_method_77_code
def yJ2_getChars_46870 : MethodName := ⟨RJ2, "getChars", "(III[B)I"⟩
abbrev cJ2_putCharsAt_cd4e5 : ByteArray := prog_27_method_81_code
def yJ2_putCharsAt_cd4e5 : MethodName := ⟨RJ2, "putCharsAt", "([BICCCC)I"⟩
abbrev cJ2_charAt_3b067 : ByteArray := prog_27_method_83_code
def yJ2_charAt_3b067 : MethodName := ⟨RJ2, "charAt", "([BI)C"⟩
abbrev cJ2_inflate_0e8fd : ByteArray := prog_27_method_86_code
def yJ2_inflate_0e8fd : MethodName := ⟨RJ2, "inflate", "([BI[BII)V"⟩
abbrev cJ2_getChars_ba4f3 : ByteArray := prog_27_method_89_code
def yJ2_getChars_ba4f3 : MethodName := ⟨RJ2, "getChars", "(II[B)I"⟩
abbrev cJ2_checkIndex_2214a : ByteArray := prog_27_method_91_code
def yJ2_checkIndex_2214a : MethodName := ⟨RJ2, "checkIndex", "(I[B)V"⟩
abbrev cJ2_checkBoundsBeginEnd_d044e : ByteArray := prog_27_method_93_code
def yJ2_checkBoundsBeginEnd_d044e : MethodName := ⟨RJ2, "checkBoundsBeginEnd", "(II[B)V"⟩
abbrev cJ2_checkBoundsOffCount_d044e : ByteArray := prog_27_method_94_code
def yJ2_checkBoundsOffCount_d044e : MethodName := ⟨RJ2, "checkBoundsOffCount", "(II[B)V"⟩
def RJ10 : String := "java/lang/System"
def TJ10 : u_T := fun k => match k with
  | _ => ("", "", "", false)
def tyJ10 : Nat → FieldType := fun k => match k with
  | _ => .int
abbrev wsJ100 : List Cond := u_ws RJ10 TJ10 0
theorem nmJ10 : ∀ a, a < 0 → ∀ b, b < 0 → a ≠ b → (TJ10 a).2.1 ≠ (TJ10 b).2.1 := by decide +kernel
theorem tyJ10_ok : ∀ k, k < 0 → parseFieldDescriptor (TJ10 k).2.2.1 = some (tyJ10 k) := by decide +kernel
def RJxfd54e : String := "java/lang/constant/Constable"
def TJxfd54e : u_T := fun k => match k with
  | _ => ("", "", "", false)
def tyJxfd54e : Nat → FieldType := fun k => match k with
  | _ => .int
abbrev wsJxfd54e0 : List Cond := u_ws RJxfd54e TJxfd54e 0
theorem nmJxfd54e : ∀ a, a < 0 → ∀ b, b < 0 → a ≠ b → (TJxfd54e a).2.1 ≠ (TJxfd54e b).2.1 := by decide +kernel
theorem tyJxfd54e_ok : ∀ k, k < 0 → parseFieldDescriptor (TJxfd54e k).2.2.1 = some (tyJxfd54e k) := by decide +kernel
def RJx3cf43 : String := "java/lang/constant/ConstantDesc"
def TJx3cf43 : u_T := fun k => match k with
  | _ => ("", "", "", false)
def tyJx3cf43 : Nat → FieldType := fun k => match k with
  | _ => .int
abbrev wsJx3cf430 : List Cond := u_ws RJx3cf43 TJx3cf43 0
theorem nmJx3cf43 : ∀ a, a < 0 → ∀ b, b < 0 → a ≠ b → (TJx3cf43 a).2.1 ≠ (TJx3cf43 b).2.1 := by decide +kernel
theorem tyJx3cf43_ok : ∀ k, k < 0 → parseFieldDescriptor (TJx3cf43 k).2.2.1 = some (tyJx3cf43 k) := by decide +kernel
def RJ7 : String := "java/util/Arrays"
def TJ7 : u_T := fun k => match k with
  | _ => ("", "", "", false)
def tyJ7 : Nat → FieldType := fun k => match k with
  | _ => .int
abbrev wsJ70 : List Cond := u_ws RJ7 TJ7 0
theorem nmJ7 : ∀ a, a < 0 → ∀ b, b < 0 → a ≠ b → (TJ7 a).2.1 ≠ (TJ7 b).2.1 := by decide +kernel
theorem tyJ7_ok : ∀ k, k < 0 → parseFieldDescriptor (TJ7 k).2.2.1 = some (tyJ7 k) := by decide +kernel
abbrev cJ7_copyOf_9075b : ByteArray := prog_32_method_121_code
def yJ7_copyOf_9075b : MethodName := ⟨RJ7, "copyOf", "([BI)[B"⟩
abbrev cJ7_checkLength_df160 : ByteArray := prog_32_method_131_code
def yJ7_checkLength_df160 : MethodName := ⟨RJ7, "checkLength", "(II)V"⟩
abbrev cJ7_copyOfRange_39247 : ByteArray := prog_32_method_132_code
def yJ7_copyOfRange_39247 : MethodName := ⟨RJ7, "copyOfRange", "([BII)[B"⟩
abbrev cJ7_copyOfRangeByte_39247 : ByteArray := prog_32_method_133_code
def yJ7_copyOfRangeByte_39247 : MethodName := ⟨RJ7, "copyOfRangeByte", "([BII)[B"⟩
def RJ8 : String := "jdk/internal/util/ArraysSupport"
def TJ8 : u_T := fun k => match k with
  | _ => ("", "", "", false)
def tyJ8 : Nat → FieldType := fun k => match k with
  | _ => .int
abbrev wsJ80 : List Cond := u_ws RJ8 TJ8 0
theorem nmJ8 : ∀ a, a < 0 → ∀ b, b < 0 → a ≠ b → (TJ8 a).2.1 ≠ (TJ8 b).2.1 := by decide +kernel
theorem tyJ8_ok : ∀ k, k < 0 → parseFieldDescriptor (TJ8 k).2.2.1 = some (tyJ8 k) := by decide +kernel
abbrev cJ8_newLength_cabcc : ByteArray := prog_34_method_27_code
def yJ8_newLength_cabcc : MethodName := ⟨RJ8, "newLength", "(III)I"⟩
abbrev cJ8_hugeLength_7cf53 : ByteArray := prog_34_method_28_code
def yJ8_hugeLength_7cf53 : MethodName := ⟨RJ8, "hugeLength", "(II)I"⟩
def RJ3 : String := "jdk/internal/util/Preconditions"
def TJ3 : u_T := fun k => match k with
  | _ => ("", "", "", false)
def tyJ3 : Nat → FieldType := fun k => match k with
  | _ => .int
abbrev wsJ30 : List Cond := u_ws RJ3 TJ3 0
theorem nmJ3 : ∀ a, a < 0 → ∀ b, b < 0 → a ≠ b → (TJ3 a).2.1 ≠ (TJ3 b).2.1 := by decide +kernel
theorem tyJ3_ok : ∀ k, k < 0 → parseFieldDescriptor (TJ3 k).2.2.1 = some (tyJ3 k) := by decide +kernel
abbrev cJ3_checkIndex_8e157 : ByteArray := prog_35_method_11_code
def yJ3_checkIndex_8e157 : MethodName := ⟨RJ3, "checkIndex", "(IILjava/util/function/BiFunction;)I"⟩
abbrev cJ3_checkFromToIndex_8c36e : ByteArray := prog_35_method_12_code
def yJ3_checkFromToIndex_8c36e : MethodName := ⟨RJ3, "checkFromToIndex", "(IIILjava/util/function/BiFunction;)I"⟩
abbrev cJ3_checkFromIndexSize_8c36e : ByteArray := prog_35_method_13_code
def yJ3_checkFromIndexSize_8c36e : MethodName := ⟨RJ3, "checkFromIndexSize", "(IIILjava/util/function/BiFunction;)I"⟩
def RL : String := "RibbonQuarryLaw"
abbrev cL_cell : ByteArray := method_2_code
def yL_cell : MethodName := ⟨RL, "cell", "([II)I"⟩
abbrev cL_pick : ByteArray := method_3_code
def yL_pick : MethodName := ⟨RL, "pick", "([III)I"⟩
abbrev cL_append : ByteArray := method_4_code
def yL_append : MethodName := ⟨RL, "append", "(LRibbonQuarry;III)I"⟩
abbrev cL_insert : ByteArray := method_5_code
def yL_insert : MethodName := ⟨RL, "insert", "(LRibbonQuarry;IIII)I"⟩
abbrev cL_remove : ByteArray := method_6_code
def yL_remove : MethodName := ⟨RL, "remove", "(LRibbonQuarry;II)I"⟩
abbrev cL_retie : ByteArray := method_7_code
def yL_retie : MethodName := ⟨RL, "retie", "(LRibbonQuarry;III)I"⟩
abbrev cL_segmentCount : ByteArray := method_8_code
def yL_segmentCount : MethodName := ⟨RL, "segmentCount", "(LRibbonQuarry;I)I"⟩
abbrev cL_length : ByteArray := method_9_code
def yL_length : MethodName := ⟨RL, "length", "(LRibbonQuarry;II)I"⟩
abbrev cL_colour : ByteArray := method_10_code
def yL_colour : MethodName := ⟨RL, "colour", "(LRibbonQuarry;II)I"⟩
abbrev cL_cut : ByteArray := method_11_code
def yL_cut : MethodName := ⟨RL, "cut", "(LRibbonQuarry;III)I"⟩
abbrev cL_splice : ByteArray := method_12_code
def yL_splice : MethodName := ⟨RL, "splice", "(LRibbonQuarry;II)I"⟩
abbrev cL_exchange : ByteArray := method_13_code
def yL_exchange : MethodName := ⟨RL, "exchange", "(LRibbonQuarry;II)I"⟩
abbrev cL_flip : ByteArray := method_14_code
def yL_flip : MethodName := ⟨RL, "flip", "(LRibbonQuarry;III)I"⟩
abbrev cL_dye : ByteArray := method_15_code
def yL_dye : MethodName := ⟨RL, "dye", "(LRibbonQuarry;IIII)I"⟩
abbrev cL_reelLength : ByteArray := method_16_code
def yL_reelLength : MethodName := ⟨RL, "reelLength", "(LRibbonQuarry;I)I"⟩
abbrev cL_lengthBefore : ByteArray := method_17_code
def yL_lengthBefore : MethodName := ⟨RL, "lengthBefore", "(LRibbonQuarry;II)I"⟩
abbrev cL_lengthBeforeByScan : ByteArray := method_18_code
def yL_lengthBeforeByScan : MethodName := ⟨RL, "lengthBeforeByScan", "(LRibbonQuarry;II)I"⟩
abbrev cL_positionAt : ByteArray := method_19_code
def yL_positionAt : MethodName := ⟨RL, "positionAt", "(LRibbonQuarry;II)I"⟩
abbrev cL_rangeLength : ByteArray := method_20_code
def yL_rangeLength : MethodName := ⟨RL, "rangeLength", "(LRibbonQuarry;III)I"⟩
abbrev cL_longestInRange : ByteArray := method_21_code
def yL_longestInRange : MethodName := ⟨RL, "longestInRange", "(LRibbonQuarry;III)I"⟩
abbrev cL_segmentAtRank : ByteArray := method_22_code
def yL_segmentAtRank : MethodName := ⟨RL, "segmentAtRank", "(LRibbonQuarry;II)I"⟩
abbrev cL_tangleCount : ByteArray := method_23_code
def yL_tangleCount : MethodName := ⟨RL, "tangleCount", "(LRibbonQuarry;I)I"⟩
abbrev cL_tangleCountByScan : ByteArray := method_24_code
def yL_tangleCountByScan : MethodName := ⟨RL, "tangleCountByScan", "(LRibbonQuarry;I)I"⟩
abbrev cL_isTangled : ByteArray := method_25_code
def yL_isTangled : MethodName := ⟨RL, "isTangled", "(LRibbonQuarry;II)I"⟩
abbrev cL_longestRun : ByteArray := method_26_code
def yL_longestRun : MethodName := ⟨RL, "longestRun", "(LRibbonQuarry;I)I"⟩
abbrev cL_nextOfColour : ByteArray := method_27_code
def yL_nextOfColour : MethodName := ⟨RL, "nextOfColour", "(LRibbonQuarry;III)I"⟩
abbrev cL_colourLength : ByteArray := method_28_code
def yL_colourLength : MethodName := ⟨RL, "colourLength", "(LRibbonQuarry;II)I"⟩
abbrev cL_colourAtRank : ByteArray := method_29_code
def yL_colourAtRank : MethodName := ⟨RL, "colourAtRank", "(LRibbonQuarry;II)I"⟩
abbrev cL_isSymmetric : ByteArray := method_30_code
def yL_isSymmetric : MethodName := ⟨RL, "isSymmetric", "(LRibbonQuarry;I)I"⟩
abbrev cL_commonBeginning : ByteArray := method_31_code
def yL_commonBeginning : MethodName := ⟨RL, "commonBeginning", "(LRibbonQuarry;II)I"⟩
abbrev cL_areEqual : ByteArray := method_32_code
def yL_areEqual : MethodName := ⟨RL, "areEqual", "(LRibbonQuarry;II)I"⟩
abbrev cL_type : ByteArray := method_33_code
def yL_type : MethodName := ⟨RL, "type", "(LRibbonQuarry;C)I"⟩
abbrev cL_run : ByteArray := method_34_code
def yL_run : MethodName := ⟨RL, "run", "(LRibbonQuarry;)I"⟩
abbrev cL_describeReel : ByteArray := method_37_code
def yL_describeReel : MethodName := ⟨RL, "describeReel", "(LRibbonQuarry;I)I"⟩
abbrev cL_lineAt : ByteArray := method_38_code
def yL_lineAt : MethodName := ⟨RL, "lineAt", "(LRibbonQuarry;I)I"⟩
abbrev cL_meanLength : ByteArray := method_39_code
def yL_meanLength : MethodName := ⟨RL, "meanLength", "(LRibbonQuarry;I)D"⟩
abbrev cL_colourShare : ByteArray := method_40_code
def yL_colourShare : MethodName := ⟨RL, "colourShare", "(LRibbonQuarry;II)F"⟩
abbrev cL_undo : ByteArray := method_41_code
def yL_undo : MethodName := ⟨RL, "undo", "(LRibbonQuarry;)I"⟩
abbrev cL_restore : ByteArray := method_42_code
def yL_restore : MethodName := ⟨RL, "restore", "(LRibbonQuarry;)I"⟩
abbrev cL_runs : ByteArray := method_43_code
def yL_runs : MethodName := ⟨RL, "runs", "(LRibbonQuarry;Ljava/lang/String;)I"⟩
abbrev cL_law : ByteArray := code
def yL_law : MethodName := ⟨RL, "law", "([I)Z"⟩
abbrev cL_does : ByteArray := method_46_code
def yL_does : MethodName := ⟨RL, "does", "([IIILRibbonQuarry;III)I"⟩
abbrev cL_sum : ByteArray := method_47_code
def yL_sum : MethodName := ⟨RL, "sum", "(LRibbonQuarry;)J"⟩
abbrev cL_isReel : ByteArray := method_48_code
def yL_isReel : MethodName := ⟨RL, "isReel", "(LRibbonQuarry;I[II)Z"⟩
abbrev cL_isWhole : ByteArray := method_49_code
def yL_isWhole : MethodName := ⟨RL, "isWhole", "(LRibbonQuarry;[IIZ)Z"⟩
abbrev cL_isKept : ByteArray := method_50_code
def yL_isKept : MethodName := ⟨RL, "isKept", "(LRibbonQuarry;[JI)Z"⟩
