def RX0 : String := "ScrollChecks$1"
def TX0 : u_T := fun k => match k with
  | _ => ("", "", "", false)
def tyX0 : Nat → FieldType := fun k => match k with
  | _ => .int
abbrev wsX00 : List Cond := u_ws RX0 TX0 0
theorem nmX0 : ∀ a, a < 0 → ∀ b, b < 0 → a ≠ b → (TX0 a).2.1 ≠ (TX0 b).2.1 := by decide +kernel
theorem tyX0_ok : ∀ k, k < 0 → parseFieldDescriptor (TX0 k).2.2.1 = some (tyX0 k) := by decide +kernel
def RX1 : String := "ScrollChecks$Deed"
def TX1 : u_T := fun k => match k with
  | _ => ("", "", "", false)
def tyX1 : Nat → FieldType := fun k => match k with
  | _ => .int
abbrev wsX10 : List Cond := u_ws RX1 TX1 0
theorem nmX1 : ∀ a, a < 0 → ∀ b, b < 0 → a ≠ b → (TX1 a).2.1 ≠ (TX1 b).2.1 := by decide +kernel
theorem tyX1_ok : ∀ k, k < 0 → parseFieldDescriptor (TX1 k).2.2.1 = some (tyX1 k) := by decide +kernel
def RX2 : String := "ScrollChecks$History"
def TX2 : u_T := fun k => match k with
  | 0 => ("ScrollChecks$History", "shelves", "[LScrollChecks$Shelf;", true)
  | _ => ("ScrollChecks$History", "kept", "I", false)
def tyX2 : Nat → FieldType := fun k => match k with
  | 0 => .array (.object "ScrollChecks$Shelf")
  | _ => .int
abbrev wsX20 : List Cond := u_ws RX2 TX2 2
theorem nmX2 : ∀ a, a < 2 → ∀ b, b < 2 → a ≠ b → (TX2 a).2.1 ≠ (TX2 b).2.1 := by decide +kernel
theorem tyX2_ok : ∀ k, k < 2 → parseFieldDescriptor (TX2 k).2.2.1 = some (tyX2 k) := by decide +kernel
abbrev cX2_init : ByteArray := prog_4_method_1_code
def yX2_init : MethodName := ⟨RX2, "<init>", "()V"⟩
abbrev cX2_remember : ByteArray := prog_4_method_2_code
def yX2_remember : MethodName := ⟨RX2, "remember", "(LScrollChecks$Shelf;)V"⟩
abbrev cX2_takeLatest : ByteArray := prog_4_method_3_code
def yX2_takeLatest : MethodName := ⟨RX2, "takeLatest", "()LScrollChecks$Shelf;"⟩
abbrev cX2_shelfAt : ByteArray := prog_4_method_5_code
def yX2_shelfAt : MethodName := ⟨RX2, "shelfAt", "(I)LScrollChecks$Shelf;"⟩
abbrev cX2_moveOldestBehind : ByteArray := prog_4_method_6_code
def yX2_moveOldestBehind : MethodName := ⟨RX2, "moveOldestBehind", "()V"⟩
def RX3 : String := "ScrollChecks$Input"
def TX3 : u_T := fun k => match k with
  | 0 => ("ScrollChecks$Input", "characters", "[C", true)
  | _ => ("ScrollChecks$Input", "length", "I", false)
def tyX3 : Nat → FieldType := fun k => match k with
  | 0 => .array .char
  | _ => .int
abbrev wsX30 : List Cond := u_ws RX3 TX3 2
theorem nmX3 : ∀ a, a < 2 → ∀ b, b < 2 → a ≠ b → (TX3 a).2.1 ≠ (TX3 b).2.1 := by decide +kernel
theorem tyX3_ok : ∀ k, k < 2 → parseFieldDescriptor (TX3 k).2.2.1 = some (tyX3 k) := by decide +kernel
abbrev cX3_init : ByteArray := prog_5_method_1_code
def yX3_init : MethodName := ⟨RX3, "<init>", "()V"⟩
abbrev cX3_isFull : ByteArray := prog_5_method_2_code
def yX3_isFull : MethodName := ⟨RX3, "isFull", "()Z"⟩
abbrev cX3_add : ByteArray := prog_5_method_3_code
def yX3_add : MethodName := ⟨RX3, "add", "(C)V"⟩
abbrev cX3_empty : ByteArray := prog_5_method_4_code
def yX3_empty : MethodName := ⟨RX3, "empty", "()V"⟩
abbrev cX3_firstError : ByteArray := prog_5_method_5_code
def yX3_firstError : MethodName := ⟨RX3, "firstError", "()I"⟩
abbrev cX3_firstMisfit : ByteArray := prog_5_method_6_code
def yX3_firstMisfit : MethodName := ⟨RX3, "firstMisfit", "(ILjava/lang/String;)I"⟩
abbrev cX3_deedAt : ByteArray := prog_5_method_7_code
def yX3_deedAt : MethodName := ⟨RX3, "deedAt", "(I)LScrollChecks$Deed;"⟩
abbrev cX3_numberIn : ByteArray := prog_5_method_8_code
def yX3_numberIn : MethodName := ⟨RX3, "numberIn", "(ILScrollChecks$Deed;I)I"⟩
abbrev cX3_startOfNext : ByteArray := prog_5_method_9_code
def yX3_startOfNext : MethodName := ⟨RX3, "startOfNext", "(I)I"⟩
abbrev cX3_at : ByteArray := prog_5_method_10_code
def yX3_at : MethodName := ⟨RX3, "at", "(I)C"⟩
abbrev cX3_isAt : ByteArray := prog_5_method_11_code
def yX3_isAt : MethodName := ⟨RX3, "isAt", "(IC)Z"⟩
abbrev cX3_isDigitAt : ByteArray := prog_5_method_12_code
def yX3_isDigitAt : MethodName := ⟨RX3, "isDigitAt", "(I)Z"⟩
def RX4 : String := "ScrollChecks$Scroll"
def TX4 : u_T := fun k => match k with
  | 0 => ("ScrollChecks$Scroll", "signs", "[I", true)
  | 1 => ("ScrollChecks$Scroll", "sums", "[I", true)
  | 2 => ("ScrollChecks$Scroll", "smudges", "[I", true)
  | 3 => ("ScrollChecks$Scroll", "toldSums", "[I", true)
  | 4 => ("ScrollChecks$Scroll", "rows", "I", false)
  | 5 => ("ScrollChecks$Scroll", "columns", "I", false)
  | 6 => ("ScrollChecks$Scroll", "isSealed", "Z", false)
  | 7 => ("ScrollChecks$Scroll", "original", "I", false)
  | 8 => ("ScrollChecks$Scroll", "mended", "I", false)
  | _ => ("ScrollChecks$Scroll", "filled", "I", false)
def tyX4 : Nat → FieldType := fun k => match k with
  | 0 => .array .int
  | 1 => .array .int
  | 2 => .array .int
  | 3 => .array .int
  | 4 => .int
  | 5 => .int
  | 6 => .boolean
  | 7 => .int
  | 8 => .int
  | _ => .int
abbrev wsX40 : List Cond := u_ws RX4 TX4 10
theorem nmX4 : ∀ a, a < 10 → ∀ b, b < 10 → a ≠ b → (TX4 a).2.1 ≠ (TX4 b).2.1 := by decide +kernel
theorem tyX4_ok : ∀ k, k < 10 → parseFieldDescriptor (TX4 k).2.2.1 = some (tyX4 k) := by decide +kernel
abbrev cX4_init : ByteArray := prog_6_method_1_code
def yX4_init : MethodName := ⟨RX4, "<init>", "()V"⟩
abbrev cX4_begin : ByteArray := prog_6_method_2_code
def yX4_begin : MethodName := ⟨RX4, "begin", "(II)V"⟩
abbrev cX4_become : ByteArray := prog_6_method_3_code
def yX4_become : MethodName := ⟨RX4, "become", "(LScrollChecks$Scroll;)V"⟩
abbrev cX4_countAsCopyOf : ByteArray := prog_6_method_4_code
def yX4_countAsCopyOf : MethodName := ⟨RX4, "countAsCopyOf", "(I)V"⟩
abbrev cX4_hasRow : ByteArray := prog_6_method_5_code
def yX4_hasRow : MethodName := ⟨RX4, "hasRow", "(I)Z"⟩
abbrev cX4_hasColumn : ByteArray := prog_6_method_6_code
def yX4_hasColumn : MethodName := ⟨RX4, "hasColumn", "(I)Z"⟩
abbrev cX4_hasCell : ByteArray := prog_6_method_7_code
def yX4_hasCell : MethodName := ⟨RX4, "hasCell", "(II)Z"⟩
abbrev cX4_cells : ByteArray := prog_6_method_8_code
def yX4_cells : MethodName := ⟨RX4, "cells", "()I"⟩
abbrev cX4_sign : ByteArray := prog_6_method_9_code
def yX4_sign : MethodName := ⟨RX4, "sign", "(II)I"⟩
abbrev cX4_isSmudged : ByteArray := prog_6_method_10_code
def yX4_isSmudged : MethodName := ⟨RX4, "isSmudged", "(II)Z"⟩
abbrev cX4_setSign : ByteArray := prog_6_method_11_code
def yX4_setSign : MethodName := ⟨RX4, "setSign", "(III)V"⟩
abbrev cX4_replaceSign : ByteArray := prog_6_method_12_code
def yX4_replaceSign : MethodName := ⟨RX4, "replaceSign", "(III)I"⟩
abbrev cX4_letSlip : ByteArray := prog_6_method_13_code
def yX4_letSlip : MethodName := ⟨RX4, "letSlip", "(III)I"⟩
abbrev cX4_smudgedCells : ByteArray := prog_6_method_14_code
def yX4_smudgedCells : MethodName := ⟨RX4, "smudgedCells", "()I"⟩
abbrev cX4_allSigns : ByteArray := prog_6_method_15_code
def yX4_allSigns : MethodName := ⟨RX4, "allSigns", "()I"⟩
abbrev cX4_howOften : ByteArray := prog_6_method_16_code
def yX4_howOften : MethodName := ⟨RX4, "howOften", "(I)I"⟩
abbrev cX4_differencesTo : ByteArray := prog_6_method_17_code
def yX4_differencesTo : MethodName := ⟨RX4, "differencesTo", "(LScrollChecks$Scroll;)I"⟩
abbrev cX4_writeRowOn : ByteArray := prog_6_method_18_code
def yX4_writeRowOn : MethodName := ⟨RX4, "writeRowOn", "(Ljava/lang/StringBuilder;I)V"⟩
abbrev cX4_tellSums : ByteArray := prog_6_method_19_code
def yX4_tellSums : MethodName := ⟨RX4, "tellSums", "()I"⟩
abbrev cX4_toldSum : ByteArray := prog_6_method_20_code
def yX4_toldSum : MethodName := ⟨RX4, "toldSum", "(I)I"⟩
abbrev cX4_fault : ByteArray := prog_6_method_21_code
def yX4_fault : MethodName := ⟨RX4, "fault", "(I)I"⟩
abbrev cX4_isWrong : ByteArray := prog_6_method_22_code
def yX4_isWrong : MethodName := ⟨RX4, "isWrong", "(I)Z"⟩
abbrev cX4_rowsWrong : ByteArray := prog_6_method_23_code
def yX4_rowsWrong : MethodName := ⟨RX4, "rowsWrong", "()I"⟩
abbrev cX4_columnsWrong : ByteArray := prog_6_method_24_code
def yX4_columnsWrong : MethodName := ⟨RX4, "columnsWrong", "()I"⟩
abbrev cX4_firstWrongFrom : ByteArray := prog_6_method_25_code
def yX4_firstWrongFrom : MethodName := ⟨RX4, "firstWrongFrom", "(I)I"⟩
abbrev cX4_isAllRight : ByteArray := prog_6_method_26_code
def yX4_isAllRight : MethodName := ⟨RX4, "isAllRight", "()Z"⟩
abbrev cX4_hasToldSums : ByteArray := prog_6_method_27_code
def yX4_hasToldSums : MethodName := ⟨RX4, "hasToldSums", "()Z"⟩
abbrev cX4_isInBand : ByteArray := prog_6_method_28_code
def yX4_isInBand : MethodName := ⟨RX4, "isInBand", "(III)Z"⟩
abbrev cX4_isDoubtful : ByteArray := prog_6_method_29_code
def yX4_isDoubtful : MethodName := ⟨RX4, "isDoubtful", "(II)Z"⟩
abbrev cX4_doubtsByCell : ByteArray := prog_6_method_30_code
def yX4_doubtsByCell : MethodName := ⟨RX4, "doubtsByCell", "()I"⟩
abbrev cX4_doubtsByProduct : ByteArray := prog_6_method_31_code
def yX4_doubtsByProduct : MethodName := ⟨RX4, "doubtsByProduct", "()I"⟩
abbrev cX4_obstacleToSealing : ByteArray := prog_6_method_32_code
def yX4_obstacleToSealing : MethodName := ⟨RX4, "obstacleToSealing", "()I"⟩
abbrev cX4_obstacleToTouching : ByteArray := prog_6_method_33_code
def yX4_obstacleToTouching : MethodName := ⟨RX4, "obstacleToTouching", "(II)I"⟩
abbrev cX4_obstacleToFilling : ByteArray := prog_6_method_34_code
def yX4_obstacleToFilling : MethodName := ⟨RX4, "obstacleToFilling", "(I)I"⟩
abbrev cX4_obstacleToMending : ByteArray := prog_6_method_35_code
def yX4_obstacleToMending : MethodName := ⟨RX4, "obstacleToMending", "(I)I"⟩
abbrev cX4_cellToMend : ByteArray := prog_6_method_36_code
def yX4_cellToMend : MethodName := ⟨RX4, "cellToMend", "()I"⟩
abbrev cX4_mendCell : ByteArray := prog_6_method_37_code
def yX4_mendCell : MethodName := ⟨RX4, "mendCell", "()I"⟩
abbrev cX4_findMendByTrying : ByteArray := prog_6_method_38_code
def yX4_findMendByTrying : MethodName := ⟨RX4, "findMendByTrying", "()I"⟩
abbrev cX4_isMendedByCell : ByteArray := prog_6_method_39_code
def yX4_isMendedByCell : MethodName := ⟨RX4, "isMendedByCell", "(II)Z"⟩
abbrev cX4_fillCells : ByteArray := prog_6_method_40_code
def yX4_fillCells : MethodName := ⟨RX4, "fillCells", "()I"⟩
abbrev cX4_bandToFill : ByteArray := prog_6_method_41_code
def yX4_bandToFill : MethodName := ⟨RX4, "bandToFill", "()I"⟩
abbrev cX4_fillBand : ByteArray := prog_6_method_42_code
def yX4_fillBand : MethodName := ⟨RX4, "fillBand", "(I)V"⟩
def RX5 : String := "ScrollChecks$Shelf"
def TX5 : u_T := fun k => match k with
  | 0 => ("ScrollChecks$Shelf", "scrolls", "[LScrollChecks$Scroll;", true)
  | 1 => ("ScrollChecks$Shelf", "scrollCount", "I", false)
  | 2 => ("ScrollChecks$Shelf", "slipped", "I", false)
  | 3 => ("ScrollChecks$Shelf", "smudged", "I", false)
  | 4 => ("ScrollChecks$Shelf", "mended", "I", false)
  | _ => ("ScrollChecks$Shelf", "filled", "I", false)
def tyX5 : Nat → FieldType := fun k => match k with
  | 0 => .array (.object "ScrollChecks$Scroll")
  | 1 => .int
  | 2 => .int
  | 3 => .int
  | 4 => .int
  | _ => .int
abbrev wsX50 : List Cond := u_ws RX5 TX5 6
theorem nmX5 : ∀ a, a < 6 → ∀ b, b < 6 → a ≠ b → (TX5 a).2.1 ≠ (TX5 b).2.1 := by decide +kernel
theorem tyX5_ok : ∀ k, k < 6 → parseFieldDescriptor (TX5 k).2.2.1 = some (tyX5 k) := by decide +kernel
abbrev cX5_init : ByteArray := prog_7_method_1_code
def yX5_init : MethodName := ⟨RX5, "<init>", "()V"⟩
abbrev cX5_become : ByteArray := prog_7_method_2_code
def yX5_become : MethodName := ⟨RX5, "become", "(LScrollChecks$Shelf;)V"⟩
abbrev cX5_find : ByteArray := prog_7_method_3_code
def yX5_find : MethodName := ⟨RX5, "find", "(I)LScrollChecks$Scroll;"⟩
abbrev cX5_obstacleTo : ByteArray := prog_7_method_4_code
def yX5_obstacleTo : MethodName := ⟨RX5, "obstacleTo", "(LScrollChecks$Deed;IIII)I"⟩
abbrev cX5_obstacleToBeginning : ByteArray := prog_7_method_5_code
def yX5_obstacleToBeginning : MethodName := ⟨RX5, "obstacleToBeginning", "(II)I"⟩
abbrev cX5_obstacleToAdding : ByteArray := prog_7_method_6_code
def yX5_obstacleToAdding : MethodName := ⟨RX5, "obstacleToAdding", "()I"⟩
abbrev cX5_carryOut : ByteArray := prog_7_method_7_code
def yX5_carryOut : MethodName := ⟨RX5, "carryOut", "(LScrollChecks$Deed;IIII)I"⟩
abbrev cX5_beginScroll : ByteArray := prog_7_method_8_code
def yX5_beginScroll : MethodName := ⟨RX5, "beginScroll", "(II)I"⟩
abbrev cX5_addCopy : ByteArray := prog_7_method_9_code
def yX5_addCopy : MethodName := ⟨RX5, "addCopy", "(LScrollChecks$Scroll;I)I"⟩
abbrev cX5_numberAtRank : ByteArray := prog_7_method_10_code
def yX5_numberAtRank : MethodName := ⟨RX5, "numberAtRank", "(I)I"⟩
abbrev cX5_rankKey : ByteArray := prog_7_method_11_code
def yX5_rankKey : MethodName := ⟨RX5, "rankKey", "(I)I"⟩
abbrev cX5_addedUp : ByteArray := prog_7_method_12_code
def yX5_addedUp : MethodName := ⟨RX5, "addedUp", "(I)I"⟩
abbrev cX5_share : ByteArray := prog_7_method_13_code
def yX5_share : MethodName := ⟨RX5, "share", "(LScrollChecks$Scroll;I)I"⟩
abbrev cX5_isConsistent : ByteArray := prog_7_method_14_code
def yX5_isConsistent : MethodName := ⟨RX5, "isConsistent", "()Z"⟩
def RX6 : String := "ScrollChecks"
def TX6 : u_T := fun k => match k with
  | 0 => ("ScrollChecks", "now", "LScrollChecks$Shelf;", true)
  | 1 => ("ScrollChecks", "beforeText", "LScrollChecks$Shelf;", true)
  | 2 => ("ScrollChecks", "snapshot", "LScrollChecks$Shelf;", true)
  | 3 => ("ScrollChecks", "history", "LScrollChecks$History;", true)
  | 4 => ("ScrollChecks", "trial", "LScrollChecks$Scroll;", true)
  | 5 => ("ScrollChecks", "input", "LScrollChecks$Input;", true)
  | 6 => ("ScrollChecks", "lineText", "Ljava/lang/StringBuilder;", true)
  | 7 => ("ScrollChecks", "hasSnapshot", "Z", false)
  | 8 => ("ScrollChecks", "errorAt", "I", false)
  | 9 => ("ScrollChecks", "reason", "I", false)
  | _ => ("ScrollChecks", "detail", "I", false)
def tyX6 : Nat → FieldType := fun k => match k with
  | 0 => .object "ScrollChecks$Shelf"
  | 1 => .object "ScrollChecks$Shelf"
  | 2 => .object "ScrollChecks$Shelf"
  | 3 => .object "ScrollChecks$History"
  | 4 => .object "ScrollChecks$Scroll"
  | 5 => .object "ScrollChecks$Input"
  | 6 => .object "java/lang/StringBuilder"
  | 7 => .boolean
  | 8 => .int
  | 9 => .int
  | _ => .int
abbrev wsX60 : List Cond := u_ws RX6 TX6 11
theorem nmX6 : ∀ a, a < 11 → ∀ b, b < 11 → a ≠ b → (TX6 a).2.1 ≠ (TX6 b).2.1 := by decide +kernel
theorem tyX6_ok : ∀ k, k < 11 → parseFieldDescriptor (TX6 k).2.2.1 = some (tyX6 k) := by decide +kernel
abbrev cX6_init : ByteArray := prog_1_method_1_code
def yX6_init : MethodName := ⟨RX6, "<init>", "()V"⟩
abbrev cX6_scroll : ByteArray := prog_1_method_2_code
def yX6_scroll : MethodName := ⟨RX6, "scroll", "(II)I"⟩
abbrev cX6_scrollOf : ByteArray := prog_1_method_3_code
def yX6_scrollOf : MethodName := ⟨RX6, "scrollOf", "(II)I"⟩
abbrev cX6_write : ByteArray := prog_1_method_4_code
def yX6_write : MethodName := ⟨RX6, "write", "(IIII)I"⟩
abbrev cX6_signAt : ByteArray := prog_1_method_5_code
def yX6_signAt : MethodName := ⟨RX6, "signAt", "(III)I"⟩
abbrev cX6_seal : ByteArray := prog_1_method_6_code
def yX6_seal : MethodName := ⟨RX6, "seal", "(I)I"⟩
abbrev cX6_copy : ByteArray := prog_1_method_7_code
def yX6_copy : MethodName := ⟨RX6, "copy", "(I)I"⟩
abbrev cX6_slip : ByteArray := prog_1_method_8_code
def yX6_slip : MethodName := ⟨RX6, "slip", "(IIII)I"⟩
abbrev cX6_smudge : ByteArray := prog_1_method_9_code
def yX6_smudge : MethodName := ⟨RX6, "smudge", "(III)I"⟩
abbrev cX6_rowSum : ByteArray := prog_1_method_10_code
def yX6_rowSum : MethodName := ⟨RX6, "rowSum", "(II)I"⟩
abbrev cX6_columnSum : ByteArray := prog_1_method_11_code
def yX6_columnSum : MethodName := ⟨RX6, "columnSum", "(II)I"⟩
abbrev cX6_rowFault : ByteArray := prog_1_method_12_code
def yX6_rowFault : MethodName := ⟨RX6, "rowFault", "(II)I"⟩
abbrev cX6_columnFault : ByteArray := prog_1_method_13_code
def yX6_columnFault : MethodName := ⟨RX6, "columnFault", "(II)I"⟩
abbrev cX6_wrongRows : ByteArray := prog_1_method_14_code
def yX6_wrongRows : MethodName := ⟨RX6, "wrongRows", "(I)I"⟩
abbrev cX6_wrongColumns : ByteArray := prog_1_method_15_code
def yX6_wrongColumns : MethodName := ⟨RX6, "wrongColumns", "(I)I"⟩
abbrev cX6_isInDoubt : ByteArray := prog_1_method_16_code
def yX6_isInDoubt : MethodName := ⟨RX6, "isInDoubt", "(III)Z"⟩
abbrev cX6_doubts : ByteArray := prog_1_method_17_code
def yX6_doubts : MethodName := ⟨RX6, "doubts", "(I)I"⟩
abbrev cX6_doubtsAgain : ByteArray := prog_1_method_18_code
def yX6_doubtsAgain : MethodName := ⟨RX6, "doubtsAgain", "(I)I"⟩
abbrev cX6_mend : ByteArray := prog_1_method_19_code
def yX6_mend : MethodName := ⟨RX6, "mend", "(I)I"⟩
abbrev cX6_wouldMend : ByteArray := prog_1_method_20_code
def yX6_wouldMend : MethodName := ⟨RX6, "wouldMend", "(I)I"⟩
abbrev cX6_mendAgain : ByteArray := prog_1_method_21_code
def yX6_mendAgain : MethodName := ⟨RX6, "mendAgain", "(I)I"⟩
abbrev cX6_fill : ByteArray := prog_1_method_22_code
def yX6_fill : MethodName := ⟨RX6, "fill", "(I)I"⟩
abbrev cX6_wouldFill : ByteArray := prog_1_method_23_code
def yX6_wouldFill : MethodName := ⟨RX6, "wouldFill", "(III)I"⟩
abbrev cX6_differ : ByteArray := prog_1_method_24_code
def yX6_differ : MethodName := ⟨RX6, "differ", "(II)I"⟩
abbrev cX6_ranked : ByteArray := prog_1_method_25_code
def yX6_ranked : MethodName := ⟨RX6, "ranked", "(I)I"⟩
abbrev cX6_count : ByteArray := prog_1_method_26_code
def yX6_count : MethodName := ⟨RX6, "count", "(II)I"⟩
abbrev cX6_line : ByteArray := prog_1_method_27_code
def yX6_line : MethodName := ⟨RX6, "line", "(II)I"⟩
abbrev cX6_character : ByteArray := prog_1_method_28_code
def yX6_character : MethodName := ⟨RX6, "character", "(I)C"⟩
abbrev cX6_append : ByteArray := prog_1_method_29_code
def yX6_append : MethodName := ⟨RX6, "append", "(C)I"⟩
abbrev cX6_read : ByteArray := prog_1_method_30_code
def yX6_read : MethodName := ⟨RX6, "read", "()I"⟩
abbrev cX6_refusal : ByteArray := prog_1_method_32_code
def yX6_refusal : MethodName := ⟨RX6, "refusal", "(Z)I"⟩
abbrev cX6_account : ByteArray := prog_1_method_33_code
def yX6_account : MethodName := ⟨RX6, "account", "(I)I"⟩
abbrev cX6_isWell : ByteArray := prog_1_method_34_code
def yX6_isWell : MethodName := ⟨RX6, "isWell", "()Z"⟩
abbrev cX6_meanSign : ByteArray := prog_1_method_35_code
def yX6_meanSign : MethodName := ⟨RX6, "meanSign", "(I)D"⟩
abbrev cX6_doubtShare : ByteArray := prog_1_method_36_code
def yX6_doubtShare : MethodName := ⟨RX6, "doubtShare", "(I)F"⟩
abbrev cX6_undo : ByteArray := prog_1_method_37_code
def yX6_undo : MethodName := ⟨RX6, "undo", "()I"⟩
abbrev cX6_existing : ByteArray := prog_1_method_40_code
def yX6_existing : MethodName := ⟨RX6, "existing", "(I)LScrollChecks$Scroll;"⟩
abbrev cX6_withRow : ByteArray := prog_1_method_41_code
def yX6_withRow : MethodName := ⟨RX6, "withRow", "(II)LScrollChecks$Scroll;"⟩
abbrev cX6_withColumn : ByteArray := prog_1_method_42_code
def yX6_withColumn : MethodName := ⟨RX6, "withColumn", "(II)LScrollChecks$Scroll;"⟩
abbrev cX6_withCell : ByteArray := prog_1_method_43_code
def yX6_withCell : MethodName := ⟨RX6, "withCell", "(III)LScrollChecks$Scroll;"⟩
abbrev cX6_onlySealed : ByteArray := prog_1_method_44_code
def yX6_onlySealed : MethodName := ⟨RX6, "onlySealed", "(LScrollChecks$Scroll;)LScrollChecks$Scroll;"⟩
abbrev cX6_change : ByteArray := prog_1_method_45_code
def yX6_change : MethodName := ⟨RX6, "change", "(LScrollChecks$Deed;IIII)I"⟩
abbrev cX6_carryOutOrder : ByteArray := prog_1_method_46_code
def yX6_carryOutOrder : MethodName := ⟨RX6, "carryOutOrder", "(I)I"⟩
abbrev cX6_stopFor : ByteArray := prog_1_method_47_code
def yX6_stopFor : MethodName := ⟨RX6, "stopFor", "(I)V"⟩
abbrev cX6_refused : ByteArray := prog_1_method_48_code
def yX6_refused : MethodName := ⟨RX6, "refused", "(II)I"⟩
abbrev cX6_isWithin : ByteArray := prog_1_method_49_code
def yX6_isWithin : MethodName := ⟨RX6, "isWithin", "(III)Z"⟩
abbrev cX6_entry : ByteArray := prog_1_method_50_code
def yX6_entry : MethodName := ⟨RX6, "entry", "([II)I"⟩
abbrev cX6_put : ByteArray := prog_1_method_51_code
def yX6_put : MethodName := ⟨RX6, "put", "([III)V"⟩
abbrev cX6_add : ByteArray := prog_1_method_52_code
def yX6_add : MethodName := ⟨RX6, "add", "([III)V"⟩
abbrev cX6_clear : ByteArray := prog_1_method_53_code
def yX6_clear : MethodName := ⟨RX6, "clear", "([I)V"⟩
abbrev cX6_transfer : ByteArray := prog_1_method_54_code
def yX6_transfer : MethodName := ⟨RX6, "transfer", "([I[I)V"⟩
def RX7 : String := "ScrollChecksModel"
def TX7 : u_T := fun k => match k with
  | _ => ("", "", "", false)
def tyX7 : Nat → FieldType := fun k => match k with
  | _ => .int
abbrev wsX70 : List Cond := u_ws RX7 TX7 0
theorem nmX7 : ∀ a, a < 0 → ∀ b, b < 0 → a ≠ b → (TX7 a).2.1 ≠ (TX7 b).2.1 := by decide +kernel
theorem tyX7_ok : ∀ k, k < 0 → parseFieldDescriptor (TX7 k).2.2.1 = some (tyX7 k) := by decide +kernel
def RJx145de : String := "java/io/Serializable"
def TJx145de : u_T := fun k => match k with
  | _ => ("", "", "", false)
def tyJx145de : Nat → FieldType := fun k => match k with
  | _ => .int
abbrev wsJx145de0 : List Cond := u_ws RJx145de TJx145de 0
theorem nmJx145de : ∀ a, a < 0 → ∀ b, b < 0 → a ≠ b → (TJx145de a).2.1 ≠ (TJx145de b).2.1 := by decide +kernel
theorem tyJx145de_ok : ∀ k, k < 0 → parseFieldDescriptor (TJx145de k).2.2.1 = some (tyJx145de k) := by decide +kernel
def RJ5 : String := "java/lang/AbstractStringBuilder"
def TJ5 : u_T := fun k => match k with
  | _ => ("", "", "", false)
def tyJ5 : Nat → FieldType := fun k => match k with
  | _ => .int
abbrev wsJ50 : List Cond := u_ws RJ5 TJ5 0
theorem nmJ5 : ∀ a, a < 0 → ∀ b, b < 0 → a ≠ b → (TJ5 a).2.1 ≠ (TJ5 b).2.1 := by decide +kernel
theorem tyJ5_ok : ∀ k, k < 0 → parseFieldDescriptor (TJ5 k).2.2.1 = some (tyJ5 k) := by decide +kernel
abbrev cJ5_init_d00df : ByteArray := prog_11_method_2_code
def yJ5_init_d00df : MethodName := ⟨RJ5, "<init>", "(I)V"⟩
abbrev cJ5_length_8abf5 : ByteArray := prog_11_method_6_code
def yJ5_length_8abf5 : MethodName := ⟨RJ5, "length", "()I"⟩
abbrev cJ5_ensureCapacityInternal_d00df : ByteArray := prog_11_method_9_code
def yJ5_ensureCapacityInternal_d00df : MethodName := ⟨RJ5, "ensureCapacityInternal", "(I)V"⟩
abbrev cJ5_newCapacity_0f7a4 : ByteArray := prog_11_method_10_code
def yJ5_newCapacity_0f7a4 : MethodName := ⟨RJ5, "newCapacity", "(I)I"⟩
abbrev cJ5_inflate_da8c8 : ByteArray := prog_11_method_11_code
def yJ5_inflate_da8c8 : MethodName := ⟨RJ5, "inflate", "()V"⟩
abbrev cJ5_setLength_d00df : ByteArray := prog_11_method_13_code
def yJ5_setLength_d00df : MethodName := ⟨RJ5, "setLength", "(I)V"⟩
abbrev cJ5_charAt_5068e : ByteArray := prog_11_method_14_code
def yJ5_charAt_5068e : MethodName := ⟨RJ5, "charAt", "(I)C"⟩
abbrev cJ5_append_cf1ce : ByteArray := prog_11_method_22_code
def yJ5_append_cf1ce : MethodName := ⟨RJ5, "append", "(Ljava/lang/String;)Ljava/lang/AbstractStringBuilder;"⟩
abbrev cJ5_appendNull_278bc : ByteArray := prog_11_method_26_code
def yJ5_appendNull_278bc : MethodName := ⟨RJ5, "appendNull", "()Ljava/lang/AbstractStringBuilder;"⟩
abbrev cJ5_append_3fe6f : ByteArray := prog_11_method_31_code
def yJ5_append_3fe6f : MethodName := ⟨RJ5, "append", "(C)Ljava/lang/AbstractStringBuilder;"⟩
abbrev cJ5_append_c97b9 : ByteArray := prog_11_method_32_code
def yJ5_append_c97b9 : MethodName := ⟨RJ5, "append", "(I)Ljava/lang/AbstractStringBuilder;"⟩
abbrev cJ5_getValue_6d5f1 : ByteArray := prog_11_method_64_code
def yJ5_getValue_6d5f1 : MethodName := ⟨RJ5, "getValue", "()[B"⟩
abbrev cJ5_isLatin1_aae02 : ByteArray := prog_11_method_68_code
def yJ5_isLatin1_aae02 : MethodName := ⟨RJ5, "isLatin1", "()Z"⟩
abbrev cJ5_inflateIfNeededFor_a7421 : ByteArray := prog_11_method_71_code
def yJ5_inflateIfNeededFor_a7421 : MethodName := ⟨RJ5, "inflateIfNeededFor", "(Ljava/lang/String;)V"⟩
abbrev cJ5_putStringAt_47b60 : ByteArray := prog_11_method_73_code
def yJ5_putStringAt_47b60 : MethodName := ⟨RJ5, "putStringAt", "(ILjava/lang/String;)V"⟩
def RJx2cfe8 : String := "java/lang/Appendable"
def TJx2cfe8 : u_T := fun k => match k with
  | _ => ("", "", "", false)
def tyJx2cfe8 : Nat → FieldType := fun k => match k with
  | _ => .int
abbrev wsJx2cfe80 : List Cond := u_ws RJx2cfe8 TJx2cfe8 0
theorem nmJx2cfe8 : ∀ a, a < 0 → ∀ b, b < 0 → a ≠ b → (TJx2cfe8 a).2.1 ≠ (TJx2cfe8 b).2.1 := by decide +kernel
theorem tyJx2cfe8_ok : ∀ k, k < 0 → parseFieldDescriptor (TJx2cfe8 k).2.2.1 = some (tyJx2cfe8 k) := by decide +kernel
def RJx00060 : String := "java/lang/ArrayIndexOutOfBoundsException"
def TJx00060 : u_T := fun k => match k with
  | 0 => ("java/lang/Throwable", "backtrace", "Ljava/lang/Object;", false)
  | 1 => ("java/lang/Throwable", "detailMessage", "Ljava/lang/String;", false)
  | 2 => ("java/lang/Throwable", "cause", "Ljava/lang/Throwable;", false)
  | 3 => ("java/lang/Throwable", "stackTrace", "[Ljava/lang/StackTraceElement;", false)
  | 4 => ("java/lang/Throwable", "depth", "I", false)
  | _ => ("java/lang/Throwable", "suppressedExceptions", "Ljava/util/List;", false)
def tyJx00060 : Nat → FieldType := fun k => match k with
  | 0 => .object "java/lang/Object"
  | 1 => .object "java/lang/String"
  | 2 => .object "java/lang/Throwable"
  | 3 => .array (.object "java/lang/StackTraceElement")
  | 4 => .int
  | _ => .object "java/util/List"
abbrev wsJx000600 : List Cond := u_ws RJx00060 TJx00060 6
theorem nmJx00060 : ∀ a, a < 6 → ∀ b, b < 6 → a ≠ b → (TJx00060 a).2.1 ≠ (TJx00060 b).2.1 := by decide +kernel
theorem tyJx00060_ok : ∀ k, k < 6 → parseFieldDescriptor (TJx00060 k).2.2.1 = some (tyJx00060 k) := by decide +kernel
abbrev cJx00060_init_a7421 : ByteArray := prog_14_method_2_code
def yJx00060_init_a7421 : MethodName := ⟨RJx00060, "<init>", "(Ljava/lang/String;)V"⟩
abbrev cJx00060_init_d00df : ByteArray := prog_14_method_3_code
def yJx00060_init_d00df : MethodName := ⟨RJx00060, "<init>", "(I)V"⟩
def RJx9f9b0 : String := "java/lang/CharSequence"
def TJx9f9b0 : u_T := fun k => match k with
  | _ => ("", "", "", false)
def tyJx9f9b0 : Nat → FieldType := fun k => match k with
  | _ => .int
abbrev wsJx9f9b00 : List Cond := u_ws RJx9f9b0 TJx9f9b0 0
theorem nmJx9f9b0 : ∀ a, a < 0 → ∀ b, b < 0 → a ≠ b → (TJx9f9b0 a).2.1 ≠ (TJx9f9b0 b).2.1 := by decide +kernel
theorem tyJx9f9b0_ok : ∀ k, k < 0 → parseFieldDescriptor (TJx9f9b0 k).2.2.1 = some (tyJx9f9b0 k) := by decide +kernel
def RJx8e188 : String := "java/lang/Cloneable"
def TJx8e188 : u_T := fun k => match k with
  | _ => ("", "", "", false)
def tyJx8e188 : Nat → FieldType := fun k => match k with
  | _ => .int
abbrev wsJx8e1880 : List Cond := u_ws RJx8e188 TJx8e188 0
theorem nmJx8e188 : ∀ a, a < 0 → ∀ b, b < 0 → a ≠ b → (TJx8e188 a).2.1 ≠ (TJx8e188 b).2.1 := by decide +kernel
theorem tyJx8e188_ok : ∀ k, k < 0 → parseFieldDescriptor (TJx8e188 k).2.2.1 = some (tyJx8e188 k) := by decide +kernel
def RJxb160c : String := "java/lang/Comparable"
def TJxb160c : u_T := fun k => match k with
  | _ => ("", "", "", false)
def tyJxb160c : Nat → FieldType := fun k => match k with
  | _ => .int
abbrev wsJxb160c0 : List Cond := u_ws RJxb160c TJxb160c 0
theorem nmJxb160c : ∀ a, a < 0 → ∀ b, b < 0 → a ≠ b → (TJxb160c a).2.1 ≠ (TJxb160c b).2.1 := by decide +kernel
theorem tyJxb160c_ok : ∀ k, k < 0 → parseFieldDescriptor (TJxb160c k).2.2.1 = some (tyJxb160c k) := by decide +kernel
def RJx29ce0 : String := "java/lang/Enum"
def TJx29ce0 : u_T := fun k => match k with
  | _ => ("", "", "", false)
def tyJx29ce0 : Nat → FieldType := fun k => match k with
  | _ => .int
abbrev wsJx29ce00 : List Cond := u_ws RJx29ce0 TJx29ce0 0
theorem nmJx29ce0 : ∀ a, a < 0 → ∀ b, b < 0 → a ≠ b → (TJx29ce0 a).2.1 ≠ (TJx29ce0 b).2.1 := by decide +kernel
theorem tyJx29ce0_ok : ∀ k, k < 0 → parseFieldDescriptor (TJx29ce0 k).2.2.1 = some (tyJx29ce0 k) := by decide +kernel
abbrev cJx29ce0_ordinal_8abf5 : ByteArray := prog_18_method_2_code
def yJx29ce0_ordinal_8abf5 : MethodName := ⟨RJx29ce0, "ordinal", "()I"⟩
def RJ6 : String := "java/lang/Integer"
def TJ6 : u_T := fun k => match k with
  | _ => ("", "", "", false)
def tyJ6 : Nat → FieldType := fun k => match k with
  | _ => .int
abbrev wsJ60 : List Cond := u_ws RJ6 TJ6 0
theorem nmJ6 : ∀ a, a < 0 → ∀ b, b < 0 → a ≠ b → (TJ6 a).2.1 ≠ (TJ6 b).2.1 := by decide +kernel
theorem tyJ6_ok : ∀ k, k < 0 → parseFieldDescriptor (TJ6 k).2.2.1 = some (tyJ6 k) := by decide +kernel
abbrev cJ6_getChars_ba4f3 : ByteArray := prog_23_method_12_code
def yJ6_getChars_ba4f3 : MethodName := ⟨RJ6, "getChars", "(II[B)I"⟩
abbrev cJ6_stringSize_0f7a4 : ByteArray := prog_23_method_13_code
def yJ6_stringSize_0f7a4 : MethodName := ⟨RJ6, "stringSize", "(I)I"⟩
def RJ9 : String := "java/lang/Math"
def TJ9 : u_T := fun k => match k with
  | _ => ("", "", "", false)
def tyJ9 : Nat → FieldType := fun k => match k with
  | _ => .int
abbrev wsJ90 : List Cond := u_ws RJ9 TJ9 0
theorem nmJ9 : ∀ a, a < 0 → ∀ b, b < 0 → a ≠ b → (TJ9 a).2.1 ≠ (TJ9 b).2.1 := by decide +kernel
theorem tyJ9_ok : ∀ k, k < 0 → parseFieldDescriptor (TJ9 k).2.2.1 = some (tyJ9 k) := by decide +kernel
abbrev cJ9_max_7cf53 : ByteArray := prog_24_method_65_code
def yJ9_max_7cf53 : MethodName := ⟨RJ9, "max", "(II)I"⟩
abbrev cJ9_min_7cf53 : ByteArray := prog_24_method_69_code
def yJ9_min_7cf53 : MethodName := ⟨RJ9, "min", "(II)I"⟩
def RJxd2413 : String := "java/lang/Number"
def TJxd2413 : u_T := fun k => match k with
  | _ => ("", "", "", false)
def tyJxd2413 : Nat → FieldType := fun k => match k with
  | _ => .int
abbrev wsJxd24130 : List Cond := u_ws RJxd2413 TJxd2413 0
theorem nmJxd2413 : ∀ a, a < 0 → ∀ b, b < 0 → a ≠ b → (TJxd2413 a).2.1 ≠ (TJxd2413 b).2.1 := by decide +kernel
theorem tyJxd2413_ok : ∀ k, k < 0 → parseFieldDescriptor (TJxd2413 k).2.2.1 = some (tyJxd2413 k) := by decide +kernel
def RJ0 : String := "java/lang/String"
def TJ0 : u_T := fun k => match k with
  | 0 => ("java/lang/String", "value", "[B", true)
  | 1 => ("java/lang/String", "coder", "B", true)
  | 2 => ("java/lang/String", "hash", "I", false)
  | _ => ("java/lang/String", "hashIsZero", "Z", false)
def tyJ0 : Nat → FieldType := fun k => match k with
  | 0 => .array .byte
  | 1 => .byte
  | 2 => .int
  | _ => .boolean
abbrev wsJ00 : List Cond := u_ws RJ0 TJ0 4
theorem nmJ0 : ∀ a, a < 4 → ∀ b, b < 4 → a ≠ b → (TJ0 a).2.1 ≠ (TJ0 b).2.1 := by decide +kernel
theorem tyJ0_ok : ∀ k, k < 4 → parseFieldDescriptor (TJ0 k).2.2.1 = some (tyJ0 k) := by decide +kernel
abbrev cJ0_init_81219 : ByteArray := prog_27_method_53_code
def yJ0_init_81219 : MethodName := ⟨RJ0, "<init>", "(Ljava/lang/StringBuilder;)V"⟩
abbrev cJ0_length_8abf5 : ByteArray := prog_27_method_54_code
def yJ0_length_8abf5 : MethodName := ⟨RJ0, "length", "()I"⟩
abbrev cJ0_isEmpty_aae02 : ByteArray := prog_27_method_55_code
def yJ0_isEmpty_aae02 : MethodName := ⟨RJ0, "isEmpty", "()Z"⟩
abbrev cJ0_charAt_5068e : ByteArray := prog_27_method_56_code
def yJ0_charAt_5068e : MethodName := ⟨RJ0, "charAt", "(I)C"⟩
abbrev cJ0_getBytes_840e7 : ByteArray := prog_27_method_147_code
def yJ0_getBytes_840e7 : MethodName := ⟨RJ0, "getBytes", "([BIB)V"⟩
abbrev cJ0_init_db425 : ByteArray := prog_27_method_150_code
def yJ0_init_db425 : MethodName := ⟨RJ0, "<init>", "(Ljava/lang/AbstractStringBuilder;Ljava/lang/Void;)V"⟩
abbrev cJ0_coder_7d493 : ByteArray := prog_27_method_152_code
def yJ0_coder_7d493 : MethodName := ⟨RJ0, "coder", "()B"⟩
abbrev cJ0_isLatin1_aae02 : ByteArray := prog_27_method_154_code
def yJ0_isLatin1_aae02 : MethodName := ⟨RJ0, "isLatin1", "()Z"⟩
abbrev cJ0_checkIndex_df160 : ByteArray := prog_27_method_155_code
def yJ0_checkIndex_df160 : MethodName := ⟨RJ0, "checkIndex", "(II)V"⟩
abbrev cJ0_checkBoundsOffCount_cabcc : ByteArray := prog_27_method_157_code
def yJ0_checkBoundsOffCount_cabcc : MethodName := ⟨RJ0, "checkBoundsOffCount", "(III)I"⟩
abbrev cJ0_checkBoundsBeginEnd_23922 : ByteArray := prog_27_method_158_code
def yJ0_checkBoundsBeginEnd_23922 : MethodName := ⟨RJ0, "checkBoundsBeginEnd", "(III)V"⟩
def RJ4 : String := "java/lang/StringBuilder"
def TJ4 : u_T := fun k => match k with
  | 0 => ("java/lang/AbstractStringBuilder", "value", "[B", false)
  | 1 => ("java/lang/AbstractStringBuilder", "coder", "B", false)
  | 2 => ("java/lang/AbstractStringBuilder", "maybeLatin1", "Z", false)
  | _ => ("java/lang/AbstractStringBuilder", "count", "I", false)
def tyJ4 : Nat → FieldType := fun k => match k with
  | 0 => .array .byte
  | 1 => .byte
  | 2 => .boolean
  | _ => .int
abbrev wsJ40 : List Cond := u_ws RJ4 TJ4 4
theorem nmJ4 : ∀ a, a < 4 → ∀ b, b < 4 → a ≠ b → (TJ4 a).2.1 ≠ (TJ4 b).2.1 := by decide +kernel
theorem tyJ4_ok : ∀ k, k < 4 → parseFieldDescriptor (TJ4 k).2.2.1 = some (tyJ4 k) := by decide +kernel
abbrev cJ4_init_da8c8 : ByteArray := prog_28_method_1_code
def yJ4_init_da8c8 : MethodName := ⟨RJ4, "<init>", "()V"⟩
abbrev cJ4_append_15ec4 : ByteArray := prog_28_method_7_code
def yJ4_append_15ec4 : MethodName := ⟨RJ4, "append", "(Ljava/lang/String;)Ljava/lang/StringBuilder;"⟩
abbrev cJ4_append_cf468 : ByteArray := prog_28_method_14_code
def yJ4_append_cf468 : MethodName := ⟨RJ4, "append", "(C)Ljava/lang/StringBuilder;"⟩
abbrev cJ4_append_bf812 : ByteArray := prog_28_method_15_code
def yJ4_append_bf812 : MethodName := ⟨RJ4, "append", "(I)Ljava/lang/StringBuilder;"⟩
abbrev cJ4_toString_0e30d : ByteArray := prog_28_method_42_code
def yJ4_toString_0e30d : MethodName := ⟨RJ4, "toString", "()Ljava/lang/String;"⟩
abbrev cJ4_charAt_5068e : ByteArray := prog_28_method_88_code
def yJ4_charAt_5068e : MethodName := ⟨RJ4, "charAt", "(I)C"⟩
abbrev cJ4_setLength_d00df : ByteArray := prog_28_method_89_code
def yJ4_setLength_d00df : MethodName := ⟨RJ4, "setLength", "(I)V"⟩
abbrev cJ4_length_8abf5 : ByteArray := prog_28_method_93_code
def yJ4_length_8abf5 : MethodName := ⟨RJ4, "length", "()I"⟩
def RJx7c733 : String := "java/lang/StringIndexOutOfBoundsException"
def TJx7c733 : u_T := fun k => match k with
  | 0 => ("java/lang/Throwable", "backtrace", "Ljava/lang/Object;", false)
  | 1 => ("java/lang/Throwable", "detailMessage", "Ljava/lang/String;", false)
  | 2 => ("java/lang/Throwable", "cause", "Ljava/lang/Throwable;", false)
  | 3 => ("java/lang/Throwable", "stackTrace", "[Ljava/lang/StackTraceElement;", false)
  | 4 => ("java/lang/Throwable", "depth", "I", false)
  | _ => ("java/lang/Throwable", "suppressedExceptions", "Ljava/util/List;", false)
def tyJx7c733 : Nat → FieldType := fun k => match k with
  | 0 => .object "java/lang/Object"
  | 1 => .object "java/lang/String"
  | 2 => .object "java/lang/Throwable"
  | 3 => .array (.object "java/lang/StackTraceElement")
  | 4 => .int
  | _ => .object "java/util/List"
abbrev wsJx7c7330 : List Cond := u_ws RJx7c733 TJx7c733 6
theorem nmJx7c733 : ∀ a, a < 6 → ∀ b, b < 6 → a ≠ b → (TJx7c733 a).2.1 ≠ (TJx7c733 b).2.1 := by decide +kernel
theorem tyJx7c733_ok : ∀ k, k < 6 → parseFieldDescriptor (TJx7c733 k).2.2.1 = some (tyJx7c733 k) := by decide +kernel
abbrev cJx7c733_init_d00df : ByteArray := prog_29_method_3_code
def yJx7c733_init_d00df : MethodName := ⟨RJx7c733, "<init>", "(I)V"⟩
def RJ1 : String := "java/lang/StringLatin1"
def TJ1 : u_T := fun k => match k with
  | _ => ("", "", "", false)
def tyJ1 : Nat → FieldType := fun k => match k with
  | _ => .int
abbrev wsJ10 : List Cond := u_ws RJ1 TJ1 0
theorem nmJ1 : ∀ a, a < 0 → ∀ b, b < 0 → a ≠ b → (TJ1 a).2.1 ≠ (TJ1 b).2.1 := by decide +kernel
theorem tyJ1_ok : ∀ k, k < 0 → parseFieldDescriptor (TJ1 k).2.2.1 = some (tyJ1 k) := by decide +kernel
abbrev cJ1_charAt_3b067 : ByteArray := prog_30_method_2_code
def yJ1_charAt_3b067 : MethodName := ⟨RJ1, "charAt", "([BI)C"⟩
abbrev cJ1_canEncode_fc78d : ByteArray := prog_30_method_3_code
def yJ1_canEncode_fc78d : MethodName := ⟨RJ1, "canEncode", "(C)Z"⟩
abbrev cJ1_fillNull_b72d1 : ByteArray := prog_30_method_48_code
def yJ1_fillNull_b72d1 : MethodName := ⟨RJ1, "fillNull", "([BII)V"⟩
abbrev cJ1_inflate_0e8fd : ByteArray := prog_30_method_50_code
def yJ1_inflate_0e8fd : MethodName := ⟨RJ1, "inflate", "([BI[BII)V"⟩
def RJ2 : String := "java/lang/StringUTF16"
def TJ2 : u_T := fun k => match k with
  | _ => ("", "", "", false)
def tyJ2 : Nat → FieldType := fun k => match k with
  | _ => .int
abbrev wsJ20 : List Cond := u_ws RJ2 TJ2 0
theorem nmJ2 : ∀ a, a < 0 → ∀ b, b < 0 → a ≠ b → (TJ2 a).2.1 ≠ (TJ2 b).2.1 := by decide +kernel
theorem tyJ2_ok : ∀ k, k < 0 → parseFieldDescriptor (TJ2 k).2.2.1 = some (tyJ2 k) := by decide +kernel
abbrev cJ2_newBytesFor_77867 : ByteArray := prog_31_method_2_code
def yJ2_newBytesFor_77867 : MethodName := ⟨RJ2, "newBytesFor", "(I)[B"⟩
abbrev cJ2_newBytesLength_0f7a4 : ByteArray := prog_31_method_3_code
def yJ2_newBytesLength_0f7a4 : MethodName := ⟨RJ2, "newBytesLength", "(I)I"⟩
abbrev cJ2_putChar_b72d1 : ByteArray := prog_31_method_4_code
def yJ2_putChar_b72d1 : MethodName := ⟨RJ2, "putChar", "([BII)V"⟩
abbrev cJ2_getChar_3b067 : ByteArray := prog_31_method_5_code
def yJ2_getChar_3b067 : MethodName := ⟨RJ2, "getChar", "([BI)C"⟩
abbrev cJ2_length_9d52b : ByteArray := prog_31_method_6_code
def yJ2_length_9d52b : MethodName := ⟨RJ2, "length", "([B)I"⟩
abbrev cJ2_coderFromArrayLen_85cad : ByteArray := prog_31_method_15_code
def yJ2_coderFromArrayLen_85cad : MethodName := ⟨RJ2, "coderFromArrayLen", "([BI)B"⟩
abbrev cJ2_compress_39247 : ByteArray := prog_31_method_17_code
def yJ2_compress_39247 : MethodName := ⟨RJ2, "compress", "([BII)[B"⟩
abbrev cJ2_compress_5af95 : ByteArray := prog_31_method_22_code
def yJ2_compress_5af95 : MethodName := ⟨RJ2, "compress", "([BI[BII)I"⟩
abbrev cJ2_fillNull_b72d1 : ByteArray := prog_31_method_70_code
def yJ2_fillNull_b72d1 : MethodName := ⟨RJ2, "fillNull", "([BII)V"⟩
abbrev cJ2_putCharSB_b72d1 : ByteArray := prog_31_method_71_code
def yJ2_putCharSB_b72d1 : MethodName := ⟨RJ2, "putCharSB", "([BII)V"⟩
abbrev cJ2_getChars_46870 : ByteArray := prog_31_method_77_code
def yJ2_getChars_46870 : MethodName := ⟨RJ2, "getChars", "(III[B)I"⟩
abbrev cJ2_putCharsAt_cd4e5 : ByteArray := prog_31_method_81_code
def yJ2_putCharsAt_cd4e5 : MethodName := ⟨RJ2, "putCharsAt", "([BICCCC)I"⟩
abbrev cJ2_charAt_3b067 : ByteArray := prog_31_method_83_code
def yJ2_charAt_3b067 : MethodName := ⟨RJ2, "charAt", "([BI)C"⟩
abbrev cJ2_inflate_0e8fd : ByteArray := prog_31_method_86_code
def yJ2_inflate_0e8fd : MethodName := ⟨RJ2, "inflate", "([BI[BII)V"⟩
abbrev cJ2_getChars_ba4f3 : ByteArray := prog_31_method_89_code
def yJ2_getChars_ba4f3 : MethodName := ⟨RJ2, "getChars", "(II[B)I"⟩
abbrev cJ2_checkIndex_2214a : ByteArray := prog_31_method_91_code
def yJ2_checkIndex_2214a : MethodName := ⟨RJ2, "checkIndex", "(I[B)V"⟩
abbrev cJ2_checkBoundsBeginEnd_d044e : ByteArray := prog_31_method_93_code
def yJ2_checkBoundsBeginEnd_d044e : MethodName := ⟨RJ2, "checkBoundsBeginEnd", "(II[B)V"⟩
abbrev cJ2_checkBoundsOffCount_d044e : ByteArray := prog_31_method_94_code
def yJ2_checkBoundsOffCount_d044e : MethodName := ⟨RJ2, "checkBoundsOffCount", "(II[B)V"⟩
def RJ10 : String := "java/lang/System"
def TJ10 : u_T := fun k => match k with
  | _ => ("", "", "", false)
def tyJ10 : Nat → FieldType := fun k => match k with
  | _ => .int
abbrev wsJ100 : List Cond := u_ws RJ10 TJ10 0
theorem nmJ10 : ∀ a, a < 0 → ∀ b, b < 0 → a ≠ b → (TJ10 a).2.1 ≠ (TJ10 b).2.1 := by decide +kernel
theorem tyJ10_ok : ∀ k, k < 0 → parseFieldDescriptor (TJ10 k).2.2.1 = some (tyJ10 k) := by decide +kernel
def RJxfd54e : String := "java/lang/constant/Constable"
def TJxfd54e : u_T := fun k => match k with
  | _ => ("", "", "", false)
def tyJxfd54e : Nat → FieldType := fun k => match k with
  | _ => .int
abbrev wsJxfd54e0 : List Cond := u_ws RJxfd54e TJxfd54e 0
theorem nmJxfd54e : ∀ a, a < 0 → ∀ b, b < 0 → a ≠ b → (TJxfd54e a).2.1 ≠ (TJxfd54e b).2.1 := by decide +kernel
theorem tyJxfd54e_ok : ∀ k, k < 0 → parseFieldDescriptor (TJxfd54e k).2.2.1 = some (tyJxfd54e k) := by decide +kernel
def RJx3cf43 : String := "java/lang/constant/ConstantDesc"
def TJx3cf43 : u_T := fun k => match k with
  | _ => ("", "", "", false)
def tyJx3cf43 : Nat → FieldType := fun k => match k with
  | _ => .int
abbrev wsJx3cf430 : List Cond := u_ws RJx3cf43 TJx3cf43 0
theorem nmJx3cf43 : ∀ a, a < 0 → ∀ b, b < 0 → a ≠ b → (TJx3cf43 a).2.1 ≠ (TJx3cf43 b).2.1 := by decide +kernel
theorem tyJx3cf43_ok : ∀ k, k < 0 → parseFieldDescriptor (TJx3cf43 k).2.2.1 = some (tyJx3cf43 k) := by decide +kernel
def RJ7 : String := "java/util/Arrays"
def TJ7 : u_T := fun k => match k with
  | _ => ("", "", "", false)
def tyJ7 : Nat → FieldType := fun k => match k with
  | _ => .int
abbrev wsJ70 : List Cond := u_ws RJ7 TJ7 0
theorem nmJ7 : ∀ a, a < 0 → ∀ b, b < 0 → a ≠ b → (TJ7 a).2.1 ≠ (TJ7 b).2.1 := by decide +kernel
theorem tyJ7_ok : ∀ k, k < 0 → parseFieldDescriptor (TJ7 k).2.2.1 = some (tyJ7 k) := by decide +kernel
abbrev cJ7_rangeCheck_23922 : ByteArray := prog_37_method_30_code
def yJ7_rangeCheck_23922 : MethodName := ⟨RJ7, "rangeCheck", "(III)V"⟩
abbrev cJ7_fill_eb02e : ByteArray := prog_37_method_110_code
def yJ7_fill_eb02e : MethodName := ⟨RJ7, "fill", "([BIIB)V"⟩
abbrev cJ7_copyOf_9075b : ByteArray := prog_37_method_121_code
def yJ7_copyOf_9075b : MethodName := ⟨RJ7, "copyOf", "([BI)[B"⟩
abbrev cJ7_checkLength_df160 : ByteArray := prog_37_method_131_code
def yJ7_checkLength_df160 : MethodName := ⟨RJ7, "checkLength", "(II)V"⟩
abbrev cJ7_copyOfRange_39247 : ByteArray := prog_37_method_132_code
def yJ7_copyOfRange_39247 : MethodName := ⟨RJ7, "copyOfRange", "([BII)[B"⟩
abbrev cJ7_copyOfRangeByte_39247 : ByteArray := prog_37_method_133_code
def yJ7_copyOfRangeByte_39247 : MethodName := ⟨RJ7, "copyOfRangeByte", "([BII)[B"⟩
def RJ8 : String := "jdk/internal/util/ArraysSupport"
def TJ8 : u_T := fun k => match k with
  | _ => ("", "", "", false)
def tyJ8 : Nat → FieldType := fun k => match k with
  | _ => .int
abbrev wsJ80 : List Cond := u_ws RJ8 TJ8 0
theorem nmJ8 : ∀ a, a < 0 → ∀ b, b < 0 → a ≠ b → (TJ8 a).2.1 ≠ (TJ8 b).2.1 := by decide +kernel
theorem tyJ8_ok : ∀ k, k < 0 → parseFieldDescriptor (TJ8 k).2.2.1 = some (tyJ8 k) := by decide +kernel
abbrev cJ8_newLength_cabcc : ByteArray := prog_39_method_27_code
def yJ8_newLength_cabcc : MethodName := ⟨RJ8, "newLength", "(III)I"⟩
abbrev cJ8_hugeLength_7cf53 : ByteArray := prog_39_method_28_code
def yJ8_hugeLength_7cf53 : MethodName := ⟨RJ8, "hugeLength", "(II)I"⟩
def RJ3 : String := "jdk/internal/util/Preconditions"
def TJ3 : u_T := fun k => match k with
  | _ => ("", "", "", false)
def tyJ3 : Nat → FieldType := fun k => match k with
  | _ => .int
abbrev wsJ30 : List Cond := u_ws RJ3 TJ3 0
theorem nmJ3 : ∀ a, a < 0 → ∀ b, b < 0 → a ≠ b → (TJ3 a).2.1 ≠ (TJ3 b).2.1 := by decide +kernel
theorem tyJ3_ok : ∀ k, k < 0 → parseFieldDescriptor (TJ3 k).2.2.1 = some (tyJ3 k) := by decide +kernel
abbrev cJ3_checkIndex_8e157 : ByteArray := prog_40_method_11_code
def yJ3_checkIndex_8e157 : MethodName := ⟨RJ3, "checkIndex", "(IILjava/util/function/BiFunction;)I"⟩
abbrev cJ3_checkFromToIndex_8c36e : ByteArray := prog_40_method_12_code
def yJ3_checkFromToIndex_8c36e : MethodName := ⟨RJ3, "checkFromToIndex", "(IIILjava/util/function/BiFunction;)I"⟩
abbrev cJ3_checkFromIndexSize_8c36e : ByteArray := prog_40_method_13_code
def yJ3_checkFromIndexSize_8c36e : MethodName := ⟨RJ3, "checkFromIndexSize", "(IIILjava/util/function/BiFunction;)I"⟩
def RL : String := "ScrollChecksLaw"
abbrev cL_cell : ByteArray := method_2_code
def yL_cell : MethodName := ⟨RL, "cell", "([II)I"⟩
abbrev cL_scroll : ByteArray := method_3_code
def yL_scroll : MethodName := ⟨RL, "scroll", "(LScrollChecks;II)I"⟩
abbrev cL_of : ByteArray := method_4_code
def yL_of : MethodName := ⟨RL, "of", "(LScrollChecks;II)I"⟩
abbrev cL_write : ByteArray := method_5_code
def yL_write : MethodName := ⟨RL, "write", "(LScrollChecks;IIII)I"⟩
abbrev cL_sign : ByteArray := method_6_code
def yL_sign : MethodName := ⟨RL, "sign", "(LScrollChecks;III)I"⟩
abbrev cL_seal : ByteArray := method_7_code
def yL_seal : MethodName := ⟨RL, "seal", "(LScrollChecks;I)I"⟩
abbrev cL_copy : ByteArray := method_8_code
def yL_copy : MethodName := ⟨RL, "copy", "(LScrollChecks;I)I"⟩
abbrev cL_slip : ByteArray := method_9_code
def yL_slip : MethodName := ⟨RL, "slip", "(LScrollChecks;IIII)I"⟩
abbrev cL_smudge : ByteArray := method_10_code
def yL_smudge : MethodName := ⟨RL, "smudge", "(LScrollChecks;III)I"⟩
abbrev cL_rowSum : ByteArray := method_11_code
def yL_rowSum : MethodName := ⟨RL, "rowSum", "(LScrollChecks;II)I"⟩
abbrev cL_columnSum : ByteArray := method_12_code
def yL_columnSum : MethodName := ⟨RL, "columnSum", "(LScrollChecks;II)I"⟩
abbrev cL_rowFault : ByteArray := method_13_code
def yL_rowFault : MethodName := ⟨RL, "rowFault", "(LScrollChecks;II)I"⟩
abbrev cL_columnFault : ByteArray := method_14_code
def yL_columnFault : MethodName := ⟨RL, "columnFault", "(LScrollChecks;II)I"⟩
abbrev cL_wrongRows : ByteArray := method_15_code
def yL_wrongRows : MethodName := ⟨RL, "wrongRows", "(LScrollChecks;I)I"⟩
abbrev cL_wrongColumns : ByteArray := method_16_code
def yL_wrongColumns : MethodName := ⟨RL, "wrongColumns", "(LScrollChecks;I)I"⟩
abbrev cL_doubt : ByteArray := method_17_code
def yL_doubt : MethodName := ⟨RL, "doubt", "(LScrollChecks;III)I"⟩
abbrev cL_doubts : ByteArray := method_18_code
def yL_doubts : MethodName := ⟨RL, "doubts", "(LScrollChecks;I)I"⟩
abbrev cL_doubtsAgain : ByteArray := method_19_code
def yL_doubtsAgain : MethodName := ⟨RL, "doubtsAgain", "(LScrollChecks;I)I"⟩
abbrev cL_mend : ByteArray := method_20_code
def yL_mend : MethodName := ⟨RL, "mend", "(LScrollChecks;I)I"⟩
abbrev cL_wouldMend : ByteArray := method_21_code
def yL_wouldMend : MethodName := ⟨RL, "wouldMend", "(LScrollChecks;I)I"⟩
abbrev cL_mendAgain : ByteArray := method_22_code
def yL_mendAgain : MethodName := ⟨RL, "mendAgain", "(LScrollChecks;I)I"⟩
abbrev cL_fill : ByteArray := method_23_code
def yL_fill : MethodName := ⟨RL, "fill", "(LScrollChecks;I)I"⟩
abbrev cL_wouldFill : ByteArray := method_24_code
def yL_wouldFill : MethodName := ⟨RL, "wouldFill", "(LScrollChecks;III)I"⟩
abbrev cL_differ : ByteArray := method_25_code
def yL_differ : MethodName := ⟨RL, "differ", "(LScrollChecks;II)I"⟩
abbrev cL_ranked : ByteArray := method_26_code
def yL_ranked : MethodName := ⟨RL, "ranked", "(LScrollChecks;I)I"⟩
abbrev cL_count : ByteArray := method_27_code
def yL_count : MethodName := ⟨RL, "count", "(LScrollChecks;II)I"⟩
abbrev cL_line : ByteArray := method_28_code
def yL_line : MethodName := ⟨RL, "line", "(LScrollChecks;II)I"⟩
abbrev cL_append : ByteArray := method_29_code
def yL_append : MethodName := ⟨RL, "append", "(LScrollChecks;C)I"⟩
abbrev cL_reads : ByteArray := method_30_code
def yL_reads : MethodName := ⟨RL, "reads", "(LScrollChecks;)I"⟩
abbrev cL_read : ByteArray := method_31_code
def yL_read : MethodName := ⟨RL, "read", "(LScrollChecks;Ljava/lang/String;)I"⟩
abbrev cL_refusal : ByteArray := method_32_code
def yL_refusal : MethodName := ⟨RL, "refusal", "(LScrollChecks;Z)I"⟩
abbrev cL_undo : ByteArray := method_33_code
def yL_undo : MethodName := ⟨RL, "undo", "(LScrollChecks;)I"⟩
abbrev cL_drawn : ByteArray := method_34_code
def yL_drawn : MethodName := ⟨RL, "drawn", "([I)LScrollChecks;"⟩
abbrev cL_law : ByteArray := code
def yL_law : MethodName := ⟨RL, "law", "([I)Z"⟩
abbrev cL_now : ByteArray := method_36_code
def yL_now : MethodName := ⟨RL, "now", "(LScrollChecks;IZI)I"⟩
abbrev cL_isSmudged : ByteArray := method_37_code
def yL_isSmudged : MethodName := ⟨RL, "isSmudged", "(LScrollChecks;IZI)Z"⟩
abbrev cL_isWrong : ByteArray := method_38_code
def yL_isWrong : MethodName := ⟨RL, "isWrong", "(LScrollChecks;IZI)Z"⟩
abbrev cL_sums : ByteArray := method_39_code
def yL_sums : MethodName := ⟨RL, "sums", "(LScrollChecks;I)Z"⟩
abbrev cL_told : ByteArray := method_40_code
def yL_told : MethodName := ⟨RL, "told", "(LScrollChecks;I)Z"⟩
abbrev cL_fills : ByteArray := method_41_code
def yL_fills : MethodName := ⟨RL, "fills", "(LScrollChecks;I)Z"⟩
abbrev cL_accounts : ByteArray := method_42_code
def yL_accounts : MethodName := ⟨RL, "accounts", "(LScrollChecks;)Z"⟩
abbrev cL_ranks : ByteArray := method_43_code
def yL_ranks : MethodName := ⟨RL, "ranks", "(LScrollChecks;)Z"⟩
abbrev cL_sum : ByteArray := method_44_code
def yL_sum : MethodName := ⟨RL, "sum", "(LScrollChecks;)J"⟩
abbrev cL_undone : ByteArray := method_45_code
def yL_undone : MethodName := ⟨RL, "undone", "([ILScrollChecks;)Z"⟩
abbrev vwCl : List vw_C := [(RJ0, TJ0, 4), (RJ4, TJ4, 4), (RJx00060, TJx00060, 6), (RJx7c733, TJx7c733, 6), (RX2, TX2, 2), (RX3, TX3, 2), (RX4, TX4, 10), (RX5, TX5, 6), (RX6, TX6, 11)]
