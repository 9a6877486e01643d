/-! ===== BEGIN printed: names, fields, word lists, decode rows ===== -/
def RX0 : String := "GrindField$Checker"
def TX0 : u_T := fun k => match k with
  | 0 => ("GrindField$Checker", "heights", "[I", true)
  | 1 => ("GrindField$Checker", "reached", "[I", true)
  | _ => ("GrindField$Checker", "reachedCount", "I", false)
def tyX0 : Nat → FieldType := fun k => match k with
  | 0 => .array .int
  | 1 => .array .int
  | _ => .int
abbrev wsX00 : List Cond := u_ws RX0 TX0 3
theorem nmX0 : ∀ a, a < 3 → ∀ b, b < 3 → a ≠ b → (TX0 a).2.1 ≠ (TX0 b).2.1 := by decide +kernel
theorem tyX0_ok : ∀ k, k < 3 → parseFieldDescriptor (TX0 k).2.2.1 = some (tyX0 k) := by decide +kernel
abbrev cX0_init : ByteArray := prog_2_method_1_code
def yX0_init : MethodName := ⟨RX0, "<init>", "()V"⟩
abbrev cX0_firstWrong : ByteArray := prog_2_method_2_code
def yX0_firstWrong : MethodName := ⟨RX0, "firstWrong", "(LGrindField$Program;)I"⟩
abbrev cX0_walk : ByteArray := prog_2_method_3_code
def yX0_walk : MethodName := ⟨RX0, "walk", "(LGrindField$Program;)V"⟩
abbrev cX0_goOn : ByteArray := prog_2_method_4_code
def yX0_goOn : MethodName := ⟨RX0, "goOn", "(LGrindField$Program;II)V"⟩
abbrev cX0_reach : ByteArray := prog_2_method_5_code
def yX0_reach : MethodName := ⟨RX0, "reach", "(II)V"⟩
abbrev cX0_hasHeight : ByteArray := prog_2_method_6_code
def yX0_hasHeight : MethodName := ⟨RX0, "hasHeight", "(II)Z"⟩
abbrev cX0_isWrong : ByteArray := prog_2_method_7_code
def yX0_isWrong : MethodName := ⟨RX0, "isWrong", "(LGrindField$Program;I)Z"⟩
abbrev cX0_fitsEveryHeight : ByteArray := prog_2_method_8_code
def yX0_fitsEveryHeight : MethodName := ⟨RX0, "fitsEveryHeight", "(LGrindField$Program;I)Z"⟩
abbrev cX0_fits : ByteArray := prog_2_method_9_code
def yX0_fits : MethodName := ⟨RX0, "fits", "(LGrindField$Program;II)Z"⟩
abbrev cX0_isMisformed : ByteArray := prog_2_method_10_code
def yX0_isMisformed : MethodName := ⟨RX0, "isMisformed", "(LGrindField$Program;I)Z"⟩
abbrev cX0_lacksNext : ByteArray := prog_2_method_11_code
def yX0_lacksNext : MethodName := ⟨RX0, "lacksNext", "(LGrindField$Program;I)Z"⟩
abbrev cX0_hasNext : ByteArray := prog_2_method_12_code
def yX0_hasNext : MethodName := ⟨RX0, "hasNext", "(I)Z"⟩
def RX1 : String := "GrindField$Job"
def TX1 : u_T := fun k => match k with
  | 0 => ("GrindField$Job", "machine", "LGrindField$Machine;", true)
  | 1 => ("GrindField$Job", "splitEnds", "[I", true)
  | 2 => ("GrindField$Job", "splitTable", "LGrindField$KeyTable;", true)
  | 3 => ("GrindField$Job", "joined", "LGrindField$PairRow;", true)
  | 4 => ("GrindField$Job", "results", "LGrindField$KeyTable;", true)
  | _ => ("GrindField$Job", "counts", "[I", true)
def tyX1 : Nat → FieldType := fun k => match k with
  | 0 => .object "GrindField$Machine"
  | 1 => .array .int
  | 2 => .object "GrindField$KeyTable"
  | 3 => .object "GrindField$PairRow"
  | 4 => .object "GrindField$KeyTable"
  | _ => .array .int
abbrev wsX10 : List Cond := u_ws RX1 TX1 6
theorem nmX1 : ∀ a, a < 6 → ∀ b, b < 6 → a ≠ b → (TX1 a).2.1 ≠ (TX1 b).2.1 := by decide +kernel
theorem tyX1_ok : ∀ k, k < 6 → parseFieldDescriptor (TX1 k).2.2.1 = some (tyX1 k) := by decide +kernel
abbrev cX1_init : ByteArray := prog_3_method_1_code
def yX1_init : MethodName := ⟨RX1, "<init>", "()V"⟩
abbrev cX1_perform : ByteArray := prog_3_method_2_code
def yX1_perform : MethodName := ⟨RX1, "perform", "([LGrindField$Program;LGrindField$PairRow;I)I"⟩
abbrev cX1_forget : ByteArray := prog_3_method_3_code
def yX1_forget : MethodName := ⟨RX1, "forget", "(I)V"⟩
abbrev cX1_mapRecords : ByteArray := prog_3_method_4_code
def yX1_mapRecords : MethodName := ⟨RX1, "mapRecords", "(LGrindField$Program;LGrindField$PairRow;I)I"⟩
abbrev cX1_joinSplits : ByteArray := prog_3_method_5_code
def yX1_joinSplits : MethodName := ⟨RX1, "joinSplits", "(LGrindField$Program;I)I"⟩
abbrev cX1_foldValues : ByteArray := prog_3_method_6_code
def yX1_foldValues : MethodName := ⟨RX1, "foldValues", "(LGrindField$Program;LGrindField$PairRow;)I"⟩
abbrev cX1_merge : ByteArray := prog_3_method_7_code
def yX1_merge : MethodName := ⟨RX1, "merge", "(LGrindField$Program;LGrindField$KeyTable;LGrindField$PairRow;II)Z"⟩
abbrev cX1_endKeys : ByteArray := prog_3_method_8_code
def yX1_endKeys : MethodName := ⟨RX1, "endKeys", "(LGrindField$Program;)I"⟩
def RX2 : String := "GrindField$KeyTable"
def TX2 : u_T := fun k => match k with
  | 0 => ("GrindField$KeyTable", "keys", "[I", true)
  | 1 => ("GrindField$KeyTable", "values", "[I", true)
  | _ => ("GrindField$KeyTable", "length", "I", false)
def tyX2 : Nat → FieldType := fun k => match k with
  | 0 => .array .int
  | 1 => .array .int
  | _ => .int
abbrev wsX20 : List Cond := u_ws RX2 TX2 3
theorem nmX2 : ∀ a, a < 3 → ∀ b, b < 3 → a ≠ b → (TX2 a).2.1 ≠ (TX2 b).2.1 := by decide +kernel
theorem tyX2_ok : ∀ k, k < 3 → parseFieldDescriptor (TX2 k).2.2.1 = some (tyX2 k) := by decide +kernel
abbrev cX2_init : ByteArray := prog_4_method_1_code
def yX2_init : MethodName := ⟨RX2, "<init>", "()V"⟩
abbrev cX2_placeOf : ByteArray := prog_4_method_2_code
def yX2_placeOf : MethodName := ⟨RX2, "placeOf", "(I)I"⟩
abbrev cX2_holds : ByteArray := prog_4_method_3_code
def yX2_holds : MethodName := ⟨RX2, "holds", "(II)Z"⟩
abbrev cX2_insert : ByteArray := prog_4_method_4_code
def yX2_insert : MethodName := ⟨RX2, "insert", "(III)V"⟩
def RX3 : String := "GrindField$Machine"
def TX3 : u_T := fun k => match k with
  | 0 => ("GrindField$Machine", "arguments", "[I", true)
  | 1 => ("GrindField$Machine", "locals", "[I", true)
  | 2 => ("GrindField$Machine", "stack", "[I", true)
  | 3 => ("GrindField$Machine", "height", "I", false)
  | 4 => ("GrindField$Machine", "answer", "I", false)
  | 5 => ("GrindField$Machine", "pairs", "LGrindField$PairRow;", true)
  | 6 => ("GrindField$Machine", "emitted", "I", false)
  | _ => ("GrindField$Machine", "steps", "[I", true)
def tyX3 : Nat → FieldType := fun k => match k with
  | 0 => .array .int
  | 1 => .array .int
  | 2 => .array .int
  | 3 => .int
  | 4 => .int
  | 5 => .object "GrindField$PairRow"
  | 6 => .int
  | _ => .array .int
abbrev wsX30 : List Cond := u_ws RX3 TX3 8
theorem nmX3 : ∀ a, a < 8 → ∀ b, b < 8 → a ≠ b → (TX3 a).2.1 ≠ (TX3 b).2.1 := by decide +kernel
theorem tyX3_ok : ∀ k, k < 8 → parseFieldDescriptor (TX3 k).2.2.1 = some (tyX3 k) := by decide +kernel
abbrev cX3_init : ByteArray := prog_5_method_1_code
def yX3_init : MethodName := ⟨RX3, "<init>", "()V"⟩
abbrev cX3_forget : ByteArray := prog_5_method_2_code
def yX3_forget : MethodName := ⟨RX3, "forget", "()V"⟩
abbrev cX3_call : ByteArray := prog_5_method_3_code
def yX3_call : MethodName := ⟨RX3, "call", "(LGrindField$Program;III)I"⟩
abbrev cX3_begin : ByteArray := prog_5_method_4_code
def yX3_begin : MethodName := ⟨RX3, "begin", "(III)V"⟩
abbrev cX3_jump : ByteArray := prog_5_method_5_code
def yX3_jump : MethodName := ⟨RX3, "jump", "(III)I"⟩
abbrev cX3_combine : ByteArray := prog_5_method_6_code
def yX3_combine : MethodName := ⟨RX3, "combine", "(I)V"⟩
abbrev cX3_combined : ByteArray := prog_5_method_7_code
def yX3_combined : MethodName := ⟨RX3, "combined", "(III)I"⟩
abbrev cX3_move : ByteArray := prog_5_method_8_code
def yX3_move : MethodName := ⟨RX3, "move", "(II)V"⟩
abbrev cX3_emit : ByteArray := prog_5_method_9_code
def yX3_emit : MethodName := ⟨RX3, "emit", "()V"⟩
abbrev cX3_store : ByteArray := prog_5_method_10_code
def yX3_store : MethodName := ⟨RX3, "store", "(II)V"⟩
abbrev cX3_push : ByteArray := prog_5_method_11_code
def yX3_push : MethodName := ⟨RX3, "push", "(I)V"⟩
abbrev cX3_pop : ByteArray := prog_5_method_12_code
def yX3_pop : MethodName := ⟨RX3, "pop", "()I"⟩
def RX4 : String := "GrindField$PairRow"
def TX4 : u_T := fun k => match k with
  | 0 => ("GrindField$PairRow", "keys", "[I", true)
  | 1 => ("GrindField$PairRow", "values", "[I", true)
  | _ => ("GrindField$PairRow", "length", "I", false)
def tyX4 : Nat → FieldType := fun k => match k with
  | 0 => .array .int
  | 1 => .array .int
  | _ => .int
abbrev wsX40 : List Cond := u_ws RX4 TX4 3
theorem nmX4 : ∀ a, a < 3 → ∀ b, b < 3 → a ≠ b → (TX4 a).2.1 ≠ (TX4 b).2.1 := by decide +kernel
theorem tyX4_ok : ∀ k, k < 3 → parseFieldDescriptor (TX4 k).2.2.1 = some (tyX4 k) := by decide +kernel
abbrev cX4_init : ByteArray := prog_6_method_1_code
def yX4_init : MethodName := ⟨RX4, "<init>", "(I)V"⟩
abbrev cX4_append : ByteArray := prog_6_method_2_code
def yX4_append : MethodName := ⟨RX4, "append", "(II)Z"⟩
abbrev cX4_appendAll : ByteArray := prog_6_method_3_code
def yX4_appendAll : MethodName := ⟨RX4, "appendAll", "(LGrindField$KeyTable;)V"⟩
def RX5 : String := "GrindField$Program"
def TX5 : u_T := fun k => match k with
  | 0 => ("GrindField$Program", "kind", "I", true)
  | 1 => ("GrindField$Program", "ops", "[I", true)
  | 2 => ("GrindField$Program", "ns", "[I", true)
  | _ => ("GrindField$Program", "length", "I", false)
def tyX5 : Nat → FieldType := fun k => match k with
  | 0 => .int
  | 1 => .array .int
  | 2 => .array .int
  | _ => .int
abbrev wsX50 : List Cond := u_ws RX5 TX5 4
theorem nmX5 : ∀ a, a < 4 → ∀ b, b < 4 → a ≠ b → (TX5 a).2.1 ≠ (TX5 b).2.1 := by decide +kernel
theorem tyX5_ok : ∀ k, k < 4 → parseFieldDescriptor (TX5 k).2.2.1 = some (tyX5 k) := by decide +kernel
abbrev cX5_init : ByteArray := prog_7_method_1_code
def yX5_init : MethodName := ⟨RX5, "<init>", "(I)V"⟩
abbrev cX5_append : ByteArray := prog_7_method_2_code
def yX5_append : MethodName := ⟨RX5, "append", "(II)I"⟩
abbrev cX5_has : ByteArray := prog_7_method_3_code
def yX5_has : MethodName := ⟨RX5, "has", "(I)Z"⟩
abbrev cX5_argumentCount : ByteArray := prog_7_method_4_code
def yX5_argumentCount : MethodName := ⟨RX5, "argumentCount", "()I"⟩
def RX6 : String := "GrindField"
def TX6 : u_T := fun k => match k with
  | 0 => ("GrindField", "size", "I", true)
  | 1 => ("GrindField", "records", "LGrindField$PairRow;", true)
  | 2 => ("GrindField", "programs", "[LGrindField$Program;", true)
  | 3 => ("GrindField", "checker", "LGrindField$Checker;", true)
  | _ => ("GrindField", "job", "LGrindField$Job;", true)
def tyX6 : Nat → FieldType := fun k => match k with
  | 0 => .int
  | 1 => .object "GrindField$PairRow"
  | 2 => .array (.object "GrindField$Program")
  | 3 => .object "GrindField$Checker"
  | _ => .object "GrindField$Job"
abbrev wsX60 : List Cond := u_ws RX6 TX6 5
theorem nmX6 : ∀ a, a < 5 → ∀ b, b < 5 → a ≠ b → (TX6 a).2.1 ≠ (TX6 b).2.1 := by decide +kernel
theorem tyX6_ok : ∀ k, k < 5 → parseFieldDescriptor (TX6 k).2.2.1 = some (tyX6 k) := by decide +kernel
abbrev cX6_init : ByteArray := prog_1_method_1_code
def yX6_init : MethodName := ⟨RX6, "<init>", "(III)V"⟩
abbrev cX6_record : ByteArray := prog_1_method_2_code
def yX6_record : MethodName := ⟨RX6, "record", "(II)I"⟩
abbrev cX6_wipe : ByteArray := prog_1_method_3_code
def yX6_wipe : MethodName := ⟨RX6, "wipe", "()I"⟩
abbrev cX6_code : ByteArray := prog_1_method_4_code
def yX6_code : MethodName := ⟨RX6, "code", "(III)I"⟩
abbrev cX6_clear : ByteArray := prog_1_method_5_code
def yX6_clear : MethodName := ⟨RX6, "clear", "(I)I"⟩
abbrev cX6_check : ByteArray := prog_1_method_6_code
def yX6_check : MethodName := ⟨RX6, "check", "(I)I"⟩
abbrev cX6_run : ByteArray := prog_1_method_7_code
def yX6_run : MethodName := ⟨RX6, "run", "(I)I"⟩
abbrev cX6_result : ByteArray := prog_1_method_8_code
def yX6_result : MethodName := ⟨RX6, "result", "(II)J"⟩
abbrev cX6_valueOf : ByteArray := prog_1_method_9_code
def yX6_valueOf : MethodName := ⟨RX6, "valueOf", "(I)J"⟩
abbrev cX6_count : ByteArray := prog_1_method_10_code
def yX6_count : MethodName := ⟨RX6, "count", "(I)I"⟩
abbrev cX6_isProgram : ByteArray := prog_1_method_11_code
def yX6_isProgram : MethodName := ⟨RX6, "isProgram", "(I)Z"⟩
abbrev cX6_isJump : ByteArray := prog_1_method_12_code
def yX6_isJump : MethodName := ⟨RX6, "isJump", "(I)Z"⟩
abbrev cX6_isCombination : ByteArray := prog_1_method_13_code
def yX6_isCombination : MethodName := ⟨RX6, "isCombination", "(I)Z"⟩
abbrev cX6_isGood : ByteArray := prog_1_method_14_code
def yX6_isGood : MethodName := ⟨RX6, "isGood", "(I)Z"⟩
abbrev cX6_isGoodOrEmpty : ByteArray := prog_1_method_15_code
def yX6_isGoodOrEmpty : MethodName := ⟨RX6, "isGoodOrEmpty", "(I)Z"⟩
def RX7 : String := "GrindFieldModel"
def TX7 : u_T := fun k => match k with
  | 0 => ("GrindFieldModel", "size", "I", true)
  | 1 => ("GrindFieldModel", "recordKey", "[I", true)
  | 2 => ("GrindFieldModel", "recordValue", "[I", true)
  | 3 => ("GrindFieldModel", "records", "I", false)
  | 4 => ("GrindFieldModel", "op", "[[I", true)
  | 5 => ("GrindFieldModel", "number", "[[I", true)
  | 6 => ("GrindFieldModel", "length", "[I", true)
  | 7 => ("GrindFieldModel", "key", "[I", true)
  | 8 => ("GrindFieldModel", "value", "[I", true)
  | 9 => ("GrindFieldModel", "split", "[I", true)
  | 10 => ("GrindFieldModel", "pairs", "I", false)
  | 11 => ("GrindFieldModel", "resultKey", "[I", true)
  | 12 => ("GrindFieldModel", "resultValue", "[I", true)
  | 13 => ("GrindFieldModel", "results", "I", false)
  | 14 => ("GrindFieldModel", "error", "I", false)
  | 15 => ("GrindFieldModel", "told", "[I", true)
  | 16 => ("GrindFieldModel", "stack", "[I", true)
  | 17 => ("GrindFieldModel", "local", "[I", true)
  | 18 => ("GrindFieldModel", "steps", "I", false)
  | 19 => ("GrindFieldModel", "result", "I", false)
  | _ => ("GrindFieldModel", "without", "Z", false)
def tyX7 : Nat → FieldType := fun k => match k with
  | 0 => .int
  | 1 => .array .int
  | 2 => .array .int
  | 3 => .int
  | 4 => .array (.array .int)
  | 5 => .array (.array .int)
  | 6 => .array .int
  | 7 => .array .int
  | 8 => .array .int
  | 9 => .array .int
  | 10 => .int
  | 11 => .array .int
  | 12 => .array .int
  | 13 => .int
  | 14 => .int
  | 15 => .array .int
  | 16 => .array .int
  | 17 => .array .int
  | 18 => .int
  | 19 => .int
  | _ => .boolean
abbrev wsX70 : List Cond := u_ws RX7 TX7 21
theorem nmX7 : ∀ a, a < 21 → ∀ b, b < 21 → a ≠ b → (TX7 a).2.1 ≠ (TX7 b).2.1 := by decide +kernel
theorem tyX7_ok : ∀ k, k < 21 → parseFieldDescriptor (TX7 k).2.2.1 = some (tyX7 k) := by decide +kernel
abbrev cX7_init : ByteArray := prog_9_method_1_code
def yX7_init : MethodName := ⟨RX7, "<init>", "(III)V"⟩
abbrev cX7_record : ByteArray := prog_9_method_2_code
def yX7_record : MethodName := ⟨RX7, "record", "(II)I"⟩
abbrev cX7_wipe : ByteArray := prog_9_method_3_code
def yX7_wipe : MethodName := ⟨RX7, "wipe", "()I"⟩
abbrev cX7_is : ByteArray := prog_9_method_4_code
def yX7_is : MethodName := ⟨RX7, "is", "(I)Z"⟩
abbrev cX7_code : ByteArray := prog_9_method_5_code
def yX7_code : MethodName := ⟨RX7, "code", "(III)I"⟩
abbrev cX7_clear : ByteArray := prog_9_method_6_code
def yX7_clear : MethodName := ⟨RX7, "clear", "(I)I"⟩
abbrev cX7_isBad : ByteArray := prog_9_method_7_code
def yX7_isBad : MethodName := ⟨RX7, "isBad", "(II)Z"⟩
abbrev cX7_needs : ByteArray := prog_9_method_8_code
def yX7_needs : MethodName := ⟨RX7, "needs", "(II)I"⟩
abbrev cX7_grows : ByteArray := prog_9_method_9_code
def yX7_grows : MethodName := ⟨RX7, "grows", "(I)I"⟩
abbrev cX7_firstWrong : ByteArray := prog_9_method_10_code
def yX7_firstWrong : MethodName := ⟨RX7, "firstWrong", "(I)I"⟩
abbrev cX7_check : ByteArray := prog_9_method_11_code
def yX7_check : MethodName := ⟨RX7, "check", "(I)I"⟩
abbrev cX7_reckoned : ByteArray := prog_9_method_12_code
def yX7_reckoned : MethodName := ⟨RX7, "reckoned", "(III)I"⟩
abbrev cX7_call : ByteArray := prog_9_method_13_code
def yX7_call : MethodName := ⟨RX7, "call", "(IIIII)Z"⟩
abbrev cX7_good : ByteArray := prog_9_method_14_code
def yX7_good : MethodName := ⟨RX7, "good", "(IZ)Z"⟩
abbrev cX7_map : ByteArray := prog_9_method_15_code
def yX7_map : MethodName := ⟨RX7, "map", "()Z"⟩
abbrev cX7_join : ByteArray := prog_9_method_16_code
def yX7_join : MethodName := ⟨RX7, "join", "()Z"⟩
abbrev cX7_fold : ByteArray := prog_9_method_17_code
def yX7_fold : MethodName := ⟨RX7, "fold", "()Z"⟩
abbrev cX7_end : ByteArray := prog_9_method_18_code
def yX7_end : MethodName := ⟨RX7, "end", "()Z"⟩
abbrev cX7_done : ByteArray := prog_9_method_19_code
def yX7_done : MethodName := ⟨RX7, "done", "()Z"⟩
abbrev cX7_run : ByteArray := prog_9_method_20_code
def yX7_run : MethodName := ⟨RX7, "run", "(I)I"⟩
abbrev cX7_result : ByteArray := prog_9_method_21_code
def yX7_result : MethodName := ⟨RX7, "result", "(II)J"⟩
abbrev cX7_valueOf : ByteArray := prog_9_method_22_code
def yX7_valueOf : MethodName := ⟨RX7, "valueOf", "(I)J"⟩
abbrev cX7_count : ByteArray := prog_9_method_23_code
def yX7_count : MethodName := ⟨RX7, "count", "(I)I"⟩
def RJ6 : String := "java/lang/Integer"
def TJ6 : u_T := fun k => match k with
  | _ => ("", "", "", false)
def tyJ6 : Nat → FieldType := fun k => match k with
  | _ => .int
abbrev wsJ60 : List Cond := u_ws RJ6 TJ6 0
theorem nmJ6 : ∀ a, a < 0 → ∀ b, b < 0 → a ≠ b → (TJ6 a).2.1 ≠ (TJ6 b).2.1 := by decide +kernel
theorem tyJ6_ok : ∀ k, k < 0 → parseFieldDescriptor (TJ6 k).2.2.1 = some (tyJ6 k) := by decide +kernel
abbrev cJ6_bitCount_0f7a4 : ByteArray := prog_10_method_49_code
def yJ6_bitCount_0f7a4 : MethodName := ⟨RJ6, "bitCount", "(I)I"⟩
def RJ9 : String := "java/lang/Math"
def TJ9 : u_T := fun k => match k with
  | _ => ("", "", "", false)
def tyJ9 : Nat → FieldType := fun k => match k with
  | _ => .int
abbrev wsJ90 : List Cond := u_ws RJ9 TJ9 0
theorem nmJ9 : ∀ a, a < 0 → ∀ b, b < 0 → a ≠ b → (TJ9 a).2.1 ≠ (TJ9 b).2.1 := by decide +kernel
theorem tyJ9_ok : ∀ k, k < 0 → parseFieldDescriptor (TJ9 k).2.2.1 = some (tyJ9 k) := by decide +kernel
abbrev cJ9_max_7cf53 : ByteArray := prog_11_method_65_code
def yJ9_max_7cf53 : MethodName := ⟨RJ9, "max", "(II)I"⟩
abbrev cJ9_min_7cf53 : ByteArray := prog_11_method_69_code
def yJ9_min_7cf53 : MethodName := ⟨RJ9, "min", "(II)I"⟩
def RJ10 : String := "java/lang/System"
def TJ10 : u_T := fun k => match k with
  | _ => ("", "", "", false)
def tyJ10 : Nat → FieldType := fun k => match k with
  | _ => .int
abbrev wsJ100 : List Cond := u_ws RJ10 TJ10 0
theorem nmJ10 : ∀ a, a < 0 → ∀ b, b < 0 → a ≠ b → (TJ10 a).2.1 ≠ (TJ10 b).2.1 := by decide +kernel
theorem tyJ10_ok : ∀ k, k < 0 → parseFieldDescriptor (TJ10 k).2.2.1 = some (tyJ10 k) := by decide +kernel
def RJ7 : String := "java/util/Arrays"
def TJ7 : u_T := fun k => match k with
  | _ => ("", "", "", false)
def tyJ7 : Nat → FieldType := fun k => match k with
  | _ => .int
abbrev wsJ70 : List Cond := u_ws RJ7 TJ7 0
theorem nmJ7 : ∀ a, a < 0 → ∀ b, b < 0 → a ≠ b → (TJ7 a).2.1 ≠ (TJ7 b).2.1 := by decide +kernel
theorem tyJ7_ok : ∀ k, k < 0 → parseFieldDescriptor (TJ7 k).2.2.1 = some (tyJ7 k) := by decide +kernel
abbrev cJ7_fill_53178 : ByteArray := prog_13_method_103_code
def yJ7_fill_53178 : MethodName := ⟨RJ7, "fill", "([II)V"⟩
def RL : String := "GrindFieldLaw"
abbrev cL_cell : ByteArray := method_2_code
def yL_cell : MethodName := ⟨RL, "cell", "([II)I"⟩
abbrev cL_law : ByteArray := code
def yL_law : MethodName := ⟨RL, "law", "([I)Z"⟩
abbrev vwCl : List vw_C := [(RX0, TX0, 3), (RX1, TX1, 6), (RX2, TX2, 3), (RX3, TX3, 8), (RX4, TX4, 3), (RX5, TX5, 4), (RX6, TX6, 5), (RX7, TX7, 21)]
/-- the words that stay good in a call -/
def lw_all : List Cond := lw_tbl.filter goodWord
theorem lwm (i : Nat) {w : Cond} (h : lw_tbl[i]? = some w) (hg : goodWord w = true) : w ∈ lw_all := List.mem_filter.mpr ⟨List.mem_of_getElem? h, hg⟩
theorem lwt0 (i : Nat) {w : Cond} (h : (k2_sels lw_privs)[i]? = some w) : w ∈ lw_tbl := List.mem_append_left _ (List.mem_of_getElem? h)
theorem lwt1 (i : Nat) {w : Cond} (h : tables_1_1[i]? = some w) : w ∈ lw_tbl := List.mem_append_right _ (List.mem_append_left _ (List.mem_of_getElem? h))
theorem lwt2 (i : Nat) {w : Cond} (h : tables_1_2[i]? = some w) : w ∈ lw_tbl := List.mem_append_right _ (List.mem_append_right _ (List.mem_append_left _ (List.mem_of_getElem? h)))
theorem lwt3 (i : Nat) {w : Cond} (h : tables_1_3[i]? = some w) : w ∈ lw_tbl := List.mem_append_right _ (List.mem_append_right _ (List.mem_append_right _ (List.mem_of_getElem? h)))
theorem lwm0 (i : Nat) {w : Cond} (h : (k2_sels lw_privs)[i]? = some w) (hg : goodWord w = true) : w ∈ lw_all := List.mem_filter.mpr ⟨lwt0 i h, hg⟩
theorem lwm1 (i : Nat) {w : Cond} (h : (tables_1_1)[i]? = some w) (hg : goodWord w = true) : w ∈ lw_all := List.mem_filter.mpr ⟨lwt1 i h, hg⟩
theorem lwm2 (i : Nat) {w : Cond} (h : (tables_1_2)[i]? = some w) (hg : goodWord w = true) : w ∈ lw_all := List.mem_filter.mpr ⟨lwt2 i h, hg⟩
theorem lwm3 (i : Nat) {w : Cond} (h : (tables_1_3)[i]? = some w) (hg : goodWord w = true) : w ∈ lw_all := List.mem_filter.mpr ⟨lwt3 i h, hg⟩
theorem lwt (i : Nat) {w : Cond} (h : lw_tbl[i]? = some w) : w ∈ lw_tbl := List.mem_of_getElem? h
theorem lw_in : ∀ w, w ∈ lw_all → w ∈ lw_tbl := fun _ h => (List.mem_filter.mp h).1
theorem lw_good : ∀ w, w ∈ lw_all → goodWord w = true := fun _ h => (List.mem_filter.mp h).2
/-- a method's words: its code, and the tables' -/
def zTs (y : MethodName) (b : ByteArray) (n : Nat) (r : Option FieldType) : List Cond := Cond.code y b n r :: lw_all
theorem zTs_in {y : MethodName} {b : ByteArray} {n : Nat} {r : Option FieldType} {w : Cond} (h : w ∈ lw_all) : w ∈ zTs y b n r := List.mem_cons_of_mem _ h
theorem zTs_good {Ts : List Cond} (hT : ∀ w, w ∈ lw_all → w ∈ Ts) {y : MethodName} {b : ByteArray} {n : Nat} {r : Option FieldType} (h : Cond.code y b n r ∈ lw_all) : GoodIn Ts (zTs y b n r) := by
  intro w hw
  have h1 : w ∈ lw_all := by
    rcases List.mem_cons.mp hw with rfl | hw
    · exact h
    · exact hw
  exact ⟨hT w h1, good_of_word (lw_good w h1)⟩
theorem zGI {Ts : List Cond} (hT : ∀ w, w ∈ lw_all → w ∈ Ts) {ws pre : List Cond} (hp : ∀ w, w ∈ pre → w ∈ lw_all) (h : GoodIn Ts ws) : GoodIn Ts (pre ++ ws) := by
  intro w hw
  rcases List.mem_append.mp hw with hw | hw
  · exact ⟨hT w (hp w hw), good_of_word (lw_good w (hp w hw))⟩
  · exact h w hw
theorem zGIV {Ts : List Cond} (hT : ∀ w, w ∈ lw_all → w ∈ Ts) {own C : String} {i : Nat} {y : MethodName} {b : ByteArray} {n : Nat} {r : Option FieldType} (h : Cond.code y b n r ∈ lw_all) (h1 : Cond.methodLink own i y ∈ lw_all) (h2 : Cond.instanceMethod y ∈ lw_all) (h3 : Cond.selects C y y ∈ lw_all) (h4 : Cond.initialized C ∈ lw_all) : GoodIn Ts (wsV own i C y (zTs y b n r)) :=
  zGI (pre := [.methodLink own i y, .instanceMethod y, .selects C y y, .initialized C]) hT (fun w hw => by
    simp only [List.mem_cons, List.not_mem_nil, or_false] at hw
    rcases hw with rfl | rfl | rfl | rfl <;> assumption) (zTs_good hT h)
theorem zGIS {Ts : List Cond} (hT : ∀ w, w ∈ lw_all → w ∈ Ts) {own : String} {i : Nat} {y : MethodName} {b : ByteArray} {n : Nat} {r : Option FieldType} (h : Cond.code y b n r ∈ lw_all) (h1 : Cond.methodLink own i y ∈ lw_all) (h2 : Cond.static y ∈ lw_all) (h4 : Cond.initialized y.cls ∈ lw_all) : GoodIn Ts (va_wsS own i y (zTs y b n r)) :=
  zGI (pre := [.methodLink own i y, .static y, .initialized y.cls]) hT (fun w hw => by
    simp only [List.mem_cons, List.not_mem_nil, or_false] at hw
    rcases hw with rfl | rfl | rfl <;> assumption) (zTs_good hT h)
