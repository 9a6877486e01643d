section
-- ===== PART A: goes FIRST, ahead of the names: the tables' words, and 'selects' of the private methods out of them =====
/-- a private method of a class that the tables say can be made, by its rows of tables_1 -/
def lw_okq (q : MethodName × Nat) : Prop := (q.1.cls ≠ "java/lang/invoke/MethodHandle" ∧ q.1.cls ≠ "java/lang/invoke/VarHandle") ∧ Cond.instantiable q.1.cls q.2 ∈ tables_1 ∧ Cond.privateMethod q.1 ∈ tables_1 ∧ Cond.instanceMethod q.1 ∈ tables_1
theorem lw_p0 : lw_okq (⟨"GrindField", "isGood", "(I)Z"⟩, 5) := ⟨⟨by decide +kernel, by decide +kernel⟩, List.mem_of_getElem? (i := 14) (by decide +kernel), List.mem_of_getElem? (i := 304) (by decide +kernel), List.mem_of_getElem? (i := 305) (by decide +kernel)⟩
theorem lw_p1 : lw_okq (⟨"GrindField", "isGoodOrEmpty", "(I)Z"⟩, 5) := ⟨⟨by decide +kernel, by decide +kernel⟩, List.mem_of_getElem? (i := 14) (by decide +kernel), List.mem_of_getElem? (i := 308) (by decide +kernel), List.mem_of_getElem? (i := 309) (by decide +kernel)⟩
theorem lw_p2 : lw_okq (⟨"GrindFieldModel", "firstWrong", "(I)I"⟩, 21) := ⟨⟨by decide +kernel, by decide +kernel⟩, List.mem_of_getElem? (i := 430) (by decide +kernel), List.mem_of_getElem? (i := 525) (by decide +kernel), List.mem_of_getElem? (i := 526) (by decide +kernel)⟩
theorem lw_p3 : lw_okq (⟨"GrindFieldModel", "isBad", "(II)Z"⟩, 21) := ⟨⟨by decide +kernel, by decide +kernel⟩, List.mem_of_getElem? (i := 430) (by decide +kernel), List.mem_of_getElem? (i := 529) (by decide +kernel), List.mem_of_getElem? (i := 530) (by decide +kernel)⟩
theorem lw_p4 : lw_okq (⟨"GrindFieldModel", "good", "(IZ)Z"⟩, 21) := ⟨⟨by decide +kernel, by decide +kernel⟩, List.mem_of_getElem? (i := 430) (by decide +kernel), List.mem_of_getElem? (i := 545) (by decide +kernel), List.mem_of_getElem? (i := 546) (by decide +kernel)⟩
theorem lw_p5 : lw_okq (⟨"GrindFieldModel", "done", "()Z"⟩, 21) := ⟨⟨by decide +kernel, by decide +kernel⟩, List.mem_of_getElem? (i := 430) (by decide +kernel), List.mem_of_getElem? (i := 550) (by decide +kernel), List.mem_of_getElem? (i := 551) (by decide +kernel)⟩
theorem lw_p6 : lw_okq (⟨"GrindFieldModel", "map", "()Z"⟩, 21) := ⟨⟨by decide +kernel, by decide +kernel⟩, List.mem_of_getElem? (i := 430) (by decide +kernel), List.mem_of_getElem? (i := 554) (by decide +kernel), List.mem_of_getElem? (i := 555) (by decide +kernel)⟩
theorem lw_p7 : lw_okq (⟨"GrindFieldModel", "call", "(IIIII)Z"⟩, 21) := ⟨⟨by decide +kernel, by decide +kernel⟩, List.mem_of_getElem? (i := 430) (by decide +kernel), List.mem_of_getElem? (i := 558) (by decide +kernel), List.mem_of_getElem? (i := 559) (by decide +kernel)⟩
theorem lw_p8 : lw_okq (⟨"GrindFieldModel", "join", "()Z"⟩, 21) := ⟨⟨by decide +kernel, by decide +kernel⟩, List.mem_of_getElem? (i := 430) (by decide +kernel), List.mem_of_getElem? (i := 565) (by decide +kernel), List.mem_of_getElem? (i := 566) (by decide +kernel)⟩
theorem lw_p9 : lw_okq (⟨"GrindFieldModel", "fold", "()Z"⟩, 21) := ⟨⟨by decide +kernel, by decide +kernel⟩, List.mem_of_getElem? (i := 430) (by decide +kernel), List.mem_of_getElem? (i := 569) (by decide +kernel), List.mem_of_getElem? (i := 570) (by decide +kernel)⟩
theorem lw_p10 : lw_okq (⟨"GrindFieldModel", "end", "()Z"⟩, 21) := ⟨⟨by decide +kernel, by decide +kernel⟩, List.mem_of_getElem? (i := 430) (by decide +kernel), List.mem_of_getElem? (i := 573) (by decide +kernel), List.mem_of_getElem? (i := 574) (by decide +kernel)⟩
def lw_privs_1 : List (MethodName × Nat) := [(⟨"GrindField", "isGood", "(I)Z"⟩, 5), (⟨"GrindField", "isGoodOrEmpty", "(I)Z"⟩, 5), (⟨"GrindFieldModel", "firstWrong", "(I)I"⟩, 21), (⟨"GrindFieldModel", "isBad", "(II)Z"⟩, 21), (⟨"GrindFieldModel", "good", "(IZ)Z"⟩, 21), (⟨"GrindFieldModel", "done", "()Z"⟩, 21), (⟨"GrindFieldModel", "map", "()Z"⟩, 21), (⟨"GrindFieldModel", "call", "(IIIII)Z"⟩, 21), (⟨"GrindFieldModel", "join", "()Z"⟩, 21), (⟨"GrindFieldModel", "fold", "()Z"⟩, 21), (⟨"GrindFieldModel", "end", "()Z"⟩, 21)]
theorem lw_r1 : ∀ q ∈ lw_privs_1, lw_okq q := List.forall_mem_cons.mpr ⟨lw_p0, List.forall_mem_cons.mpr ⟨lw_p1, List.forall_mem_cons.mpr ⟨lw_p2, List.forall_mem_cons.mpr ⟨lw_p3, List.forall_mem_cons.mpr ⟨lw_p4, List.forall_mem_cons.mpr ⟨lw_p5, List.forall_mem_cons.mpr ⟨lw_p6, List.forall_mem_cons.mpr ⟨lw_p7, List.forall_mem_cons.mpr ⟨lw_p8, List.forall_mem_cons.mpr ⟨lw_p9, List.forall_mem_cons.mpr ⟨lw_p10, fun _ h => absurd h List.not_mem_nil⟩⟩⟩⟩⟩⟩⟩⟩⟩⟩⟩
def lw_privs : List (MethodName × Nat) := lw_privs_1
def lw_tbl : List Cond := k2_sels lw_privs ++ tables_1
theorem lw_privs_ok : ∀ q ∈ lw_privs, lw_okq q := lw_r1
end
section
/-! ===== BEGIN printed: names, fields, word lists, decode rows ===== -/
def RX0 : String := "GrindField$Checker"
def TX0 : u_T := fun k => match k with
  | 0 => ("GrindField$Checker", "heights", "[I", true)
  | 1 => ("GrindField$Checker", "reached", "[I", true)
  | _ => ("GrindField$Checker", "reachedCount", "I", false)
def tyX0 : Nat → FieldType := fun k => match k with
  | 0 => .array .int
  | 1 => .array .int
  | _ => .int
abbrev wsX00 : List Cond := u_ws RX0 TX0 3
theorem nmX0 : ∀ a, a < 3 → ∀ b, b < 3 → a ≠ b → (TX0 a).2.1 ≠ (TX0 b).2.1 := by decide +kernel
theorem tyX0_ok : ∀ k, k < 3 → parseFieldDescriptor (TX0 k).2.2.1 = some (tyX0 k) := by decide +kernel
abbrev cX0_init : ByteArray := prog_2_method_1_code
def yX0_init : MethodName := ⟨RX0, "<init>", "()V"⟩
abbrev cX0_firstWrong : ByteArray := prog_2_method_2_code
def yX0_firstWrong : MethodName := ⟨RX0, "firstWrong", "(LGrindField$Program;)I"⟩
abbrev cX0_walk : ByteArray := prog_2_method_3_code
def yX0_walk : MethodName := ⟨RX0, "walk", "(LGrindField$Program;)V"⟩
abbrev cX0_goOn : ByteArray := prog_2_method_4_code
def yX0_goOn : MethodName := ⟨RX0, "goOn", "(LGrindField$Program;II)V"⟩
abbrev cX0_reach : ByteArray := prog_2_method_5_code
def yX0_reach : MethodName := ⟨RX0, "reach", "(II)V"⟩
abbrev cX0_hasHeight : ByteArray := prog_2_method_6_code
def yX0_hasHeight : MethodName := ⟨RX0, "hasHeight", "(II)Z"⟩
abbrev cX0_isWrong : ByteArray := prog_2_method_7_code
def yX0_isWrong : MethodName := ⟨RX0, "isWrong", "(LGrindField$Program;I)Z"⟩
abbrev cX0_fitsEveryHeight : ByteArray := prog_2_method_8_code
def yX0_fitsEveryHeight : MethodName := ⟨RX0, "fitsEveryHeight", "(LGrindField$Program;I)Z"⟩
abbrev cX0_fits : ByteArray := prog_2_method_9_code
def yX0_fits : MethodName := ⟨RX0, "fits", "(LGrindField$Program;II)Z"⟩
abbrev cX0_isMisformed : ByteArray := prog_2_method_10_code
def yX0_isMisformed : MethodName := ⟨RX0, "isMisformed", "(LGrindField$Program;I)Z"⟩
abbrev cX0_lacksNext : ByteArray := prog_2_method_11_code
def yX0_lacksNext : MethodName := ⟨RX0, "lacksNext", "(LGrindField$Program;I)Z"⟩
abbrev cX0_hasNext : ByteArray := prog_2_method_12_code
def yX0_hasNext : MethodName := ⟨RX0, "hasNext", "(I)Z"⟩
def RX1 : String := "GrindField$Job"
def TX1 : u_T := fun k => match k with
  | 0 => ("GrindField$Job", "machine", "LGrindField$Machine;", true)
  | 1 => ("GrindField$Job", "splitEnds", "[I", true)
  | 2 => ("GrindField$Job", "splitTable", "LGrindField$KeyTable;", true)
  | 3 => ("GrindField$Job", "joined", "LGrindField$PairRow;", true)
  | 4 => ("GrindField$Job", "results", "LGrindField$KeyTable;", true)
  | _ => ("GrindField$Job", "counts", "[I", true)
def tyX1 : Nat → FieldType := fun k => match k with
  | 0 => .object "GrindField$Machine"
  | 1 => .array .int
  | 2 => .object "GrindField$KeyTable"
  | 3 => .object "GrindField$PairRow"
  | 4 => .object "GrindField$KeyTable"
  | _ => .array .int
abbrev wsX10 : List Cond := u_ws RX1 TX1 6
theorem nmX1 : ∀ a, a < 6 → ∀ b, b < 6 → a ≠ b → (TX1 a).2.1 ≠ (TX1 b).2.1 := by decide +kernel
theorem tyX1_ok : ∀ k, k < 6 → parseFieldDescriptor (TX1 k).2.2.1 = some (tyX1 k) := by decide +kernel
abbrev cX1_init : ByteArray := prog_3_method_1_code
def yX1_init : MethodName := ⟨RX1, "<init>", "()V"⟩
abbrev cX1_perform : ByteArray := prog_3_method_2_code
def yX1_perform : MethodName := ⟨RX1, "perform", "([LGrindField$Program;LGrindField$PairRow;I)I"⟩
abbrev cX1_forget : ByteArray := prog_3_method_3_code
def yX1_forget : MethodName := ⟨RX1, "forget", "(I)V"⟩
abbrev cX1_mapRecords : ByteArray := prog_3_method_4_code
def yX1_mapRecords : MethodName := ⟨RX1, "mapRecords", "(LGrindField$Program;LGrindField$PairRow;I)I"⟩
abbrev cX1_joinSplits : ByteArray := prog_3_method_5_code
def yX1_joinSplits : MethodName := ⟨RX1, "joinSplits", "(LGrindField$Program;I)I"⟩
abbrev cX1_foldValues : ByteArray := prog_3_method_6_code
def yX1_foldValues : MethodName := ⟨RX1, "foldValues", "(LGrindField$Program;LGrindField$PairRow;)I"⟩
abbrev cX1_merge : ByteArray := prog_3_method_7_code
def yX1_merge : MethodName := ⟨RX1, "merge", "(LGrindField$Program;LGrindField$KeyTable;LGrindField$PairRow;II)Z"⟩
abbrev cX1_endKeys : ByteArray := prog_3_method_8_code
def yX1_endKeys : MethodName := ⟨RX1, "endKeys", "(LGrindField$Program;)I"⟩
def RX2 : String := "GrindField$KeyTable"
def TX2 : u_T := fun k => match k with
  | 0 => ("GrindField$KeyTable", "keys", "[I", true)
  | 1 => ("GrindField$KeyTable", "values", "[I", true)
  | _ => ("GrindField$KeyTable", "length", "I", false)
def tyX2 : Nat → FieldType := fun k => match k with
  | 0 => .array .int
  | 1 => .array .int
  | _ => .int
abbrev wsX20 : List Cond := u_ws RX2 TX2 3
theorem nmX2 : ∀ a, a < 3 → ∀ b, b < 3 → a ≠ b → (TX2 a).2.1 ≠ (TX2 b).2.1 := by decide +kernel
theorem tyX2_ok : ∀ k, k < 3 → parseFieldDescriptor (TX2 k).2.2.1 = some (tyX2 k) := by decide +kernel
abbrev cX2_init : ByteArray := prog_4_method_1_code
def yX2_init : MethodName := ⟨RX2, "<init>", "()V"⟩
abbrev cX2_placeOf : ByteArray := prog_4_method_2_code
def yX2_placeOf : MethodName := ⟨RX2, "placeOf", "(I)I"⟩
abbrev cX2_holds : ByteArray := prog_4_method_3_code
def yX2_holds : MethodName := ⟨RX2, "holds", "(II)Z"⟩
abbrev cX2_insert : ByteArray := prog_4_method_4_code
def yX2_insert : MethodName := ⟨RX2, "insert", "(III)V"⟩
def RX3 : String := "GrindField$Machine"
def TX3 : u_T := fun k => match k with
  | 0 => ("GrindField$Machine", "arguments", "[I", true)
  | 1 => ("GrindField$Machine", "locals", "[I", true)
  | 2 => ("GrindField$Machine", "stack", "[I", true)
  | 3 => ("GrindField$Machine", "height", "I", false)
  | 4 => ("GrindField$Machine", "answer", "I", false)
  | 5 => ("GrindField$Machine", "pairs", "LGrindField$PairRow;", true)
  | 6 => ("GrindField$Machine", "emitted", "I", false)
  | _ => ("GrindField$Machine", "steps", "[I", true)
def tyX3 : Nat → FieldType := fun k => match k with
  | 0 => .array .int
  | 1 => .array .int
  | 2 => .array .int
  | 3 => .int
  | 4 => .int
  | 5 => .object "GrindField$PairRow"
  | 6 => .int
  | _ => .array .int
abbrev wsX30 : List Cond := u_ws RX3 TX3 8
theorem nmX3 : ∀ a, a < 8 → ∀ b, b < 8 → a ≠ b → (TX3 a).2.1 ≠ (TX3 b).2.1 := by decide +kernel
theorem tyX3_ok : ∀ k, k < 8 → parseFieldDescriptor (TX3 k).2.2.1 = some (tyX3 k) := by decide +kernel
abbrev cX3_init : ByteArray := prog_5_method_1_code
def yX3_init : MethodName := ⟨RX3, "<init>", "()V"⟩
abbrev cX3_forget : ByteArray := prog_5_method_2_code
def yX3_forget : MethodName := ⟨RX3, "forget", "()V"⟩
abbrev cX3_call : ByteArray := prog_5_method_3_code
def yX3_call : MethodName := ⟨RX3, "call", "(LGrindField$Program;III)I"⟩
abbrev cX3_begin : ByteArray := prog_5_method_4_code
def yX3_begin : MethodName := ⟨RX3, "begin", "(III)V"⟩
abbrev cX3_jump : ByteArray := prog_5_method_5_code
def yX3_jump : MethodName := ⟨RX3, "jump", "(III)I"⟩
abbrev cX3_combine : ByteArray := prog_5_method_6_code
def yX3_combine : MethodName := ⟨RX3, "combine", "(I)V"⟩
abbrev cX3_combined : ByteArray := prog_5_method_7_code
def yX3_combined : MethodName := ⟨RX3, "combined", "(III)I"⟩
abbrev cX3_move : ByteArray := prog_5_method_8_code
def yX3_move : MethodName := ⟨RX3, "move", "(II)V"⟩
abbrev cX3_emit : ByteArray := prog_5_method_9_code
def yX3_emit : MethodName := ⟨RX3, "emit", "()V"⟩
abbrev cX3_store : ByteArray := prog_5_method_10_code
def yX3_store : MethodName := ⟨RX3, "store", "(II)V"⟩
abbrev cX3_push : ByteArray := prog_5_method_11_code
def yX3_push : MethodName := ⟨RX3, "push", "(I)V"⟩
abbrev cX3_pop : ByteArray := prog_5_method_12_code
def yX3_pop : MethodName := ⟨RX3, "pop", "()I"⟩
def RX4 : String := "GrindField$PairRow"
def TX4 : u_T := fun k => match k with
  | 0 => ("GrindField$PairRow", "keys", "[I", true)
  | 1 => ("GrindField$PairRow", "values", "[I", true)
  | _ => ("GrindField$PairRow", "length", "I", false)
def tyX4 : Nat → FieldType := fun k => match k with
  | 0 => .array .int
  | 1 => .array .int
  | _ => .int
abbrev wsX40 : List Cond := u_ws RX4 TX4 3
theorem nmX4 : ∀ a, a < 3 → ∀ b, b < 3 → a ≠ b → (TX4 a).2.1 ≠ (TX4 b).2.1 := by decide +kernel
theorem tyX4_ok : ∀ k, k < 3 → parseFieldDescriptor (TX4 k).2.2.1 = some (tyX4 k) := by decide +kernel
abbrev cX4_init : ByteArray := prog_6_method_1_code
def yX4_init : MethodName := ⟨RX4, "<init>", "(I)V"⟩
abbrev cX4_append : ByteArray := prog_6_method_2_code
def yX4_append : MethodName := ⟨RX4, "append", "(II)Z"⟩
abbrev cX4_appendAll : ByteArray := prog_6_method_3_code
def yX4_appendAll : MethodName := ⟨RX4, "appendAll", "(LGrindField$KeyTable;)V"⟩
def RX5 : String := "GrindField$Program"
def TX5 : u_T := fun k => match k with
  | 0 => ("GrindField$Program", "kind", "I", true)
  | 1 => ("GrindField$Program", "ops", "[I", true)
  | 2 => ("GrindField$Program", "ns", "[I", true)
  | _ => ("GrindField$Program", "length", "I", false)
def tyX5 : Nat → FieldType := fun k => match k with
  | 0 => .int
  | 1 => .array .int
  | 2 => .array .int
  | _ => .int
abbrev wsX50 : List Cond := u_ws RX5 TX5 4
theorem nmX5 : ∀ a, a < 4 → ∀ b, b < 4 → a ≠ b → (TX5 a).2.1 ≠ (TX5 b).2.1 := by decide +kernel
theorem tyX5_ok : ∀ k, k < 4 → parseFieldDescriptor (TX5 k).2.2.1 = some (tyX5 k) := by decide +kernel
abbrev cX5_init : ByteArray := prog_7_method_1_code
def yX5_init : MethodName := ⟨RX5, "<init>", "(I)V"⟩
abbrev cX5_append : ByteArray := prog_7_method_2_code
def yX5_append : MethodName := ⟨RX5, "append", "(II)I"⟩
abbrev cX5_has : ByteArray := prog_7_method_3_code
def yX5_has : MethodName := ⟨RX5, "has", "(I)Z"⟩
abbrev cX5_argumentCount : ByteArray := prog_7_method_4_code
def yX5_argumentCount : MethodName := ⟨RX5, "argumentCount", "()I"⟩
def RX6 : String := "GrindField"
def TX6 : u_T := fun k => match k with
  | 0 => ("GrindField", "size", "I", true)
  | 1 => ("GrindField", "records", "LGrindField$PairRow;", true)
  | 2 => ("GrindField", "programs", "[LGrindField$Program;", true)
  | 3 => ("GrindField", "checker", "LGrindField$Checker;", true)
  | _ => ("GrindField", "job", "LGrindField$Job;", true)
def tyX6 : Nat → FieldType := fun k => match k with
  | 0 => .int
  | 1 => .object "GrindField$PairRow"
  | 2 => .array (.object "GrindField$Program")
  | 3 => .object "GrindField$Checker"
  | _ => .object "GrindField$Job"
abbrev wsX60 : List Cond := u_ws RX6 TX6 5
theorem nmX6 : ∀ a, a < 5 → ∀ b, b < 5 → a ≠ b → (TX6 a).2.1 ≠ (TX6 b).2.1 := by decide +kernel
theorem tyX6_ok : ∀ k, k < 5 → parseFieldDescriptor (TX6 k).2.2.1 = some (tyX6 k) := by decide +kernel
abbrev cX6_init : ByteArray := prog_1_method_1_code
def yX6_init : MethodName := ⟨RX6, "<init>", "(III)V"⟩
abbrev cX6_record : ByteArray := prog_1_method_2_code
def yX6_record : MethodName := ⟨RX6, "record", "(II)I"⟩
abbrev cX6_wipe : ByteArray := prog_1_method_3_code
def yX6_wipe : MethodName := ⟨RX6, "wipe", "()I"⟩
abbrev cX6_code : ByteArray := prog_1_method_4_code
def yX6_code : MethodName := ⟨RX6, "code", "(III)I"⟩
abbrev cX6_clear : ByteArray := prog_1_method_5_code
def yX6_clear : MethodName := ⟨RX6, "clear", "(I)I"⟩
abbrev cX6_check : ByteArray := prog_1_method_6_code
def yX6_check : MethodName := ⟨RX6, "check", "(I)I"⟩
abbrev cX6_run : ByteArray := prog_1_method_7_code
def yX6_run : MethodName := ⟨RX6, "run", "(I)I"⟩
abbrev cX6_result : ByteArray := prog_1_method_8_code
def yX6_result : MethodName := ⟨RX6, "result", "(II)J"⟩
abbrev cX6_valueOf : ByteArray := prog_1_method_9_code
def yX6_valueOf : MethodName := ⟨RX6, "valueOf", "(I)J"⟩
abbrev cX6_count : ByteArray := prog_1_method_10_code
def yX6_count : MethodName := ⟨RX6, "count", "(I)I"⟩
abbrev cX6_isProgram : ByteArray := prog_1_method_11_code
def yX6_isProgram : MethodName := ⟨RX6, "isProgram", "(I)Z"⟩
abbrev cX6_isJump : ByteArray := prog_1_method_12_code
def yX6_isJump : MethodName := ⟨RX6, "isJump", "(I)Z"⟩
abbrev cX6_isCombination : ByteArray := prog_1_method_13_code
def yX6_isCombination : MethodName := ⟨RX6, "isCombination", "(I)Z"⟩
abbrev cX6_isGood : ByteArray := prog_1_method_14_code
def yX6_isGood : MethodName := ⟨RX6, "isGood", "(I)Z"⟩
abbrev cX6_isGoodOrEmpty : ByteArray := prog_1_method_15_code
def yX6_isGoodOrEmpty : MethodName := ⟨RX6, "isGoodOrEmpty", "(I)Z"⟩
def RX7 : String := "GrindFieldModel"
def TX7 : u_T := fun k => match k with
  | 0 => ("GrindFieldModel", "size", "I", true)
  | 1 => ("GrindFieldModel", "recordKey", "[I", true)
  | 2 => ("GrindFieldModel", "recordValue", "[I", true)
  | 3 => ("GrindFieldModel", "records", "I", false)
  | 4 => ("GrindFieldModel", "op", "[[I", true)
  | 5 => ("GrindFieldModel", "number", "[[I", true)
  | 6 => ("GrindFieldModel", "length", "[I", true)
  | 7 => ("GrindFieldModel", "key", "[I", true)
  | 8 => ("GrindFieldModel", "value", "[I", true)
  | 9 => ("GrindFieldModel", "split", "[I", true)
  | 10 => ("GrindFieldModel", "pairs", "I", false)
  | 11 => ("GrindFieldModel", "resultKey", "[I", true)
  | 12 => ("GrindFieldModel", "resultValue", "[I", true)
  | 13 => ("GrindFieldModel", "results", "I", false)
  | 14 => ("GrindFieldModel", "error", "I", false)
  | 15 => ("GrindFieldModel", "told", "[I", true)
  | 16 => ("GrindFieldModel", "stack", "[I", true)
  | 17 => ("GrindFieldModel", "local", "[I", true)
  | 18 => ("GrindFieldModel", "steps", "I", false)
  | 19 => ("GrindFieldModel", "result", "I", false)
  | _ => ("GrindFieldModel", "without", "Z", false)
def tyX7 : Nat → FieldType := fun k => match k with
  | 0 => .int
  | 1 => .array .int
  | 2 => .array .int
  | 3 => .int
  | 4 => .array (.array .int)
  | 5 => .array (.array .int)
  | 6 => .array .int
  | 7 => .array .int
  | 8 => .array .int
  | 9 => .array .int
  | 10 => .int
  | 11 => .array .int
  | 12 => .array .int
  | 13 => .int
  | 14 => .int
  | 15 => .array .int
  | 16 => .array .int
  | 17 => .array .int
  | 18 => .int
  | 19 => .int
  | _ => .boolean
abbrev wsX70 : List Cond := u_ws RX7 TX7 21
theorem nmX7 : ∀ a, a < 21 → ∀ b, b < 21 → a ≠ b → (TX7 a).2.1 ≠ (TX7 b).2.1 := by decide +kernel
theorem tyX7_ok : ∀ k, k < 21 → parseFieldDescriptor (TX7 k).2.2.1 = some (tyX7 k) := by decide +kernel
abbrev cX7_init : ByteArray := prog_9_method_1_code
def yX7_init : MethodName := ⟨RX7, "<init>", "(III)V"⟩
abbrev cX7_record : ByteArray := prog_9_method_2_code
def yX7_record : MethodName := ⟨RX7, "record", "(II)I"⟩
abbrev cX7_wipe : ByteArray := prog_9_method_3_code
def yX7_wipe : MethodName := ⟨RX7, "wipe", "()I"⟩
abbrev cX7_is : ByteArray := prog_9_method_4_code
def yX7_is : MethodName := ⟨RX7, "is", "(I)Z"⟩
abbrev cX7_code : ByteArray := prog_9_method_5_code
def yX7_code : MethodName := ⟨RX7, "code", "(III)I"⟩
abbrev cX7_clear : ByteArray := prog_9_method_6_code
def yX7_clear : MethodName := ⟨RX7, "clear", "(I)I"⟩
abbrev cX7_isBad : ByteArray := prog_9_method_7_code
def yX7_isBad : MethodName := ⟨RX7, "isBad", "(II)Z"⟩
abbrev cX7_needs : ByteArray := prog_9_method_8_code
def yX7_needs : MethodName := ⟨RX7, "needs", "(II)I"⟩
abbrev cX7_grows : ByteArray := prog_9_method_9_code
def yX7_grows : MethodName := ⟨RX7, "grows", "(I)I"⟩
abbrev cX7_firstWrong : ByteArray := prog_9_method_10_code
def yX7_firstWrong : MethodName := ⟨RX7, "firstWrong", "(I)I"⟩
abbrev cX7_check : ByteArray := prog_9_method_11_code
def yX7_check : MethodName := ⟨RX7, "check", "(I)I"⟩
abbrev cX7_reckoned : ByteArray := prog_9_method_12_code
def yX7_reckoned : MethodName := ⟨RX7, "reckoned", "(III)I"⟩
abbrev cX7_call : ByteArray := prog_9_method_13_code
def yX7_call : MethodName := ⟨RX7, "call", "(IIIII)Z"⟩
abbrev cX7_good : ByteArray := prog_9_method_14_code
def yX7_good : MethodName := ⟨RX7, "good", "(IZ)Z"⟩
abbrev cX7_map : ByteArray := prog_9_method_15_code
def yX7_map : MethodName := ⟨RX7, "map", "()Z"⟩
abbrev cX7_join : ByteArray := prog_9_method_16_code
def yX7_join : MethodName := ⟨RX7, "join", "()Z"⟩
abbrev cX7_fold : ByteArray := prog_9_method_17_code
def yX7_fold : MethodName := ⟨RX7, "fold", "()Z"⟩
abbrev cX7_end : ByteArray := prog_9_method_18_code
def yX7_end : MethodName := ⟨RX7, "end", "()Z"⟩
abbrev cX7_done : ByteArray := prog_9_method_19_code
def yX7_done : MethodName := ⟨RX7, "done", "()Z"⟩
abbrev cX7_run : ByteArray := prog_9_method_20_code
def yX7_run : MethodName := ⟨RX7, "run", "(I)I"⟩
abbrev cX7_result : ByteArray := prog_9_method_21_code
def yX7_result : MethodName := ⟨RX7, "result", "(II)J"⟩
abbrev cX7_valueOf : ByteArray := prog_9_method_22_code
def yX7_valueOf : MethodName := ⟨RX7, "valueOf", "(I)J"⟩
abbrev cX7_count : ByteArray := prog_9_method_23_code
def yX7_count : MethodName := ⟨RX7, "count", "(I)I"⟩
def RJ6 : String := "java/lang/Integer"
def TJ6 : u_T := fun k => match k with
  | _ => ("", "", "", false)
def tyJ6 : Nat → FieldType := fun k => match k with
  | _ => .int
abbrev wsJ60 : List Cond := u_ws RJ6 TJ6 0
theorem nmJ6 : ∀ a, a < 0 → ∀ b, b < 0 → a ≠ b → (TJ6 a).2.1 ≠ (TJ6 b).2.1 := by decide +kernel
theorem tyJ6_ok : ∀ k, k < 0 → parseFieldDescriptor (TJ6 k).2.2.1 = some (tyJ6 k) := by decide +kernel
abbrev cJ6_bitCount_0f7a4 : ByteArray := prog_10_method_49_code
def yJ6_bitCount_0f7a4 : MethodName := ⟨RJ6, "bitCount", "(I)I"⟩
def RJ9 : String := "java/lang/Math"
def TJ9 : u_T := fun k => match k with
  | _ => ("", "", "", false)
def tyJ9 : Nat → FieldType := fun k => match k with
  | _ => .int
abbrev wsJ90 : List Cond := u_ws RJ9 TJ9 0
theorem nmJ9 : ∀ a, a < 0 → ∀ b, b < 0 → a ≠ b → (TJ9 a).2.1 ≠ (TJ9 b).2.1 := by decide +kernel
theorem tyJ9_ok : ∀ k, k < 0 → parseFieldDescriptor (TJ9 k).2.2.1 = some (tyJ9 k) := by decide +kernel
abbrev cJ9_max_7cf53 : ByteArray := prog_11_method_65_code
def yJ9_max_7cf53 : MethodName := ⟨RJ9, "max", "(II)I"⟩
abbrev cJ9_min_7cf53 : ByteArray := prog_11_method_69_code
def yJ9_min_7cf53 : MethodName := ⟨RJ9, "min", "(II)I"⟩
def RJ10 : String := "java/lang/System"
def TJ10 : u_T := fun k => match k with
  | _ => ("", "", "", false)
def tyJ10 : Nat → FieldType := fun k => match k with
  | _ => .int
abbrev wsJ100 : List Cond := u_ws RJ10 TJ10 0
theorem nmJ10 : ∀ a, a < 0 → ∀ b, b < 0 → a ≠ b → (TJ10 a).2.1 ≠ (TJ10 b).2.1 := by decide +kernel
theorem tyJ10_ok : ∀ k, k < 0 → parseFieldDescriptor (TJ10 k).2.2.1 = some (tyJ10 k) := by decide +kernel
def RJ7 : String := "java/util/Arrays"
def TJ7 : u_T := fun k => match k with
  | _ => ("", "", "", false)
def tyJ7 : Nat → FieldType := fun k => match k with
  | _ => .int
abbrev wsJ70 : List Cond := u_ws RJ7 TJ7 0
theorem nmJ7 : ∀ a, a < 0 → ∀ b, b < 0 → a ≠ b → (TJ7 a).2.1 ≠ (TJ7 b).2.1 := by decide +kernel
theorem tyJ7_ok : ∀ k, k < 0 → parseFieldDescriptor (TJ7 k).2.2.1 = some (tyJ7 k) := by decide +kernel
abbrev cJ7_fill_53178 : ByteArray := prog_13_method_103_code
def yJ7_fill_53178 : MethodName := ⟨RJ7, "fill", "([II)V"⟩
def RL : String := "GrindFieldLaw"
abbrev cL_cell : ByteArray := method_2_code
def yL_cell : MethodName := ⟨RL, "cell", "([II)I"⟩
abbrev cL_law : ByteArray := code
def yL_law : MethodName := ⟨RL, "law", "([I)Z"⟩
abbrev vwCl : List vw_C := [(RX0, TX0, 3), (RX1, TX1, 6), (RX2, TX2, 3), (RX3, TX3, 8), (RX4, TX4, 3), (RX5, TX5, 4), (RX6, TX6, 5), (RX7, TX7, 21)]
/-- the words that stay good in a call -/
def lw_all : List Cond := lw_tbl.filter goodWord
theorem lwm (i : Nat) {w : Cond} (h : lw_tbl[i]? = some w) (hg : goodWord w = true) : w ∈ lw_all := List.mem_filter.mpr ⟨List.mem_of_getElem? h, hg⟩
theorem lwt0 (i : Nat) {w : Cond} (h : (k2_sels lw_privs)[i]? = some w) : w ∈ lw_tbl := List.mem_append_left _ (List.mem_of_getElem? h)
theorem lwt1 (i : Nat) {w : Cond} (h : tables_1_1[i]? = some w) : w ∈ lw_tbl := List.mem_append_right _ (List.mem_append_left _ (List.mem_of_getElem? h))
theorem lwt2 (i : Nat) {w : Cond} (h : tables_1_2[i]? = some w) : w ∈ lw_tbl := List.mem_append_right _ (List.mem_append_right _ (List.mem_append_left _ (List.mem_of_getElem? h)))
theorem lwt3 (i : Nat) {w : Cond} (h : tables_1_3[i]? = some w) : w ∈ lw_tbl := List.mem_append_right _ (List.mem_append_right _ (List.mem_append_right _ (List.mem_of_getElem? h)))
theorem lwm0 (i : Nat) {w : Cond} (h : (k2_sels lw_privs)[i]? = some w) (hg : goodWord w = true) : w ∈ lw_all := List.mem_filter.mpr ⟨lwt0 i h, hg⟩
theorem lwm1 (i : Nat) {w : Cond} (h : (tables_1_1)[i]? = some w) (hg : goodWord w = true) : w ∈ lw_all := List.mem_filter.mpr ⟨lwt1 i h, hg⟩
theorem lwm2 (i : Nat) {w : Cond} (h : (tables_1_2)[i]? = some w) (hg : goodWord w = true) : w ∈ lw_all := List.mem_filter.mpr ⟨lwt2 i h, hg⟩
theorem lwm3 (i : Nat) {w : Cond} (h : (tables_1_3)[i]? = some w) (hg : goodWord w = true) : w ∈ lw_all := List.mem_filter.mpr ⟨lwt3 i h, hg⟩
theorem lwt (i : Nat) {w : Cond} (h : lw_tbl[i]? = some w) : w ∈ lw_tbl := List.mem_of_getElem? h
theorem lw_in : ∀ w, w ∈ lw_all → w ∈ lw_tbl := fun _ h => (List.mem_filter.mp h).1
theorem lw_good : ∀ w, w ∈ lw_all → goodWord w = true := fun _ h => (List.mem_filter.mp h).2
/-- a method's words: its code, and the tables' -/
def zTs (y : MethodName) (b : ByteArray) (n : Nat) (r : Option FieldType) : List Cond := Cond.code y b n r :: lw_all
theorem zTs_in {y : MethodName} {b : ByteArray} {n : Nat} {r : Option FieldType} {w : Cond} (h : w ∈ lw_all) : w ∈ zTs y b n r := List.mem_cons_of_mem _ h
theorem zTs_good {Ts : List Cond} (hT : ∀ w, w ∈ lw_all → w ∈ Ts) {y : MethodName} {b : ByteArray} {n : Nat} {r : Option FieldType} (h : Cond.code y b n r ∈ lw_all) : GoodIn Ts (zTs y b n r) := by
  intro w hw
  have h1 : w ∈ lw_all := by
    rcases List.mem_cons.mp hw with rfl | hw
    · exact h
    · exact hw
  exact ⟨hT w h1, good_of_word (lw_good w h1)⟩
theorem zGI {Ts : List Cond} (hT : ∀ w, w ∈ lw_all → w ∈ Ts) {ws pre : List Cond} (hp : ∀ w, w ∈ pre → w ∈ lw_all) (h : GoodIn Ts ws) : GoodIn Ts (pre ++ ws) := by
  intro w hw
  rcases List.mem_append.mp hw with hw | hw
  · exact ⟨hT w (hp w hw), good_of_word (lw_good w (hp w hw))⟩
  · exact h w hw
theorem zGIV {Ts : List Cond} (hT : ∀ w, w ∈ lw_all → w ∈ Ts) {own C : String} {i : Nat} {y : MethodName} {b : ByteArray} {n : Nat} {r : Option FieldType} (h : Cond.code y b n r ∈ lw_all) (h1 : Cond.methodLink own i y ∈ lw_all) (h2 : Cond.instanceMethod y ∈ lw_all) (h3 : Cond.selects C y y ∈ lw_all) (h4 : Cond.initialized C ∈ lw_all) : GoodIn Ts (wsV own i C y (zTs y b n r)) :=
  zGI (pre := [.methodLink own i y, .instanceMethod y, .selects C y y, .initialized C]) hT (fun w hw => by
    simp only [List.mem_cons, List.not_mem_nil, or_false] at hw
    rcases hw with rfl | rfl | rfl | rfl <;> assumption) (zTs_good hT h)
theorem zGIS {Ts : List Cond} (hT : ∀ w, w ∈ lw_all → w ∈ Ts) {own : String} {i : Nat} {y : MethodName} {b : ByteArray} {n : Nat} {r : Option FieldType} (h : Cond.code y b n r ∈ lw_all) (h1 : Cond.methodLink own i y ∈ lw_all) (h2 : Cond.static y ∈ lw_all) (h4 : Cond.initialized y.cls ∈ lw_all) : GoodIn Ts (va_wsS own i y (zTs y b n r)) :=
  zGI (pre := [.methodLink own i y, .static y, .initialized y.cls]) hT (fun w hw => by
    simp only [List.mem_cons, List.not_mem_nil, or_false] at hw
    rcases hw with rfl | rfl | rfl <;> assumption) (zTs_good hT h)
end
section
theorem wk_0 : Cond.selects RX6 yX6_isGood yX6_isGood ∈ lw_all := lwm0 0 rfl rfl
theorem wk_1 : Cond.selects RX6 yX6_isGoodOrEmpty yX6_isGoodOrEmpty ∈ lw_all := lwm0 1 rfl rfl
theorem wk_2 : Cond.selects RX7 yX7_firstWrong yX7_firstWrong ∈ lw_all := lwm0 2 rfl rfl
theorem wk_3 : Cond.selects RX7 yX7_isBad yX7_isBad ∈ lw_all := lwm0 3 rfl rfl
theorem wk_4 : Cond.selects RX7 yX7_good yX7_good ∈ lw_all := lwm0 4 rfl rfl
theorem wk_5 : Cond.selects RX7 yX7_done yX7_done ∈ lw_all := lwm0 5 rfl rfl
theorem wk_6 : Cond.selects RX7 yX7_map yX7_map ∈ lw_all := lwm0 6 rfl rfl
theorem wk_7 : Cond.selects RX7 yX7_call yX7_call ∈ lw_all := lwm0 7 rfl rfl
theorem wk_8 : Cond.selects RX7 yX7_join yX7_join ∈ lw_all := lwm0 8 rfl rfl
theorem wk_9 : Cond.selects RX7 yX7_fold yX7_fold ∈ lw_all := lwm0 9 rfl rfl
theorem wk_10 : Cond.selects RX7 yX7_end yX7_end ∈ lw_all := lwm0 10 rfl rfl
theorem wk_11 : Cond.initialized RL ∈ lw_all := lwm1 0 rfl rfl
theorem wk_12 : Cond.initialized RX6 ∈ lw_all := lwm1 1 rfl rfl
theorem wk_13 : Cond.initialized RJ9 ∈ lw_all := lwm1 2 rfl rfl
theorem wk_14 : Cond.initialized RX4 ∈ lw_all := lwm1 3 rfl rfl
theorem wk_15 : Cond.initialized RX5 ∈ lw_all := lwm1 4 rfl rfl
theorem wk_16 : Cond.initialized RX0 ∈ lw_all := lwm1 5 rfl rfl
theorem wk_17 : Cond.initialized RX1 ∈ lw_all := lwm1 6 rfl rfl
theorem wk_18 : Cond.initialized RX3 ∈ lw_all := lwm1 7 rfl rfl
theorem wk_19 : Cond.initialized RX2 ∈ lw_all := lwm1 8 rfl rfl
theorem wk_20 : Cond.initialized RX7 ∈ lw_all := lwm1 9 rfl rfl
theorem wk_21 : Cond.initialized RJ7 ∈ lw_all := lwm1 10 rfl rfl
theorem wk_22 : Cond.initialized RJ6 ∈ lw_all := lwm1 11 rfl rfl
theorem wk_23 : Cond.initialized RJ10 ∈ lw_all := lwm1 12 rfl rfl
theorem wk_24 : Cond.classLink RL 7 RX6 ∈ lw_all := lwm1 13 rfl rfl
theorem wk_25 : Cond.instantiable RX6 5 ∈ lw_all := lwm1 14 rfl rfl
theorem wk_26 : Cond.methodLink RL 15 yX6_init ∈ lw_all := lwm1 15 rfl rfl
theorem wk_27 : Cond.instanceMethod yX6_init ∈ lw_all := lwm1 16 rfl rfl
theorem wk_28 : Cond.code yX6_init cX6_init 5 none ∈ lw_all := lwm1 17 rfl rfl
theorem wk_29 : Cond.methodLink RX6 1 Lib.objectInit ∈ lw_all := lwm1 18 rfl rfl
theorem wk_30 : Cond.instanceMethod Lib.objectInit ∈ lw_all := lwm1 19 rfl rfl
theorem wk_31 : Cond.code Lib.objectInit ⟨#[0xb1]⟩ 1 none ∈ lw_all := lwm1 20 rfl rfl
theorem wk_32 : Cond.methodLink RX6 9 Lib.Math.min.name ∈ lw_all := lwm1 21 rfl rfl
theorem wk_33 : Cond.static Lib.Math.min.name ∈ lw_all := lwm1 22 rfl rfl
theorem wk_34 : Cond.code Lib.Math.min.name Lib.Math.min.code 2 (some .int) ∈ lw_all := lwm1 23 rfl rfl
theorem wk_35 : Cond.methodLink RX6 15 Lib.Math.max.name ∈ lw_all := lwm1 24 rfl rfl
theorem wk_36 : Cond.static Lib.Math.max.name ∈ lw_all := lwm1 25 rfl rfl
theorem wk_37 : Cond.code Lib.Math.max.name Lib.Math.max.code 2 (some .int) ∈ lw_all := lwm1 26 rfl rfl
theorem wk_38 : Cond.classLink RX6 22 RX4 ∈ lw_all := lwm1 27 rfl rfl
theorem wk_39 : Cond.instantiable RX4 3 ∈ lw_all := lwm1 28 rfl rfl
theorem wk_40 : Cond.methodLink RX6 24 yX4_init ∈ lw_all := lwm1 29 rfl rfl
theorem wk_41 : Cond.instanceMethod yX4_init ∈ lw_all := lwm1 30 rfl rfl
theorem wk_42 : Cond.code yX4_init cX4_init 2 none ∈ lw_all := lwm1 31 rfl rfl
theorem wk_43 : Cond.methodLink RX4 1 Lib.objectInit ∈ lw_all := lwm1 32 rfl rfl
theorem wk_44 : Cond.fieldLink RX4 7 "GrindField$PairRow" "keys" "[I" ∈ lw_all := lwm1 33 rfl rfl
theorem wk_45 : Cond.fieldLink RX1 91 "GrindField$PairRow" "keys" "[I" ∈ lw_all := lwm1 34 rfl rfl
theorem wk_46 : Cond.fieldLink RX4 13 "GrindField$PairRow" "values" "[I" ∈ lw_all := lwm1 35 rfl rfl
theorem wk_47 : Cond.fieldLink RX1 94 "GrindField$PairRow" "values" "[I" ∈ lw_all := lwm1 36 rfl rfl
theorem wk_48 : Cond.fieldLink RX4 16 "GrindField$PairRow" "length" "I" ∈ lw_all := lwm1 37 rfl rfl
theorem wk_49 : Cond.fieldLink RX3 43 "GrindField$PairRow" "length" "I" ∈ lw_all := lwm1 38 rfl rfl
theorem wk_50 : Cond.fieldLink RX1 47 "GrindField$PairRow" "length" "I" ∈ lw_all := lwm1 39 rfl rfl
theorem wk_51 : Cond.fieldLink RX6 56 "GrindField$PairRow" "length" "I" ∈ lw_all := lwm1 40 rfl rfl
theorem wk_59 : Cond.arrayClass .int ∈ lw_all := lwm1 48 rfl rfl
theorem wk_60 : Cond.classLink RX6 31 RX5 ∈ lw_all := lwm1 49 rfl rfl
theorem wk_62 : Cond.instantiable RX5 4 ∈ lw_all := lwm1 51 rfl rfl
theorem wk_63 : Cond.methodLink RX6 37 yX5_init ∈ lw_all := lwm1 52 rfl rfl
theorem wk_64 : Cond.instanceMethod yX5_init ∈ lw_all := lwm1 53 rfl rfl
theorem wk_65 : Cond.code yX5_init cX5_init 2 none ∈ lw_all := lwm1 54 rfl rfl
theorem wk_66 : Cond.methodLink RX5 3 Lib.objectInit ∈ lw_all := lwm1 55 rfl rfl
theorem wk_67 : Cond.fieldLink RX5 22 "GrindField$Program" "kind" "I" ∈ lw_all := lwm1 56 rfl rfl
theorem wk_68 : Cond.fieldLink RX3 68 "GrindField$Program" "kind" "I" ∈ lw_all := lwm1 57 rfl rfl
theorem wk_69 : Cond.fieldLink RX0 88 "GrindField$Program" "kind" "I" ∈ lw_all := lwm1 58 rfl rfl
theorem wk_70 : Cond.fieldLink RX5 9 "GrindField$Program" "ops" "[I" ∈ lw_all := lwm1 59 rfl rfl
theorem wk_71 : Cond.fieldLink RX3 62 "GrindField$Program" "ops" "[I" ∈ lw_all := lwm1 60 rfl rfl
theorem wk_72 : Cond.fieldLink RX0 59 "GrindField$Program" "ops" "[I" ∈ lw_all := lwm1 61 rfl rfl
theorem wk_73 : Cond.fieldLink RX5 15 "GrindField$Program" "ns" "[I" ∈ lw_all := lwm1 62 rfl rfl
theorem wk_74 : Cond.fieldLink RX3 65 "GrindField$Program" "ns" "[I" ∈ lw_all := lwm1 63 rfl rfl
theorem wk_75 : Cond.fieldLink RX0 69 "GrindField$Program" "ns" "[I" ∈ lw_all := lwm1 64 rfl rfl
theorem wk_76 : Cond.fieldLink RX5 18 "GrindField$Program" "length" "I" ∈ lw_all := lwm1 65 rfl rfl
theorem wk_77 : Cond.fieldLink RX0 22 "GrindField$Program" "length" "I" ∈ lw_all := lwm1 66 rfl rfl
theorem wk_78 : Cond.fieldLink RX1 58 "GrindField$Program" "length" "I" ∈ lw_all := lwm1 67 rfl rfl
theorem wk_79 : Cond.fieldLink RX6 65 "GrindField$Program" "length" "I" ∈ lw_all := lwm1 68 rfl rfl
theorem wk_89 : Cond.classLink RX6 38 RX0 ∈ lw_all := lwm1 78 rfl rfl
theorem wk_90 : Cond.instantiable RX0 3 ∈ lw_all := lwm1 79 rfl rfl
theorem wk_91 : Cond.methodLinkNest RX6 40 yX0_init RX6 ∈ lw_tbl := lwt1 80 rfl
theorem wk_92 : Cond.instanceMethod yX0_init ∈ lw_all := lwm1 81 rfl rfl
theorem wk_93 : Cond.code yX0_init cX0_init 1 none ∈ lw_all := lwm1 82 rfl rfl
theorem wk_94 : Cond.methodLink RX0 3 Lib.objectInit ∈ lw_all := lwm1 83 rfl rfl
theorem wk_95 : Cond.fieldLink RX0 9 "GrindField$Checker" "heights" "[I" ∈ lw_all := lwm1 84 rfl rfl
theorem wk_96 : Cond.fieldLink RX0 15 "GrindField$Checker" "reached" "[I" ∈ lw_all := lwm1 85 rfl rfl
theorem wk_97 : Cond.fieldLink RX0 18 "GrindField$Checker" "reachedCount" "I" ∈ lw_all := lwm1 86 rfl rfl
theorem wk_105 : Cond.classLink RX6 45 RX1 ∈ lw_all := lwm1 94 rfl rfl
theorem wk_106 : Cond.instantiable RX1 6 ∈ lw_all := lwm1 95 rfl rfl
theorem wk_107 : Cond.methodLink RX6 47 yX1_init ∈ lw_all := lwm1 96 rfl rfl
theorem wk_108 : Cond.instanceMethod yX1_init ∈ lw_all := lwm1 97 rfl rfl
theorem wk_109 : Cond.code yX1_init cX1_init 1 none ∈ lw_all := lwm1 98 rfl rfl
theorem wk_110 : Cond.methodLink RX1 3 Lib.objectInit ∈ lw_all := lwm1 99 rfl rfl
theorem wk_111 : Cond.classLink RX1 9 RX3 ∈ lw_all := lwm1 100 rfl rfl
theorem wk_112 : Cond.instantiable RX3 8 ∈ lw_all := lwm1 101 rfl rfl
theorem wk_113 : Cond.methodLinkNest RX1 11 yX3_init RX6 ∈ lw_tbl := lwt1 102 rfl
theorem wk_114 : Cond.instanceMethod yX3_init ∈ lw_all := lwm1 103 rfl rfl
theorem wk_115 : Cond.code yX3_init cX3_init 1 none ∈ lw_all := lwm1 104 rfl rfl
theorem wk_116 : Cond.methodLink RX3 3 Lib.objectInit ∈ lw_all := lwm1 105 rfl rfl
theorem wk_117 : Cond.classLink RX3 28 RX4 ∈ lw_all := lwm1 106 rfl rfl
theorem wk_118 : Cond.methodLink RX3 30 yX4_init ∈ lw_all := lwm1 107 rfl rfl
theorem wk_119 : Cond.fieldLink RX3 9 "GrindField$Machine" "arguments" "[I" ∈ lw_all := lwm1 108 rfl rfl
theorem wk_120 : Cond.fieldLink RX3 15 "GrindField$Machine" "locals" "[I" ∈ lw_all := lwm1 109 rfl rfl
theorem wk_121 : Cond.fieldLink RX3 18 "GrindField$Machine" "stack" "[I" ∈ lw_all := lwm1 110 rfl rfl
theorem wk_122 : Cond.fieldLink RX3 21 "GrindField$Machine" "height" "I" ∈ lw_all := lwm1 111 rfl rfl
theorem wk_123 : Cond.fieldLink RX3 25 "GrindField$Machine" "answer" "I" ∈ lw_all := lwm1 112 rfl rfl
theorem wk_124 : Cond.fieldLink RX1 125 "GrindField$Machine" "answer" "I" ∈ lw_all := lwm1 113 rfl rfl
theorem wk_125 : Cond.fieldLink RX3 33 "GrindField$Machine" "pairs" "LGrindField$PairRow;" ∈ lw_all := lwm1 114 rfl rfl
theorem wk_126 : Cond.fieldLink RX1 55 "GrindField$Machine" "pairs" "LGrindField$PairRow;" ∈ lw_all := lwm1 115 rfl rfl
theorem wk_127 : Cond.fieldLink RX3 37 "GrindField$Machine" "emitted" "I" ∈ lw_all := lwm1 116 rfl rfl
theorem wk_128 : Cond.fieldLink RX1 101 "GrindField$Machine" "emitted" "I" ∈ lw_all := lwm1 117 rfl rfl
theorem wk_129 : Cond.fieldLink RX3 40 "GrindField$Machine" "steps" "[I" ∈ lw_all := lwm1 118 rfl rfl
theorem wk_130 : Cond.fieldLink RX1 73 "GrindField$Machine" "steps" "[I" ∈ lw_all := lwm1 119 rfl rfl
theorem wk_148 : Cond.classLink RX1 22 RX2 ∈ lw_all := lwm1 137 rfl rfl
theorem wk_149 : Cond.instantiable RX2 3 ∈ lw_all := lwm1 138 rfl rfl
theorem wk_150 : Cond.methodLinkNest RX1 24 yX2_init RX6 ∈ lw_tbl := lwt1 139 rfl
theorem wk_151 : Cond.instanceMethod yX2_init ∈ lw_all := lwm1 140 rfl rfl
theorem wk_152 : Cond.code yX2_init cX2_init 1 none ∈ lw_all := lwm1 141 rfl rfl
theorem wk_153 : Cond.methodLink RX2 3 Lib.objectInit ∈ lw_all := lwm1 142 rfl rfl
theorem wk_154 : Cond.fieldLink RX2 9 "GrindField$KeyTable" "keys" "[I" ∈ lw_all := lwm1 143 rfl rfl
theorem wk_155 : Cond.fieldLink RX4 23 "GrindField$KeyTable" "keys" "[I" ∈ lw_all := lwm1 144 rfl rfl
theorem wk_156 : Cond.fieldLink RX1 128 "GrindField$KeyTable" "keys" "[I" ∈ lw_all := lwm1 145 rfl rfl
theorem wk_157 : Cond.fieldLink RX6 89 "GrindField$KeyTable" "keys" "[I" ∈ lw_all := lwm1 146 rfl rfl
theorem wk_158 : Cond.fieldLink RX2 15 "GrindField$KeyTable" "values" "[I" ∈ lw_all := lwm1 147 rfl rfl
theorem wk_159 : Cond.fieldLink RX4 24 "GrindField$KeyTable" "values" "[I" ∈ lw_all := lwm1 148 rfl rfl
theorem wk_160 : Cond.fieldLink RX1 124 "GrindField$KeyTable" "values" "[I" ∈ lw_all := lwm1 149 rfl rfl
theorem wk_161 : Cond.fieldLink RX6 93 "GrindField$KeyTable" "values" "[I" ∈ lw_all := lwm1 150 rfl rfl
theorem wk_162 : Cond.fieldLink RX2 18 "GrindField$KeyTable" "length" "I" ∈ lw_all := lwm1 151 rfl rfl
theorem wk_163 : Cond.fieldLink RX1 82 "GrindField$KeyTable" "length" "I" ∈ lw_all := lwm1 152 rfl rfl
theorem wk_164 : Cond.fieldLink RX4 20 "GrindField$KeyTable" "length" "I" ∈ lw_all := lwm1 153 rfl rfl
theorem wk_165 : Cond.fieldLink RX6 84 "GrindField$KeyTable" "length" "I" ∈ lw_all := lwm1 154 rfl rfl
theorem wk_173 : Cond.classLink RX1 29 RX4 ∈ lw_all := lwm1 162 rfl rfl
theorem wk_174 : Cond.methodLink RX1 31 yX4_init ∈ lw_all := lwm1 163 rfl rfl
theorem wk_175 : Cond.fieldLink RX1 12 "GrindField$Job" "machine" "LGrindField$Machine;" ∈ lw_all := lwm1 164 rfl rfl
theorem wk_176 : Cond.fieldLink RX1 18 "GrindField$Job" "splitEnds" "[I" ∈ lw_all := lwm1 165 rfl rfl
theorem wk_177 : Cond.fieldLink RX1 25 "GrindField$Job" "splitTable" "LGrindField$KeyTable;" ∈ lw_all := lwm1 166 rfl rfl
theorem wk_178 : Cond.fieldLink RX1 34 "GrindField$Job" "joined" "LGrindField$PairRow;" ∈ lw_all := lwm1 167 rfl rfl
theorem wk_179 : Cond.fieldLink RX1 38 "GrindField$Job" "results" "LGrindField$KeyTable;" ∈ lw_all := lwm1 168 rfl rfl
theorem wk_180 : Cond.fieldLink RX6 80 "GrindField$Job" "results" "LGrindField$KeyTable;" ∈ lw_all := lwm1 169 rfl rfl
theorem wk_181 : Cond.fieldLink RX1 41 "GrindField$Job" "counts" "[I" ∈ lw_all := lwm1 170 rfl rfl
theorem wk_182 : Cond.fieldLink RX6 103 "GrindField$Job" "counts" "[I" ∈ lw_all := lwm1 171 rfl rfl
theorem wk_196 : Cond.fieldLink RX6 18 "GrindField" "size" "I" ∈ lw_all := lwm1 185 rfl rfl
theorem wk_197 : Cond.fieldLink RX6 27 "GrindField" "records" "LGrindField$PairRow;" ∈ lw_all := lwm1 186 rfl rfl
theorem wk_198 : Cond.fieldLink RX6 33 "GrindField" "programs" "[LGrindField$Program;" ∈ lw_all := lwm1 187 rfl rfl
theorem wk_199 : Cond.fieldLink RX6 41 "GrindField" "checker" "LGrindField$Checker;" ∈ lw_all := lwm1 188 rfl rfl
theorem wk_200 : Cond.fieldLink RX6 48 "GrindField" "job" "LGrindField$Job;" ∈ lw_all := lwm1 189 rfl rfl
theorem wk_212 : Cond.methodLink RL 21 yX6_record ∈ lw_all := lwm1 201 rfl rfl
theorem wk_213 : Cond.instanceMethod yX6_record ∈ lw_all := lwm1 202 rfl rfl
theorem wk_214 : Cond.selects RX6 yX6_record yX6_record ∈ lw_all := lwm1 203 rfl rfl
theorem wk_215 : Cond.code yX6_record cX6_record 3 (some .int) ∈ lw_all := lwm1 204 rfl rfl
theorem wk_216 : Cond.methodLink RX6 52 yX4_append ∈ lw_all := lwm1 205 rfl rfl
theorem wk_217 : Cond.instanceMethod yX4_append ∈ lw_all := lwm1 206 rfl rfl
theorem wk_218 : Cond.selects RX4 yX4_append yX4_append ∈ lw_all := lwm1 207 rfl rfl
theorem wk_219 : Cond.code yX4_append cX4_append 3 (some .boolean) ∈ lw_all := lwm1 208 rfl rfl
theorem wk_220 : Cond.methodLink RL 26 yX6_wipe ∈ lw_all := lwm1 209 rfl rfl
theorem wk_221 : Cond.instanceMethod yX6_wipe ∈ lw_all := lwm1 210 rfl rfl
theorem wk_222 : Cond.selects RX6 yX6_wipe yX6_wipe ∈ lw_all := lwm1 211 rfl rfl
theorem wk_223 : Cond.code yX6_wipe cX6_wipe 2 (some .int) ∈ lw_all := lwm1 212 rfl rfl
theorem wk_224 : Cond.methodLink RL 31 yX6_code ∈ lw_all := lwm1 213 rfl rfl
theorem wk_225 : Cond.instanceMethod yX6_code ∈ lw_all := lwm1 214 rfl rfl
theorem wk_226 : Cond.selects RX6 yX6_code yX6_code ∈ lw_all := lwm1 215 rfl rfl
theorem wk_227 : Cond.code yX6_code cX6_code 4 (some .int) ∈ lw_all := lwm1 216 rfl rfl
theorem wk_228 : Cond.methodLink RX6 59 yX6_isProgram ∈ lw_all := lwm1 217 rfl rfl
theorem wk_229 : Cond.static yX6_isProgram ∈ lw_all := lwm1 218 rfl rfl
theorem wk_230 : Cond.code yX6_isProgram cX6_isProgram 1 (some .boolean) ∈ lw_all := lwm1 219 rfl rfl
theorem wk_231 : Cond.methodLink RX6 63 yX5_append ∈ lw_all := lwm1 220 rfl rfl
theorem wk_232 : Cond.instanceMethod yX5_append ∈ lw_all := lwm1 221 rfl rfl
theorem wk_233 : Cond.selects RX5 yX5_append yX5_append ∈ lw_all := lwm1 222 rfl rfl
theorem wk_234 : Cond.code yX5_append cX5_append 3 (some .int) ∈ lw_all := lwm1 223 rfl rfl
theorem wk_235 : Cond.methodLink RL 36 yX6_clear ∈ lw_all := lwm1 224 rfl rfl
theorem wk_236 : Cond.instanceMethod yX6_clear ∈ lw_all := lwm1 225 rfl rfl
theorem wk_237 : Cond.selects RX6 yX6_clear yX6_clear ∈ lw_all := lwm1 226 rfl rfl
theorem wk_238 : Cond.code yX6_clear cX6_clear 3 (some .int) ∈ lw_all := lwm1 227 rfl rfl
theorem wk_239 : Cond.methodLink RL 41 yX6_check ∈ lw_all := lwm1 228 rfl rfl
theorem wk_240 : Cond.instanceMethod yX6_check ∈ lw_all := lwm1 229 rfl rfl
theorem wk_241 : Cond.selects RX6 yX6_check yX6_check ∈ lw_all := lwm1 230 rfl rfl
theorem wk_242 : Cond.code yX6_check cX6_check 2 (some .int) ∈ lw_all := lwm1 231 rfl rfl
theorem wk_243 : Cond.methodLink RX6 66 yX0_firstWrong ∈ lw_all := lwm1 232 rfl rfl
theorem wk_244 : Cond.instanceMethod yX0_firstWrong ∈ lw_all := lwm1 233 rfl rfl
theorem wk_245 : Cond.selects RX0 yX0_firstWrong yX0_firstWrong ∈ lw_all := lwm1 234 rfl rfl
theorem wk_246 : Cond.code yX0_firstWrong cX0_firstWrong 3 (some .int) ∈ lw_all := lwm1 235 rfl rfl
theorem wk_247 : Cond.methodLink RX0 27 yX0_walk ∈ lw_all := lwm1 236 rfl rfl
theorem wk_248 : Cond.instanceMethod yX0_walk ∈ lw_all := lwm1 237 rfl rfl
theorem wk_249 : Cond.selects RX0 yX0_walk yX0_walk ∈ lw_all := lwm1 238 rfl rfl
theorem wk_250 : Cond.code yX0_walk cX0_walk 3 none ∈ lw_all := lwm1 239 rfl rfl
theorem wk_251 : Cond.methodLink RX0 35 yJ7_fill_53178 ∈ lw_all := lwm2 0 rfl rfl
theorem wk_252 : Cond.static yJ7_fill_53178 ∈ lw_all := lwm2 1 rfl rfl
theorem wk_253 : Cond.code yJ7_fill_53178 cJ7_fill_53178 4 none ∈ lw_all := lwm2 2 rfl rfl
theorem wk_254 : Cond.methodLink RX0 41 yX0_reach ∈ lw_all := lwm2 3 rfl rfl
theorem wk_255 : Cond.instanceMethod yX0_reach ∈ lw_all := lwm2 4 rfl rfl
theorem wk_256 : Cond.selects RX0 yX0_reach yX0_reach ∈ lw_all := lwm2 5 rfl rfl
theorem wk_257 : Cond.code yX0_reach cX0_reach 3 none ∈ lw_all := lwm2 6 rfl rfl
theorem wk_258 : Cond.methodLink RX0 75 yX0_hasHeight ∈ lw_all := lwm2 7 rfl rfl
theorem wk_259 : Cond.instanceMethod yX0_hasHeight ∈ lw_all := lwm2 8 rfl rfl
theorem wk_260 : Cond.selects RX0 yX0_hasHeight yX0_hasHeight ∈ lw_all := lwm2 9 rfl rfl
theorem wk_261 : Cond.code yX0_hasHeight cX0_hasHeight 3 (some .boolean) ∈ lw_all := lwm2 10 rfl rfl
theorem wk_262 : Cond.methodLink RX0 45 yX0_goOn ∈ lw_all := lwm2 11 rfl rfl
theorem wk_263 : Cond.instanceMethod yX0_goOn ∈ lw_all := lwm2 12 rfl rfl
theorem wk_264 : Cond.selects RX0 yX0_goOn yX0_goOn ∈ lw_all := lwm2 13 rfl rfl
theorem wk_265 : Cond.code yX0_goOn cX0_goOn 6 none ∈ lw_all := lwm2 14 rfl rfl
theorem wk_266 : Cond.methodLink RX0 49 yX0_isMisformed ∈ lw_all := lwm2 15 rfl rfl
theorem wk_267 : Cond.instanceMethod yX0_isMisformed ∈ lw_all := lwm2 16 rfl rfl
theorem wk_268 : Cond.selects RX0 yX0_isMisformed yX0_isMisformed ∈ lw_all := lwm2 17 rfl rfl
theorem wk_269 : Cond.code yX0_isMisformed cX0_isMisformed 5 (some .boolean) ∈ lw_all := lwm2 18 rfl rfl
theorem wk_270 : Cond.methodLink RX0 94 yX5_argumentCount ∈ lw_all := lwm2 19 rfl rfl
theorem wk_271 : Cond.instanceMethod yX5_argumentCount ∈ lw_all := lwm2 20 rfl rfl
theorem wk_272 : Cond.selects RX5 yX5_argumentCount yX5_argumentCount ∈ lw_all := lwm2 21 rfl rfl
theorem wk_273 : Cond.code yX5_argumentCount cX5_argumentCount 1 (some .int) ∈ lw_all := lwm2 22 rfl rfl
theorem wk_274 : Cond.methodLinkNest RX0 65 yX6_isJump RX6 ∈ lw_tbl := lwt2 23 rfl
theorem wk_275 : Cond.static yX6_isJump ∈ lw_all := lwm2 24 rfl rfl
theorem wk_276 : Cond.code yX6_isJump cX6_isJump 1 (some .boolean) ∈ lw_all := lwm2 25 rfl rfl
theorem wk_277 : Cond.methodLink RX0 98 yX5_has ∈ lw_all := lwm2 26 rfl rfl
theorem wk_278 : Cond.instanceMethod yX5_has ∈ lw_all := lwm2 27 rfl rfl
theorem wk_279 : Cond.selects RX5 yX5_has yX5_has ∈ lw_all := lwm2 28 rfl rfl
theorem wk_280 : Cond.code yX5_has cX5_has 2 (some .boolean) ∈ lw_all := lwm2 29 rfl rfl
theorem wk_281 : Cond.methodLink RX0 52 yX0_lacksNext ∈ lw_all := lwm2 30 rfl rfl
theorem wk_282 : Cond.instanceMethod yX0_lacksNext ∈ lw_all := lwm2 31 rfl rfl
theorem wk_283 : Cond.selects RX0 yX0_lacksNext yX0_lacksNext ∈ lw_all := lwm2 32 rfl rfl
theorem wk_284 : Cond.code yX0_lacksNext cX0_lacksNext 3 (some .boolean) ∈ lw_all := lwm2 33 rfl rfl
theorem wk_285 : Cond.methodLink RX0 72 yX0_hasNext ∈ lw_all := lwm2 34 rfl rfl
theorem wk_286 : Cond.static yX0_hasNext ∈ lw_all := lwm2 35 rfl rfl
theorem wk_287 : Cond.code yX0_hasNext cX0_hasNext 1 (some .boolean) ∈ lw_all := lwm2 36 rfl rfl
theorem wk_288 : Cond.methodLink RX0 55 yX0_fits ∈ lw_all := lwm2 37 rfl rfl
theorem wk_289 : Cond.instanceMethod yX0_fits ∈ lw_all := lwm2 38 rfl rfl
theorem wk_290 : Cond.selects RX0 yX0_fits yX0_fits ∈ lw_all := lwm2 39 rfl rfl
theorem wk_291 : Cond.code yX0_fits cX0_fits 6 (some .boolean) ∈ lw_all := lwm2 40 rfl rfl
theorem wk_292 : Cond.fieldLink RX0 91 "GrindField$Checker" "NEEDED" "[I" ∈ lw_all := lwm2 41 rfl rfl
theorem wk_294 : Cond.fieldLink RX0 62 "GrindField$Checker" "GROWTH" "[I" ∈ lw_all := lwm2 43 rfl rfl
theorem wk_296 : Cond.methodLink RX0 31 yX0_isWrong ∈ lw_all := lwm2 45 rfl rfl
theorem wk_297 : Cond.instanceMethod yX0_isWrong ∈ lw_all := lwm2 46 rfl rfl
theorem wk_298 : Cond.selects RX0 yX0_isWrong yX0_isWrong ∈ lw_all := lwm2 47 rfl rfl
theorem wk_299 : Cond.code yX0_isWrong cX0_isWrong 3 (some .boolean) ∈ lw_all := lwm2 48 rfl rfl
theorem wk_300 : Cond.methodLink RX0 79 yJ6_bitCount_0f7a4 ∈ lw_all := lwm2 49 rfl rfl
theorem wk_301 : Cond.static yJ6_bitCount_0f7a4 ∈ lw_all := lwm2 50 rfl rfl
theorem wk_302 : Cond.code yJ6_bitCount_0f7a4 cJ6_bitCount_0f7a4 1 (some .int) ∈ lw_all := lwm2 51 rfl rfl
theorem wk_303 : Cond.constant RJ6 265 1431655765 ∈ lw_all := lwm2 52 rfl rfl
theorem wk_304 : Cond.constant RJ6 266 858993459 ∈ lw_all := lwm2 53 rfl rfl
theorem wk_305 : Cond.constant RJ6 267 252645135 ∈ lw_all := lwm2 54 rfl rfl
theorem wk_306 : Cond.methodLink RX0 85 yX0_fitsEveryHeight ∈ lw_all := lwm2 55 rfl rfl
theorem wk_307 : Cond.instanceMethod yX0_fitsEveryHeight ∈ lw_all := lwm2 56 rfl rfl
theorem wk_308 : Cond.selects RX0 yX0_fitsEveryHeight yX0_fitsEveryHeight ∈ lw_all := lwm2 57 rfl rfl
theorem wk_309 : Cond.code yX0_fitsEveryHeight cX0_fitsEveryHeight 4 (some .boolean) ∈ lw_all := lwm2 58 rfl rfl
theorem wk_310 : Cond.methodLink RL 45 yX6_run ∈ lw_all := lwm2 59 rfl rfl
theorem wk_311 : Cond.instanceMethod yX6_run ∈ lw_all := lwm2 60 rfl rfl
theorem wk_312 : Cond.selects RX6 yX6_run yX6_run ∈ lw_all := lwm2 61 rfl rfl
theorem wk_313 : Cond.code yX6_run cX6_run 2 (some .int) ∈ lw_all := lwm2 62 rfl rfl
theorem wk_314 : Cond.methodLink RX6 70 yX6_isGood ∈ lw_all := lwm2 63 rfl rfl
theorem wk_316 : Cond.instanceMethod yX6_isGood ∈ lw_all := lwm2 65 rfl rfl
theorem wk_317 : Cond.code yX6_isGood cX6_isGood 2 (some .boolean) ∈ lw_all := lwm2 66 rfl rfl
theorem wk_318 : Cond.methodLink RX6 73 yX6_isGoodOrEmpty ∈ lw_all := lwm2 67 rfl rfl
theorem wk_320 : Cond.instanceMethod yX6_isGoodOrEmpty ∈ lw_all := lwm2 69 rfl rfl
theorem wk_321 : Cond.code yX6_isGoodOrEmpty cX6_isGoodOrEmpty 3 (some .boolean) ∈ lw_all := lwm2 70 rfl rfl
theorem wk_322 : Cond.methodLink RX6 76 yX1_perform ∈ lw_all := lwm2 71 rfl rfl
theorem wk_323 : Cond.instanceMethod yX1_perform ∈ lw_all := lwm2 72 rfl rfl
theorem wk_324 : Cond.selects RX1 yX1_perform yX1_perform ∈ lw_all := lwm2 73 rfl rfl
theorem wk_325 : Cond.code yX1_perform cX1_perform 7 (some .int) ∈ lw_all := lwm2 74 rfl rfl
theorem wk_326 : Cond.methodLink RX1 44 yX1_forget ∈ lw_all := lwm2 75 rfl rfl
theorem wk_327 : Cond.instanceMethod yX1_forget ∈ lw_all := lwm2 76 rfl rfl
theorem wk_328 : Cond.selects RX1 yX1_forget yX1_forget ∈ lw_all := lwm2 77 rfl rfl
theorem wk_329 : Cond.code yX1_forget cX1_forget 2 none ∈ lw_all := lwm2 78 rfl rfl
theorem wk_330 : Cond.methodLink RX1 83 yX3_forget ∈ lw_all := lwm2 79 rfl rfl
theorem wk_331 : Cond.instanceMethod yX3_forget ∈ lw_all := lwm2 80 rfl rfl
theorem wk_332 : Cond.selects RX3 yX3_forget yX3_forget ∈ lw_all := lwm2 81 rfl rfl
theorem wk_333 : Cond.code yX3_forget cX3_forget 1 none ∈ lw_all := lwm2 82 rfl rfl
theorem wk_334 : Cond.methodLink RX3 46 yJ7_fill_53178 ∈ lw_all := lwm2 83 rfl rfl
theorem wk_335 : Cond.methodLink RX1 85 yJ7_fill_53178 ∈ lw_all := lwm2 84 rfl rfl
theorem wk_336 : Cond.methodLink RX1 51 yX1_mapRecords ∈ lw_all := lwm2 85 rfl rfl
theorem wk_337 : Cond.instanceMethod yX1_mapRecords ∈ lw_all := lwm2 86 rfl rfl
theorem wk_338 : Cond.selects RX1 yX1_mapRecords yX1_mapRecords ∈ lw_all := lwm2 87 rfl rfl
theorem wk_339 : Cond.code yX1_mapRecords cX1_mapRecords 6 (some .int) ∈ lw_all := lwm2 88 rfl rfl
theorem wk_340 : Cond.methodLink RX1 97 yX3_call ∈ lw_all := lwm2 89 rfl rfl
theorem wk_341 : Cond.instanceMethod yX3_call ∈ lw_all := lwm2 90 rfl rfl
theorem wk_342 : Cond.selects RX3 yX3_call yX3_call ∈ lw_all := lwm2 91 rfl rfl
theorem wk_343 : Cond.code yX3_call cX3_call 9 (some .int) ∈ lw_all := lwm2 92 rfl rfl
theorem wk_344 : Cond.methodLink RX3 52 yX3_begin ∈ lw_all := lwm2 93 rfl rfl
theorem wk_345 : Cond.instanceMethod yX3_begin ∈ lw_all := lwm2 94 rfl rfl
theorem wk_346 : Cond.selects RX3 yX3_begin yX3_begin ∈ lw_all := lwm2 95 rfl rfl
theorem wk_347 : Cond.code yX3_begin cX3_begin 4 none ∈ lw_all := lwm2 96 rfl rfl
theorem wk_348 : Cond.methodLink RX3 56 yX5_has ∈ lw_all := lwm2 97 rfl rfl
theorem wk_349 : Cond.methodLink RX3 71 yX3_pop ∈ lw_all := lwm2 98 rfl rfl
theorem wk_350 : Cond.instanceMethod yX3_pop ∈ lw_all := lwm2 99 rfl rfl
theorem wk_351 : Cond.selects RX3 yX3_pop yX3_pop ∈ lw_all := lwm2 100 rfl rfl
theorem wk_352 : Cond.code yX3_pop cX3_pop 1 (some .int) ∈ lw_all := lwm2 101 rfl rfl
theorem wk_353 : Cond.methodLinkNest RX3 75 yX6_isJump RX6 ∈ lw_tbl := lwt2 102 rfl
theorem wk_354 : Cond.methodLink RX3 78 yX3_jump ∈ lw_all := lwm2 103 rfl rfl
theorem wk_355 : Cond.instanceMethod yX3_jump ∈ lw_all := lwm2 104 rfl rfl
theorem wk_356 : Cond.selects RX3 yX3_jump yX3_jump ∈ lw_all := lwm2 105 rfl rfl
theorem wk_357 : Cond.code yX3_jump cX3_jump 4 (some .int) ∈ lw_all := lwm2 106 rfl rfl
theorem wk_358 : Cond.methodLinkNest RX3 82 yX6_isCombination RX6 ∈ lw_tbl := lwt2 107 rfl
theorem wk_359 : Cond.static yX6_isCombination ∈ lw_all := lwm2 108 rfl rfl
theorem wk_360 : Cond.code yX6_isCombination cX6_isCombination 1 (some .boolean) ∈ lw_all := lwm2 109 rfl rfl
theorem wk_361 : Cond.methodLink RX3 85 yX3_combine ∈ lw_all := lwm2 110 rfl rfl
theorem wk_362 : Cond.instanceMethod yX3_combine ∈ lw_all := lwm2 111 rfl rfl
theorem wk_363 : Cond.selects RX3 yX3_combine yX3_combine ∈ lw_all := lwm2 112 rfl rfl
theorem wk_364 : Cond.code yX3_combine cX3_combine 4 none ∈ lw_all := lwm2 113 rfl rfl
theorem wk_365 : Cond.methodLink RX3 92 yX3_combined ∈ lw_all := lwm2 114 rfl rfl
theorem wk_366 : Cond.static yX3_combined ∈ lw_all := lwm2 115 rfl rfl
theorem wk_367 : Cond.code yX3_combined cX3_combined 3 (some .int) ∈ lw_all := lwm2 116 rfl rfl
theorem wk_368 : Cond.methodLink RX3 95 yX3_push ∈ lw_all := lwm2 117 rfl rfl
theorem wk_369 : Cond.instanceMethod yX3_push ∈ lw_all := lwm2 118 rfl rfl
theorem wk_370 : Cond.selects RX3 yX3_push yX3_push ∈ lw_all := lwm2 119 rfl rfl
theorem wk_371 : Cond.code yX3_push cX3_push 2 none ∈ lw_all := lwm2 120 rfl rfl
theorem wk_372 : Cond.methodLink RX3 88 yX3_move ∈ lw_all := lwm2 121 rfl rfl
theorem wk_373 : Cond.instanceMethod yX3_move ∈ lw_all := lwm2 122 rfl rfl
theorem wk_374 : Cond.selects RX3 yX3_move yX3_move ∈ lw_all := lwm2 123 rfl rfl
theorem wk_375 : Cond.code yX3_move cX3_move 6 none ∈ lw_all := lwm2 124 rfl rfl
theorem wk_376 : Cond.methodLink RX3 98 yX3_store ∈ lw_all := lwm2 125 rfl rfl
theorem wk_377 : Cond.instanceMethod yX3_store ∈ lw_all := lwm2 126 rfl rfl
theorem wk_378 : Cond.selects RX3 yX3_store yX3_store ∈ lw_all := lwm2 127 rfl rfl
theorem wk_379 : Cond.code yX3_store cX3_store 3 none ∈ lw_all := lwm2 128 rfl rfl
theorem wk_380 : Cond.methodLink RX3 101 yX3_emit ∈ lw_all := lwm2 129 rfl rfl
theorem wk_381 : Cond.instanceMethod yX3_emit ∈ lw_all := lwm2 130 rfl rfl
theorem wk_382 : Cond.selects RX3 yX3_emit yX3_emit ∈ lw_all := lwm2 131 rfl rfl
theorem wk_383 : Cond.code yX3_emit cX3_emit 3 none ∈ lw_all := lwm2 132 rfl rfl
theorem wk_384 : Cond.methodLink RX3 104 yX4_append ∈ lw_all := lwm2 133 rfl rfl
theorem wk_385 : Cond.methodLink RX1 61 yX1_joinSplits ∈ lw_all := lwm2 134 rfl rfl
theorem wk_386 : Cond.instanceMethod yX1_joinSplits ∈ lw_all := lwm2 135 rfl rfl
theorem wk_387 : Cond.selects RX1 yX1_joinSplits yX1_joinSplits ∈ lw_all := lwm2 136 rfl rfl
theorem wk_388 : Cond.code yX1_joinSplits cX1_joinSplits 5 (some .int) ∈ lw_all := lwm2 137 rfl rfl
theorem wk_389 : Cond.methodLink RX1 104 yX1_merge ∈ lw_all := lwm2 138 rfl rfl
theorem wk_390 : Cond.instanceMethod yX1_merge ∈ lw_all := lwm2 139 rfl rfl
theorem wk_391 : Cond.selects RX1 yX1_merge yX1_merge ∈ lw_all := lwm2 140 rfl rfl
theorem wk_392 : Cond.code yX1_merge cX1_merge 10 (some .boolean) ∈ lw_all := lwm2 141 rfl rfl
theorem wk_393 : Cond.methodLink RX1 112 yX2_placeOf ∈ lw_all := lwm2 142 rfl rfl
theorem wk_394 : Cond.instanceMethod yX2_placeOf ∈ lw_all := lwm2 143 rfl rfl
theorem wk_395 : Cond.selects RX2 yX2_placeOf yX2_placeOf ∈ lw_all := lwm2 144 rfl rfl
theorem wk_396 : Cond.code yX2_placeOf cX2_placeOf 4 (some .int) ∈ lw_all := lwm2 145 rfl rfl
theorem wk_397 : Cond.methodLink RX1 116 yX2_holds ∈ lw_all := lwm2 146 rfl rfl
theorem wk_398 : Cond.instanceMethod yX2_holds ∈ lw_all := lwm2 147 rfl rfl
theorem wk_399 : Cond.selects RX2 yX2_holds yX2_holds ∈ lw_all := lwm2 148 rfl rfl
theorem wk_400 : Cond.code yX2_holds cX2_holds 3 (some .boolean) ∈ lw_all := lwm2 149 rfl rfl
theorem wk_401 : Cond.methodLink RX1 120 yX2_insert ∈ lw_all := lwm2 150 rfl rfl
theorem wk_402 : Cond.instanceMethod yX2_insert ∈ lw_all := lwm2 151 rfl rfl
theorem wk_403 : Cond.selects RX2 yX2_insert yX2_insert ∈ lw_all := lwm2 152 rfl rfl
theorem wk_404 : Cond.code yX2_insert cX2_insert 4 none ∈ lw_all := lwm2 153 rfl rfl
theorem wk_405 : Cond.methodLink RX2 22 arraycopyName ∈ lw_all := lwm2 154 rfl rfl
theorem wk_406 : Cond.static arraycopyName ∈ lw_all := lwm2 155 rfl rfl
theorem wk_407 : Cond.native arraycopyName ∈ lw_all := lwm2 156 rfl rfl
theorem wk_408 : Cond.methodLink RX1 108 yX4_appendAll ∈ lw_all := lwm2 157 rfl rfl
theorem wk_409 : Cond.instanceMethod yX4_appendAll ∈ lw_all := lwm2 158 rfl rfl
theorem wk_410 : Cond.selects RX4 yX4_appendAll yX4_appendAll ∈ lw_all := lwm2 159 rfl rfl
theorem wk_411 : Cond.code yX4_appendAll cX4_appendAll 3 none ∈ lw_all := lwm2 160 rfl rfl
theorem wk_412 : Cond.methodLink RX4 25 yX4_append ∈ lw_all := lwm2 161 rfl rfl
theorem wk_413 : Cond.methodLink RX1 65 yX1_foldValues ∈ lw_all := lwm2 162 rfl rfl
theorem wk_414 : Cond.instanceMethod yX1_foldValues ∈ lw_all := lwm2 163 rfl rfl
theorem wk_415 : Cond.selects RX1 yX1_foldValues yX1_foldValues ∈ lw_all := lwm2 164 rfl rfl
theorem wk_416 : Cond.code yX1_foldValues cX1_foldValues 3 (some .int) ∈ lw_all := lwm2 165 rfl rfl
theorem wk_417 : Cond.methodLink RX1 69 yX1_endKeys ∈ lw_all := lwm2 166 rfl rfl
theorem wk_418 : Cond.instanceMethod yX1_endKeys ∈ lw_all := lwm2 167 rfl rfl
theorem wk_419 : Cond.selects RX1 yX1_endKeys yX1_endKeys ∈ lw_all := lwm2 168 rfl rfl
theorem wk_420 : Cond.code yX1_endKeys cX1_endKeys 5 (some .int) ∈ lw_all := lwm2 169 rfl rfl
theorem wk_421 : Cond.methodLink RX1 76 arraycopyName ∈ lw_all := lwm2 170 rfl rfl
theorem wk_422 : Cond.methodLink RL 49 yX6_result ∈ lw_all := lwm2 171 rfl rfl
theorem wk_423 : Cond.instanceMethod yX6_result ∈ lw_all := lwm2 172 rfl rfl
theorem wk_424 : Cond.selects RX6 yX6_result yX6_result ∈ lw_all := lwm2 173 rfl rfl
theorem wk_425 : Cond.code yX6_result cX6_result 3 (some .long) ∈ lw_all := lwm2 174 rfl rfl
theorem wk_426 : Cond.constantLong RX6 87 1099511627776 ∈ lw_all := lwm2 175 rfl rfl
theorem wk_427 : Cond.methodLink RL 54 yX6_valueOf ∈ lw_all := lwm2 176 rfl rfl
theorem wk_428 : Cond.instanceMethod yX6_valueOf ∈ lw_all := lwm2 177 rfl rfl
theorem wk_429 : Cond.selects RX6 yX6_valueOf yX6_valueOf ∈ lw_all := lwm2 178 rfl rfl
theorem wk_430 : Cond.code yX6_valueOf cX6_valueOf 3 (some .long) ∈ lw_all := lwm2 179 rfl rfl
theorem wk_431 : Cond.methodLink RX6 96 yX2_placeOf ∈ lw_all := lwm2 180 rfl rfl
theorem wk_432 : Cond.methodLink RX6 100 yX2_holds ∈ lw_all := lwm2 181 rfl rfl
theorem wk_433 : Cond.methodLink RL 59 yX6_count ∈ lw_all := lwm2 182 rfl rfl
theorem wk_434 : Cond.instanceMethod yX6_count ∈ lw_all := lwm2 183 rfl rfl
theorem wk_435 : Cond.selects RX6 yX6_count yX6_count ∈ lw_all := lwm2 184 rfl rfl
theorem wk_436 : Cond.code yX6_count cX6_count 2 (some .int) ∈ lw_all := lwm2 185 rfl rfl
theorem wk_437 : Cond.methodLink RL 9 yL_cell ∈ lw_all := lwm2 186 rfl rfl
theorem wk_438 : Cond.static yL_cell ∈ lw_all := lwm2 187 rfl rfl
theorem wk_439 : Cond.code yL_cell cL_cell 2 (some .int) ∈ lw_all := lwm2 188 rfl rfl
theorem wk_440 : Cond.classLink RL 18 RX7 ∈ lw_all := lwm2 189 rfl rfl
theorem wk_441 : Cond.instantiable RX7 21 ∈ lw_all := lwm2 190 rfl rfl
theorem wk_442 : Cond.methodLink RL 20 yX7_init ∈ lw_all := lwm2 191 rfl rfl
theorem wk_443 : Cond.instanceMethod yX7_init ∈ lw_all := lwm2 192 rfl rfl
theorem wk_444 : Cond.code yX7_init cX7_init 4 none ∈ lw_all := lwm2 193 rfl rfl
theorem wk_445 : Cond.methodLink RX7 1 Lib.objectInit ∈ lw_all := lwm2 194 rfl rfl
theorem wk_446 : Cond.classLink RX7 16 "[[I" ∈ lw_all := lwm2 195 rfl rfl
theorem wk_448 : Cond.fieldLink RX7 55 "GrindFieldModel" "size" "I" ∈ lw_all := lwm2 197 rfl rfl
theorem wk_449 : Cond.fieldLink RX7 9 "GrindFieldModel" "recordKey" "[I" ∈ lw_all := lwm2 198 rfl rfl
theorem wk_450 : Cond.fieldLink RX7 13 "GrindFieldModel" "recordValue" "[I" ∈ lw_all := lwm2 199 rfl rfl
theorem wk_451 : Cond.fieldLink RX7 58 "GrindFieldModel" "records" "I" ∈ lw_all := lwm2 200 rfl rfl
theorem wk_452 : Cond.fieldLink RX7 18 "GrindFieldModel" "op" "[[I" ∈ lw_all := lwm2 201 rfl rfl
theorem wk_453 : Cond.fieldLink RX7 21 "GrindFieldModel" "number" "[[I" ∈ lw_all := lwm2 202 rfl rfl
theorem wk_454 : Cond.fieldLink RX7 24 "GrindFieldModel" "length" "[I" ∈ lw_all := lwm2 203 rfl rfl
theorem wk_455 : Cond.fieldLink RX7 27 "GrindFieldModel" "key" "[I" ∈ lw_all := lwm2 204 rfl rfl
theorem wk_456 : Cond.fieldLink RX7 30 "GrindFieldModel" "value" "[I" ∈ lw_all := lwm2 205 rfl rfl
theorem wk_457 : Cond.fieldLink RX7 33 "GrindFieldModel" "split" "[I" ∈ lw_all := lwm2 206 rfl rfl
theorem wk_458 : Cond.fieldLink RX7 96 "GrindFieldModel" "pairs" "I" ∈ lw_all := lwm2 207 rfl rfl
theorem wk_459 : Cond.fieldLink RX7 36 "GrindFieldModel" "resultKey" "[I" ∈ lw_all := lwm2 208 rfl rfl
theorem wk_460 : Cond.fieldLink RX7 39 "GrindFieldModel" "resultValue" "[I" ∈ lw_all := lwm2 209 rfl rfl
theorem wk_461 : Cond.fieldLink RX7 110 "GrindFieldModel" "results" "I" ∈ lw_all := lwm2 210 rfl rfl
theorem wk_462 : Cond.fieldLink RX7 42 "GrindFieldModel" "error" "I" ∈ lw_all := lwm2 211 rfl rfl
theorem wk_463 : Cond.fieldLink RX7 46 "GrindFieldModel" "told" "[I" ∈ lw_all := lwm2 212 rfl rfl
theorem wk_464 : Cond.fieldLink RX7 49 "GrindFieldModel" "stack" "[I" ∈ lw_all := lwm2 213 rfl rfl
theorem wk_465 : Cond.fieldLink RX7 52 "GrindFieldModel" "local" "[I" ∈ lw_all := lwm2 214 rfl rfl
theorem wk_466 : Cond.fieldLink RX7 89 "GrindFieldModel" "steps" "I" ∈ lw_all := lwm2 215 rfl rfl
theorem wk_467 : Cond.fieldLink RX7 99 "GrindFieldModel" "result" "I" ∈ lw_all := lwm2 216 rfl rfl
theorem wk_468 : Cond.fieldLink RX7 92 "GrindFieldModel" "without" "Z" ∈ lw_all := lwm2 217 rfl rfl
theorem wk_512 : Cond.methodLink RL 25 yX7_record ∈ lw_all := lwm3 21 rfl rfl
theorem wk_513 : Cond.instanceMethod yX7_record ∈ lw_all := lwm3 22 rfl rfl
theorem wk_514 : Cond.selects RX7 yX7_record yX7_record ∈ lw_all := lwm3 23 rfl rfl
theorem wk_515 : Cond.code yX7_record cX7_record 3 (some .int) ∈ lw_all := lwm3 24 rfl rfl
theorem wk_516 : Cond.methodLink RL 30 yX7_wipe ∈ lw_all := lwm3 25 rfl rfl
theorem wk_517 : Cond.instanceMethod yX7_wipe ∈ lw_all := lwm3 26 rfl rfl
theorem wk_518 : Cond.selects RX7 yX7_wipe yX7_wipe ∈ lw_all := lwm3 27 rfl rfl
theorem wk_519 : Cond.code yX7_wipe cX7_wipe 2 (some .int) ∈ lw_all := lwm3 28 rfl rfl
theorem wk_520 : Cond.methodLink RL 35 yX7_code ∈ lw_all := lwm3 29 rfl rfl
theorem wk_521 : Cond.instanceMethod yX7_code ∈ lw_all := lwm3 30 rfl rfl
theorem wk_522 : Cond.selects RX7 yX7_code yX7_code ∈ lw_all := lwm3 31 rfl rfl
theorem wk_523 : Cond.code yX7_code cX7_code 4 (some .int) ∈ lw_all := lwm3 32 rfl rfl
theorem wk_524 : Cond.methodLink RX7 61 yX7_is ∈ lw_all := lwm3 33 rfl rfl
theorem wk_525 : Cond.static yX7_is ∈ lw_all := lwm3 34 rfl rfl
theorem wk_526 : Cond.code yX7_is cX7_is 1 (some .boolean) ∈ lw_all := lwm3 35 rfl rfl
theorem wk_527 : Cond.methodLink RL 40 yX7_clear ∈ lw_all := lwm3 36 rfl rfl
theorem wk_528 : Cond.instanceMethod yX7_clear ∈ lw_all := lwm3 37 rfl rfl
theorem wk_529 : Cond.selects RX7 yX7_clear yX7_clear ∈ lw_all := lwm3 38 rfl rfl
theorem wk_530 : Cond.code yX7_clear cX7_clear 3 (some .int) ∈ lw_all := lwm3 39 rfl rfl
theorem wk_531 : Cond.methodLink RL 44 yX7_check ∈ lw_all := lwm3 40 rfl rfl
theorem wk_532 : Cond.instanceMethod yX7_check ∈ lw_all := lwm3 41 rfl rfl
theorem wk_533 : Cond.selects RX7 yX7_check yX7_check ∈ lw_all := lwm3 42 rfl rfl
theorem wk_534 : Cond.code yX7_check cX7_check 2 (some .int) ∈ lw_all := lwm3 43 rfl rfl
theorem wk_535 : Cond.methodLink RX7 80 yX7_firstWrong ∈ lw_all := lwm3 44 rfl rfl
theorem wk_537 : Cond.instanceMethod yX7_firstWrong ∈ lw_all := lwm3 46 rfl rfl
theorem wk_538 : Cond.code yX7_firstWrong cX7_firstWrong 13 (some .int) ∈ lw_all := lwm3 47 rfl rfl
theorem wk_539 : Cond.methodLink RX7 68 yX7_isBad ∈ lw_all := lwm3 48 rfl rfl
theorem wk_541 : Cond.instanceMethod yX7_isBad ∈ lw_all := lwm3 50 rfl rfl
theorem wk_542 : Cond.code yX7_isBad cX7_isBad 5 (some .boolean) ∈ lw_all := lwm3 51 rfl rfl
theorem wk_543 : Cond.fieldLink RX7 65 "GrindFieldModel" "ARGUMENTS" "[I" ∈ lw_all := lwm3 52 rfl rfl
theorem wk_545 : Cond.methodLink RX7 72 yX7_grows ∈ lw_all := lwm3 54 rfl rfl
theorem wk_546 : Cond.static yX7_grows ∈ lw_all := lwm3 55 rfl rfl
theorem wk_547 : Cond.code yX7_grows cX7_grows 1 (some .int) ∈ lw_all := lwm3 56 rfl rfl
theorem wk_548 : Cond.methodLink RX7 76 yX7_needs ∈ lw_all := lwm3 57 rfl rfl
theorem wk_549 : Cond.static yX7_needs ∈ lw_all := lwm3 58 rfl rfl
theorem wk_550 : Cond.code yX7_needs cX7_needs 2 (some .int) ∈ lw_all := lwm3 59 rfl rfl
theorem wk_551 : Cond.methodLink RL 48 yX7_run ∈ lw_all := lwm3 60 rfl rfl
theorem wk_552 : Cond.instanceMethod yX7_run ∈ lw_all := lwm3 61 rfl rfl
theorem wk_553 : Cond.selects RX7 yX7_run yX7_run ∈ lw_all := lwm3 62 rfl rfl
theorem wk_554 : Cond.code yX7_run cX7_run 2 (some .int) ∈ lw_all := lwm3 63 rfl rfl
theorem wk_555 : Cond.methodLink RX7 126 yX7_good ∈ lw_all := lwm3 64 rfl rfl
theorem wk_557 : Cond.instanceMethod yX7_good ∈ lw_all := lwm3 66 rfl rfl
theorem wk_558 : Cond.code yX7_good cX7_good 3 (some .boolean) ∈ lw_all := lwm3 67 rfl rfl
theorem wk_559 : Cond.methodLink RX7 83 yJ7_fill_53178 ∈ lw_all := lwm3 68 rfl rfl
theorem wk_560 : Cond.methodLink RX7 130 yX7_done ∈ lw_all := lwm3 69 rfl rfl
theorem wk_562 : Cond.instanceMethod yX7_done ∈ lw_all := lwm3 71 rfl rfl
theorem wk_563 : Cond.code yX7_done cX7_done 1 (some .boolean) ∈ lw_all := lwm3 72 rfl rfl
theorem wk_564 : Cond.methodLink RX7 113 yX7_map ∈ lw_all := lwm3 73 rfl rfl
theorem wk_566 : Cond.instanceMethod yX7_map ∈ lw_all := lwm3 75 rfl rfl
theorem wk_567 : Cond.code yX7_map cX7_map 2 (some .boolean) ∈ lw_all := lwm3 76 rfl rfl
theorem wk_568 : Cond.methodLink RX7 106 yX7_call ∈ lw_all := lwm3 77 rfl rfl
theorem wk_570 : Cond.instanceMethod yX7_call ∈ lw_all := lwm3 79 rfl rfl
theorem wk_571 : Cond.code yX7_call cX7_call 12 (some .boolean) ∈ lw_all := lwm3 80 rfl rfl
theorem wk_572 : Cond.methodLink RX7 102 yX7_reckoned ∈ lw_all := lwm3 81 rfl rfl
theorem wk_573 : Cond.static yX7_reckoned ∈ lw_all := lwm3 82 rfl rfl
theorem wk_574 : Cond.code yX7_reckoned cX7_reckoned 3 (some .int) ∈ lw_all := lwm3 83 rfl rfl
theorem wk_575 : Cond.methodLink RX7 117 yX7_join ∈ lw_all := lwm3 84 rfl rfl
theorem wk_577 : Cond.instanceMethod yX7_join ∈ lw_all := lwm3 86 rfl rfl
theorem wk_578 : Cond.code yX7_join cX7_join 4 (some .boolean) ∈ lw_all := lwm3 87 rfl rfl
theorem wk_579 : Cond.methodLink RX7 120 yX7_fold ∈ lw_all := lwm3 88 rfl rfl
theorem wk_581 : Cond.instanceMethod yX7_fold ∈ lw_all := lwm3 90 rfl rfl
theorem wk_582 : Cond.code yX7_fold cX7_fold 4 (some .boolean) ∈ lw_all := lwm3 91 rfl rfl
theorem wk_583 : Cond.methodLink RX7 123 yX7_end ∈ lw_all := lwm3 92 rfl rfl
theorem wk_585 : Cond.instanceMethod yX7_end ∈ lw_all := lwm3 94 rfl rfl
theorem wk_586 : Cond.code yX7_end cX7_end 3 (some .boolean) ∈ lw_all := lwm3 95 rfl rfl
theorem wk_587 : Cond.methodLink RL 53 yX7_result ∈ lw_all := lwm3 96 rfl rfl
theorem wk_588 : Cond.instanceMethod yX7_result ∈ lw_all := lwm3 97 rfl rfl
theorem wk_589 : Cond.selects RX7 yX7_result yX7_result ∈ lw_all := lwm3 98 rfl rfl
theorem wk_590 : Cond.code yX7_result cX7_result 3 (some .long) ∈ lw_all := lwm3 99 rfl rfl
theorem wk_591 : Cond.constantLong RX7 133 1099511627776 ∈ lw_all := lwm3 100 rfl rfl
theorem wk_592 : Cond.methodLink RL 58 yX7_valueOf ∈ lw_all := lwm3 101 rfl rfl
theorem wk_593 : Cond.instanceMethod yX7_valueOf ∈ lw_all := lwm3 102 rfl rfl
theorem wk_594 : Cond.selects RX7 yX7_valueOf yX7_valueOf ∈ lw_all := lwm3 103 rfl rfl
theorem wk_595 : Cond.code yX7_valueOf cX7_valueOf 3 (some .long) ∈ lw_all := lwm3 104 rfl rfl
theorem wk_596 : Cond.methodLink RL 62 yX7_count ∈ lw_all := lwm3 105 rfl rfl
theorem wk_597 : Cond.instanceMethod yX7_count ∈ lw_all := lwm3 106 rfl rfl
theorem wk_598 : Cond.selects RX7 yX7_count yX7_count ∈ lw_all := lwm3 107 rfl rfl
theorem wk_599 : Cond.code yX7_count cX7_count 2 (some .int) ∈ lw_all := lwm3 108 rfl rfl
theorem wi_0 : ∀ w ∈ u_ws RX0 TX0 3, w ∈ lw_all := by decide +kernel
theorem wz_0 {y : MethodName} {b : ByteArray} {n : Nat} {r : Option FieldType} : ∀ w ∈ u_ws RX0 TX0 3, w ∈ zTs y b n r := fun w h => zTs_in (wi_0 w h)
theorem wi_1 : ∀ w ∈ u_ws RX1 TX1 6, w ∈ lw_all := by decide +kernel
theorem wz_1 {y : MethodName} {b : ByteArray} {n : Nat} {r : Option FieldType} : ∀ w ∈ u_ws RX1 TX1 6, w ∈ zTs y b n r := fun w h => zTs_in (wi_1 w h)
theorem wi_2 : ∀ w ∈ u_ws RX2 TX2 3, w ∈ lw_all := by decide +kernel
theorem wz_2 {y : MethodName} {b : ByteArray} {n : Nat} {r : Option FieldType} : ∀ w ∈ u_ws RX2 TX2 3, w ∈ zTs y b n r := fun w h => zTs_in (wi_2 w h)
theorem wi_3 : ∀ w ∈ u_ws RX3 TX3 8, w ∈ lw_all := by decide +kernel
theorem wz_3 {y : MethodName} {b : ByteArray} {n : Nat} {r : Option FieldType} : ∀ w ∈ u_ws RX3 TX3 8, w ∈ zTs y b n r := fun w h => zTs_in (wi_3 w h)
theorem wi_4 : ∀ w ∈ u_ws RX4 TX4 3, w ∈ lw_all := by decide +kernel
theorem wz_4 {y : MethodName} {b : ByteArray} {n : Nat} {r : Option FieldType} : ∀ w ∈ u_ws RX4 TX4 3, w ∈ zTs y b n r := fun w h => zTs_in (wi_4 w h)
theorem wi_5 : ∀ w ∈ u_ws RX5 TX5 4, w ∈ lw_all := by decide +kernel
theorem wz_5 {y : MethodName} {b : ByteArray} {n : Nat} {r : Option FieldType} : ∀ w ∈ u_ws RX5 TX5 4, w ∈ zTs y b n r := fun w h => zTs_in (wi_5 w h)
theorem wi_6 : ∀ w ∈ u_ws RX6 TX6 5, w ∈ lw_all := by decide +kernel
theorem wz_6 {y : MethodName} {b : ByteArray} {n : Nat} {r : Option FieldType} : ∀ w ∈ u_ws RX6 TX6 5, w ∈ zTs y b n r := fun w h => zTs_in (wi_6 w h)
theorem wi_7 : ∀ w ∈ u_ws RX7 TX7 21, w ∈ lw_all := by decide +kernel
theorem wz_7 {y : MethodName} {b : ByteArray} {n : Nat} {r : Option FieldType} : ∀ w ∈ u_ws RX7 TX7 21, w ∈ zTs y b n r := fun w h => zTs_in (wi_7 w h)
end
section
/-! the judgement Z: a state of one method, symbolic: place, locals, stack, world; and a rule an instruction -/
def zNeed (j : Nat) : Int32 := ([0, 0, 0, 1, 1, 2, 1, 2, 2, 2, 2, 2, 2, 2, 0, 1, 2, 1, 0] : List Int32).getD j 0
def zGrow (j : Nat) : Int32 := ([1, 1, 1, -1, 1, 0, -1, -1, -1, -1, -1, -1, -1, -1, 0, -1, -2, 0, 0] : List Int32).getD j 0
def zArgs (j : Nat) : Int32 := ([2, 3, 3, 2] : List Int32).getD j 0
/-- what stays: the classes' places, the array classes of int, Program and int[], the tables' addresses -/
abbrev zE : Type := va_G × ClassId × ClassId × ClassId × Nat × Nat × Nat
abbrev zcI (E : zE) : ClassId := E.2.1
abbrev zcP (E : zE) : ClassId := E.2.2.1
abbrev zcG (E : zE) : ClassId := E.2.2.2.1
abbrev ztN (E : zE) : Nat := E.2.2.2.2.1
abbrev ztG (E : zE) : Nat := E.2.2.2.2.2.1
abbrev ztA (E : zE) : Nat := E.2.2.2.2.2.2
abbrev zT (E : zE) : List (ClassId × FieldType) := [(zcI E, .int), (zcP E, .object "GrindField$Program"), (zcG E, .array .int)]
/-- an int array, an object, an array of references -/
abbrev zi (E : zE) (n : Nat) (f : Nat → Int32) : va_E := .inl (zcI E, n, .inl f)
abbrev zo (k : Nat) (fs : List Value) : va_E := .inr (k, fs)
abbrev zp (E : zE) (n : Nat) (f : Nat → Option Nat) : va_E := .inl (zcP E, n, .inr (.inr (.inr (.inr f))))
abbrev zg (E : zE) (n : Nat) (f : Nat → Option Nat) : va_E := .inl (zcG E, n, .inr (.inr (.inr (.inr f))))
/-- the links between nest mates, the arrays over Program and int[] -/
def zAOA (U : State) : Prop := (Cond.arrayOver (.array .int)).before #[] U = true
theorem zAOA.moved {u U : State} (hvm : u.vm.Alike U.vm) (h : zAOA u) : zAOA U := by
  have h1 : (Cond.arrayOver (.array .int)).before #[] (u.setVm U.vm) = true := (Cond.arrayOver_setVmC (args := #[]) hvm (.array .int)).trans h
  have h2 : (Cond.arrayOver (.array .int)).before #[] U = (Cond.arrayOver (.array .int)).before #[] (u.setVm U.vm) := by
    unfold Cond.before Cond.holds
    simp only [Cond.value]
    rfl
  exact h2.trans h1
def zN (U : State) : Prop := (va_Nw (.methodLinkNest RX6 40 yX0_init RX6) U ∧ va_Nw (.methodLinkNest RX1 11 yX3_init RX6) U ∧ va_Nw (.methodLinkNest RX1 24 yX2_init RX6) U ∧ va_Nw (.methodLinkNest RX0 65 yX6_isJump RX6) U ∧ va_Nw (.methodLinkNest RX3 75 yX6_isJump RX6) U ∧ va_Nw (.methodLinkNest RX3 82 yX6_isCombination RX6) U) ∧ va_AO "GrindField$Program" U ∧ zAOA U
theorem zN.step {u U : State} (hW : u.WarmedH U.vm) (h : zN u) : zN U := by
  obtain ⟨⟨h1, h2, h3, h4, h5, h6⟩, h7, h8⟩ := h
  exact ⟨⟨h1.warmM hW, h2.warmM hW, h3.warmM hW, h4.warmM hW, h5.warmM hW, h6.warmM hW⟩, h7.moved hW.alike, h8.moved hW.alike⟩
def zS (E : zE) (A : Nat → Prop) (U : State) : Prop := zN U ∧
  (va_Z "GrindField$Checker" "NEEDED" "[I" (.ref (ztN E)) A U U.heap ∧ va_T .int (ztN E) 19 (fun j => .int (zNeed j)) A U U.heap) ∧
  (va_Z "GrindField$Checker" "GROWTH" "[I" (.ref (ztG E)) A U U.heap ∧ va_T .int (ztG E) 19 (fun j => .int (zGrow j)) A U U.heap) ∧
  (va_Z "GrindFieldModel" "ARGUMENTS" "[I" (.ref (ztA E)) A U U.heap ∧ va_T .int (ztA E) 4 (fun j => .int (zArgs j)) A U U.heap)
theorem zS.step {E : zE} {A B : Nat → Prop} {u U : State} (h : zS E A u) (hW : u.WarmedH U.vm) (hq : ∀ a : Nat, a < u.heap.size → ¬ A a → U.heap[a]? = u.heap[a]?) (hAB : ∀ q, B q → A q) : zS E B U := by
  obtain ⟨n0, ⟨a1, a2⟩, ⟨b1, b2⟩, ⟨c1, c2⟩⟩ := h
  have hvm := hW.alike
  exact ⟨n0.step hW, ⟨((a1.moved hvm).kept hq).narrow hAB, ((a2.moved hvm).kept hq).narrow hAB⟩, ⟨((b1.moved hvm).kept hq).narrow hAB, ((b2.moved hvm).kept hq).narrow hAB⟩, ⟨((c1.moved hvm).kept hq).narrow hAB, ((c2.moved hvm).kept hq).narrow hAB⟩⟩
/-- what a method's walk rests on, from its entry to its end -/
def zC (E : zE) (p : Program) (s : State) (m : MethodId) (args : Array Value) (meth : Method) (c : Code) (cc : ByteArray) (nL : Nat) (ret : Option FieldType) (own : String) (Ts : List Cond) (A : Nat → Prop) : Prop :=
  p.tables.exec = Jvm.exec ∧ c.code = cc ∧ meth.sig.returnType = ret ∧ c.maxLocals = nL ∧ s.vm.findClass own = some m.cls ∧ (∀ w ∈ Ts, w.before args s = true) ∧ meth.locks = false ∧ va_K E.1 vwCl (zT E) s ∧ (∀ q : Nat, s.heap.size ≤ q → A q) ∧ zS E A s
def Z (E : zE) (p : Program) (l : Launch) (e : Env) (R : Room) (s : State) (m : MethodId) (args : Array Value) (below : List Frame) (meth : Method) (c : Code) (Q : State → Prop) (A : Nat → Prop) (nL : Nat) (pc : Nat) (L : List (Nat × Value)) (st : List Value) (ws : va_W) (cells slots : Nat) : Prop :=
  ∀ (H : Heap) (locs : List Loc) (ls : Array Slot), va_P E.1 vwCl ws H → va_D A ws → va_S A s.heap H locs → lv_has ls nL L → W p l e R s m args below meth c H locs cells slots Q (F0 m pc ls st)
abbrev zPost (E : zE) (A : Nat → Prop) (w : va_W) (t : State) : Prop := va_P E.1 vwCl w t.heap ∧ va_K E.1 vwCl (zT E) t ∧ va_D A w
def zPre (E : zE) (av : List Value) (w0 : va_W) (sz : Nat) : Array Value → State → Prop :=
  va_Pc av (fun U => U.heap.size = sz ∧ va_P E.1 vwCl w0 U.heap ∧ va_K E.1 vwCl (zT E) U ∧ va_D (fun _ => True) w0 ∧ zS E (va_A w0 sz) U)
def zMi (l : Launch) (E : zE) (y : MethodName) (ws : List Cond) (rm : Room) (av : List Value) (w0 : va_W) (B : Int32 → va_W → Prop) (mc ms : Nat) : Prop :=
  ∀ sz : Nat, Met l y ws rm (zPre E av w0 sz) (va_Qi B (zPost E (va_A w0 sz)) (va_A w0 sz)) mc ms (va_A w0 sz)
def zMl (l : Launch) (E : zE) (y : MethodName) (ws : List Cond) (rm : Room) (av : List Value) (w0 : va_W) (B : Int64 → va_W → Prop) (mc ms : Nat) : Prop :=
  ∀ sz : Nat, Met l y ws rm (zPre E av w0 sz) (va_Ql B (zPost E (va_A w0 sz)) (va_A w0 sz)) mc ms (va_A w0 sz)
def zMv (l : Launch) (E : zE) (y : MethodName) (ws : List Cond) (rm : Room) (av : List Value) (w0 : va_W) (B : va_W → Prop) (mc ms : Nat) : Prop :=
  ∀ sz : Nat, Met l y ws rm (zPre E av w0 sz) (va_Qv B (zPost E (va_A w0 sz)) (va_A w0 sz)) mc ms (va_A w0 sz)
theorem zPre.blind {E : zE} {av : List Value} {w0 : va_W} {sz : Nat} : FrameBlind (zPre E av w0 sz) := fun a U g mk q => by
  obtain ⟨q0, q1, qP, qK, qD, qS⟩ := q
  exact ⟨q0, q1, qP, va_K.moved (u := U) (U := U.calling g mk a) (Vm.Alike.refl U.vm) qK, qD, qS.step (U := U.calling g mk a) (State.WarmedH.refl U) (fun _ _ _ => rfl) (fun _ h => h)⟩
theorem zPre.at {E : zE} {av : List Value} {w0 : va_W} {A : Nat → Prop} {s U : State} {H : Heap} {locs : List Loc} (hP : va_P E.1 vwCl w0 H) (hK : va_K E.1 vwCl (zT E) s) (hD : va_D (fun _ => True) w0) (hx : zS E A s) (hS : va_S A s.heap H locs) (hF : ∀ q, va_A w0 H.size q → A q) (hU : U.heap = H) (hW : s.WarmedH U.vm) : zPre E av w0 H.size av.toArray U := by
  refine ⟨rfl, by rw [hU], by rw [hU]; exact hP, va_K.moved hW.alike hK, hD, ?_⟩
  exact hx.step hW (fun a h1 h2 => by rw [hU]; exact hS.2.1 a h1 h2) hF
section ZK
variable {E : zE} {p : Program} {l : Launch} {e : Env} {R : Room} {s : State} {m : MethodId} {args : Array Value} {below : List Frame} {meth : Method} {c : Code} {Q : State → Prop}
variable {cc : ByteArray} {nL : Nat} {ret : Option FieldType} {own : String} {Ts : List Cond} {A : Nat → Prop}
variable {pc : Nat} {L : List (Nat × Value)} {st : List Value} {ws : va_W} {cells slots : Nat}

theorem z_iconst (q : Nat) (C0 : zC E p s m args meth c cc nL ret own Ts A) {n : Int} {v : Int32} (hd : decode cc pc = .ok (.iconst n, 1)) (hq : pc + 1 = q) (hv : Int32.ofInt n = v) (k : Z E p l e R s m args below meth c Q A nL q L (.int v :: st) ws cells slots) : Z E p l e R s m args below meth c Q A nL pc L (st) ws cells slots := by
  subst hq
  intro H locs ls hP hD hS hl
  have hx := C0.1
  have hb := C0.2.1
  exact lv_iconst hx hb hd hv (k H locs ls hP hD hS hl)
theorem z_bipush (q : Nat) (C0 : zC E p s m args meth c cc nL ret own Ts A) {n : Int} {v : Int32} (hd : decode cc pc = .ok (.bipush n, 2)) (hq : pc + 2 = q) (hv : (Int8.ofInt n).toInt32 = v) (k : Z E p l e R s m args below meth c Q A nL q L (.int v :: st) ws cells slots) : Z E p l e R s m args below meth c Q A nL pc L (st) ws cells slots := by
  subst hq
  intro H locs ls hP hD hS hl
  have hx := C0.1
  have hb := C0.2.1
  exact lv_bipush hx hb hd hv (k H locs ls hP hD hS hl)
theorem z_sipush (q : Nat) (C0 : zC E p s m args meth c cc nL ret own Ts A) {n : Int} {v : Int32} (hd : decode cc pc = .ok (.sipush n, 3)) (hq : pc + 3 = q) (hv : (Int16.ofInt n).toInt32 = v) (k : Z E p l e R s m args below meth c Q A nL q L (.int v :: st) ws cells slots) : Z E p l e R s m args below meth c Q A nL pc L (st) ws cells slots := by
  subst hq
  intro H locs ls hP hD hS hl
  have hx := C0.1
  have hb := C0.2.1
  exact lv_sipush hx hb hd hv (k H locs ls hP hD hS hl)
theorem z_ldc2 (q : Nat) (C0 : zC E p s m args meth c cc nL ret own Ts A) {v : Int64} {i : Nat} (hw : Cond.constantLong own i v ∈ Ts) (hd : decode cc pc = .ok (.ldc2_w i, 3)) (hq : pc + 3 = q) (k : Z E p l e R s m args below meth c Q A nL q L (.long v :: st) ws cells slots) : Z E p l e R s m args below meth c Q A nL pc L st ws cells slots := by
  subst hq
  intro H locs ls hP hD hS hl
  have hx := C0.1
  have hb := C0.2.1
  exact lv_ldc2 hx hb C0.2.2.2.2.1 (C0.2.2.2.2.2.1 _ hw) hd (k H locs ls hP hD hS hl)
theorem z_ldcw (q : Nat) (C0 : zC E p s m args meth c cc nL ret own Ts A) {v : Int32} {i : Nat} (hw : Cond.constant own i v ∈ Ts) (hd : decode cc pc = .ok (.ldc_w i, 3)) (hq : pc + 3 = q) (k : Z E p l e R s m args below meth c Q A nL q L (.int v :: st) ws cells slots) : Z E p l e R s m args below meth c Q A nL pc L st ws cells slots := by
  subst hq
  intro H locs ls hP hD hS hl
  have hx := C0.1
  have hb := C0.2.1
  exact lv_ldcw hx hb C0.2.2.2.2.1 (C0.2.2.2.2.2.1 _ hw) hd (k H locs ls hP hD hS hl)
theorem z_iload_n (q : Nat) (C0 : zC E p s m args meth c cc nL ret own Ts A) (j : Nat) {kk : Fin 4} {i : Nat} {x : Int32} (hd : decode cc pc = .ok (.iload_n kk, 1)) (hq : pc + 1 = q) (hi : (kk : Nat) = i) (hj : L[j]? = some (i, .int x)) (k : Z E p l e R s m args below meth c Q A nL q L (.int x :: st) ws cells slots) : Z E p l e R s m args below meth c Q A nL pc L st ws cells slots := by
  subst hq
  intro H locs ls hP hD hS hl
  have hx := C0.1
  have hb := C0.2.1
  exact lv_iload_n hx hb hd hi (lv_at hl j hj) (k H locs ls hP hD hS hl)
theorem z_iload (q : Nat) (C0 : zC E p s m args meth c cc nL ret own Ts A) (j : Nat) {i : Nat} {x : Int32} (hd : decode cc pc = .ok (.iload i, 2)) (hq : pc + 2 = q) (hj : L[j]? = some (i, .int x)) (k : Z E p l e R s m args below meth c Q A nL q L (.int x :: st) ws cells slots) : Z E p l e R s m args below meth c Q A nL pc L st ws cells slots := by
  subst hq
  intro H locs ls hP hD hS hl
  have hx := C0.1
  have hb := C0.2.1
  exact lv_iload hx hb hd (lv_at hl j hj) (k H locs ls hP hD hS hl)
theorem z_aload_n (q : Nat) (C0 : zC E p s m args meth c cc nL ret own Ts A) (j : Nat) {kk : Fin 4} {i : Nat} {x : Nat} (hd : decode cc pc = .ok (.aload_n kk, 1)) (hq : pc + 1 = q) (hi : (kk : Nat) = i) (hj : L[j]? = some (i, .ref x)) (k : Z E p l e R s m args below meth c Q A nL q L (.ref x :: st) ws cells slots) : Z E p l e R s m args below meth c Q A nL pc L st ws cells slots := by
  subst hq
  intro H locs ls hP hD hS hl
  have hx := C0.1
  have hb := C0.2.1
  exact lv_aload_n hx hb hd hi (lv_at hl j hj) (k H locs ls hP hD hS hl)
theorem z_aload (q : Nat) (C0 : zC E p s m args meth c cc nL ret own Ts A) (j : Nat) {i : Nat} {x : Nat} (hd : decode cc pc = .ok (.aload i, 2)) (hq : pc + 2 = q) (hj : L[j]? = some (i, .ref x)) (k : Z E p l e R s m args below meth c Q A nL q L (.ref x :: st) ws cells slots) : Z E p l e R s m args below meth c Q A nL pc L st ws cells slots := by
  subst hq
  intro H locs ls hP hD hS hl
  have hx := C0.1
  have hb := C0.2.1
  exact lv_aload hx hb hd (lv_at hl j hj) (k H locs ls hP hD hS hl)
theorem z_istore_n (q : Nat) (C0 : zC E p s m args meth c cc nL ret own Ts A) (ks : List Nat) (L1 : List (Nat × Value)) {kk : Fin 4} {i : Nat} {x : Int32} (hd : decode cc pc = .ok (.istore_n kk, 1)) (hq : pc + 1 = q) (hi : (kk : Nat) = i) (hn : i < nL) (hL : lv_pick ((i, Value.int x) :: L.filter (fun q => !(q.1 == i) && !(q.1 + 1 == i && q.2.category == 2))) ks = L1) (k : Z E p l e R s m args below meth c Q A nL q L1 st ws cells slots) : Z E p l e R s m args below meth c Q A nL pc L (.int x :: st) ws cells slots := by
  subst hq
  intro H locs ls hP hD hS hl
  have hx := C0.1
  have hb := C0.2.1
  exact lv_istore_n hx hb hd hi hl hn rfl (fun ls1 h1 => k H locs ls1 hP hD hS (lv_sub h1 ks hL))
theorem z_istore (q : Nat) (C0 : zC E p s m args meth c cc nL ret own Ts A) (ks : List Nat) (L1 : List (Nat × Value)) {i : Nat} {x : Int32} (hd : decode cc pc = .ok (.istore i, 2)) (hq : pc + 2 = q) (hn : i < nL) (hL : lv_pick ((i, Value.int x) :: L.filter (fun q => !(q.1 == i) && !(q.1 + 1 == i && q.2.category == 2))) ks = L1) (k : Z E p l e R s m args below meth c Q A nL q L1 st ws cells slots) : Z E p l e R s m args below meth c Q A nL pc L (.int x :: st) ws cells slots := by
  subst hq
  intro H locs ls hP hD hS hl
  have hx := C0.1
  have hb := C0.2.1
  exact lv_istore hx hb hd hl hn rfl (fun ls1 h1 => k H locs ls1 hP hD hS (lv_sub h1 ks hL))
theorem z_astore_n (q : Nat) (C0 : zC E p s m args meth c cc nL ret own Ts A) (ks : List Nat) (L1 : List (Nat × Value)) {kk : Fin 4} {i : Nat} {x : Nat} (hd : decode cc pc = .ok (.astore_n kk, 1)) (hq : pc + 1 = q) (hi : (kk : Nat) = i) (hn : i < nL) (hL : lv_pick ((i, Value.ref x) :: L.filter (fun q => !(q.1 == i) && !(q.1 + 1 == i && q.2.category == 2))) ks = L1) (k : Z E p l e R s m args below meth c Q A nL q L1 st ws cells slots) : Z E p l e R s m args below meth c Q A nL pc L (.ref x :: st) ws cells slots := by
  subst hq
  intro H locs ls hP hD hS hl
  have hx := C0.1
  have hb := C0.2.1
  exact lv_astore_n hx hb hd hi hl hn rfl (fun ls1 h1 => k H locs ls1 hP hD hS (lv_sub h1 ks hL))
theorem z_astore (q : Nat) (C0 : zC E p s m args meth c cc nL ret own Ts A) (ks : List Nat) (L1 : List (Nat × Value)) {i : Nat} {x : Nat} (hd : decode cc pc = .ok (.astore i, 2)) (hq : pc + 2 = q) (hn : i < nL) (hL : lv_pick ((i, Value.ref x) :: L.filter (fun q => !(q.1 == i) && !(q.1 + 1 == i && q.2.category == 2))) ks = L1) (k : Z E p l e R s m args below meth c Q A nL q L1 st ws cells slots) : Z E p l e R s m args below meth c Q A nL pc L (.ref x :: st) ws cells slots := by
  subst hq
  intro H locs ls hP hD hS hl
  have hx := C0.1
  have hb := C0.2.1
  exact lv_astore hx hb hd hl hn rfl (fun ls1 h1 => k H locs ls1 hP hD hS (lv_sub h1 ks hL))
theorem z_iinc (q : Nat) (C0 : zC E p s m args meth c cc nL ret own Ts A) (j : Nat) (ks : List Nat) (L1 : List (Nat × Value)) {i : Nat} {n : Int} {x v : Int32} (hd : decode cc pc = .ok (.iinc i n, 3)) (hq : pc + 3 = q) (hj : L[j]? = some (i, .int x)) (hv : x + Int32.ofInt n = v) (hn : i < nL) (hL : lv_pick ((i, Value.int v) :: L.filter (fun q => !(q.1 == i) && !(q.1 + 1 == i && q.2.category == 2))) ks = L1) (k : Z E p l e R s m args below meth c Q A nL q L1 st ws cells slots) : Z E p l e R s m args below meth c Q A nL pc L st ws cells slots := by
  subst hq
  intro H locs ls hP hD hS hl
  have hx := C0.1
  have hb := C0.2.1
  exact lv_iinc hx hb hd hl hj hv hn rfl (fun ls1 h1 => k H locs ls1 hP hD hS (lv_sub h1 ks hL))
theorem z_iadd (q : Nat) (C0 : zC E p s m args meth c cc nL ret own Ts A) {x y v : Int32} (hd : decode cc pc = .ok (.iadd, 1)) (hq : pc + 1 = q) (hv : x + y = v) (k : Z E p l e R s m args below meth c Q A nL q L (.int v :: st) ws cells slots) : Z E p l e R s m args below meth c Q A nL pc L (.int y :: .int x :: st) ws cells slots := by
  subst hq
  intro H locs ls hP hD hS hl
  have hx := C0.1
  have hb := C0.2.1
  subst hv
  exact lv_iadd hx hb hd (k H locs ls hP hD hS hl)
theorem z_isub (q : Nat) (C0 : zC E p s m args meth c cc nL ret own Ts A) {x y v : Int32} (hd : decode cc pc = .ok (.isub, 1)) (hq : pc + 1 = q) (hv : x - y = v) (k : Z E p l e R s m args below meth c Q A nL q L (.int v :: st) ws cells slots) : Z E p l e R s m args below meth c Q A nL pc L (.int y :: .int x :: st) ws cells slots := by
  subst hq
  intro H locs ls hP hD hS hl
  have hx := C0.1
  have hb := C0.2.1
  subst hv
  exact lv_isub hx hb hd (k H locs ls hP hD hS hl)
theorem z_imul (q : Nat) (C0 : zC E p s m args meth c cc nL ret own Ts A) {x y v : Int32} (hd : decode cc pc = .ok (.imul, 1)) (hq : pc + 1 = q) (hv : x * y = v) (k : Z E p l e R s m args below meth c Q A nL q L (.int v :: st) ws cells slots) : Z E p l e R s m args below meth c Q A nL pc L (.int y :: .int x :: st) ws cells slots := by
  subst hq
  intro H locs ls hP hD hS hl
  have hx := C0.1
  have hb := C0.2.1
  subst hv
  exact lv_imul hx hb hd (k H locs ls hP hD hS hl)
theorem z_iand (q : Nat) (C0 : zC E p s m args meth c cc nL ret own Ts A) {x y v : Int32} (hd : decode cc pc = .ok (.iand, 1)) (hq : pc + 1 = q) (hv : x &&& y = v) (k : Z E p l e R s m args below meth c Q A nL q L (.int v :: st) ws cells slots) : Z E p l e R s m args below meth c Q A nL pc L (.int y :: .int x :: st) ws cells slots := by
  subst hq
  intro H locs ls hP hD hS hl
  have hx := C0.1
  have hb := C0.2.1
  subst hv
  exact lv_iand hx hb hd (k H locs ls hP hD hS hl)
theorem z_ior (q : Nat) (C0 : zC E p s m args meth c cc nL ret own Ts A) {x y v : Int32} (hd : decode cc pc = .ok (.ior, 1)) (hq : pc + 1 = q) (hv : x ||| y = v) (k : Z E p l e R s m args below meth c Q A nL q L (.int v :: st) ws cells slots) : Z E p l e R s m args below meth c Q A nL pc L (.int y :: .int x :: st) ws cells slots := by
  subst hq
  intro H locs ls hP hD hS hl
  have hx := C0.1
  have hb := C0.2.1
  subst hv
  exact lv_ior hx hb hd (k H locs ls hP hD hS hl)
theorem z_ishl (q : Nat) (C0 : zC E p s m args meth c cc nL ret own Ts A) {x y v : Int32} (hd : decode cc pc = .ok (.ishl, 1)) (hq : pc + 1 = q) (hv : x <<< (y &&& 31) = v) (k : Z E p l e R s m args below meth c Q A nL q L (.int v :: st) ws cells slots) : Z E p l e R s m args below meth c Q A nL pc L (.int y :: .int x :: st) ws cells slots := by
  subst hq
  intro H locs ls hP hD hS hl
  have hx := C0.1
  have hb := C0.2.1
  subst hv
  exact lv_ishl hx hb hd (k H locs ls hP hD hS hl)
theorem z_ishr (q : Nat) (C0 : zC E p s m args meth c cc nL ret own Ts A) {x y v : Int32} (hd : decode cc pc = .ok (.ishr, 1)) (hq : pc + 1 = q) (hv : x >>> (y &&& 31) = v) (k : Z E p l e R s m args below meth c Q A nL q L (.int v :: st) ws cells slots) : Z E p l e R s m args below meth c Q A nL pc L (.int y :: .int x :: st) ws cells slots := by
  subst hq
  intro H locs ls hP hD hS hl
  have hx := C0.1
  have hb := C0.2.1
  subst hv
  exact lv_ishr hx hb hd (k H locs ls hP hD hS hl)
theorem z_idiv (q : Nat) (C0 : zC E p s m args meth c cc nL ret own Ts A) {x y v : Int32} (hd : decode cc pc = .ok (.idiv, 1)) (hq : pc + 1 = q) (hne : ¬ y = 0) (hv : x / y = v) (k : Z E p l e R s m args below meth c Q A nL q L (.int v :: st) ws cells slots) : Z E p l e R s m args below meth c Q A nL pc L (.int y :: .int x :: st) ws cells slots := by
  subst hq
  intro H locs ls hP hD hS hl
  have hx := C0.1
  have hb := C0.2.1
  subst hv
  exact lv_idiv hx hb hd hne (k H locs ls hP hD hS hl)
theorem z_irem (q : Nat) (C0 : zC E p s m args meth c cc nL ret own Ts A) {x y v : Int32} (hd : decode cc pc = .ok (.irem, 1)) (hq : pc + 1 = q) (hne : ¬ y = 0) (hv : x - x / y * y = v) (k : Z E p l e R s m args below meth c Q A nL q L (.int v :: st) ws cells slots) : Z E p l e R s m args below meth c Q A nL pc L (.int y :: .int x :: st) ws cells slots := by
  subst hq
  intro H locs ls hP hD hS hl
  have hx := C0.1
  have hb := C0.2.1
  subst hv
  exact lv_irem hx hb hd hne (k H locs ls hP hD hS hl)
theorem z_iushr (q : Nat) (C0 : zC E p s m args meth c cc nL ret own Ts A) {x y v : Int32} (hd : decode cc pc = .ok (.iushr, 1)) (hq : pc + 1 = q) (hv : (x.toUInt32 >>> (y.toUInt32 &&& Int32.toUInt32 31)).toInt32 = v) (k : Z E p l e R s m args below meth c Q A nL q L (.int v :: st) ws cells slots) : Z E p l e R s m args below meth c Q A nL pc L (.int y :: .int x :: st) ws cells slots := by
  subst hq
  intro H locs ls hP hD hS hl
  have hx := C0.1
  have hb := C0.2.1
  exact lv_iushr hx hb hd hv (k H locs ls hP hD hS hl)
theorem z_i2l (q : Nat) (C0 : zC E p s m args meth c cc nL ret own Ts A) {x : Int32} {v : Int64} (hd : decode cc pc = .ok (.i2l, 1)) (hq : pc + 1 = q) (hv : x.toInt64 = v) (k : Z E p l e R s m args below meth c Q A nL q L (.long v :: st) ws cells slots) : Z E p l e R s m args below meth c Q A nL pc L (.int x :: st) ws cells slots := by
  subst hq
  intro H locs ls hP hD hS hl
  have hx := C0.1
  have hb := C0.2.1
  exact lv_i2l hx hb hd hv (k H locs ls hP hD hS hl)
theorem z_lcmp (q : Nat) (C0 : zC E p s m args meth c cc nL ret own Ts A) {x y : Int64} (hd : decode cc pc = .ok (.lcmp, 1)) (hq : pc + 1 = q) (k : Z E p l e R s m args below meth c Q A nL q L (.int (lg_cmp x y) :: st) ws cells slots) : Z E p l e R s m args below meth c Q A nL pc L (.long y :: .long x :: st) ws cells slots := by
  subst hq
  intro H locs ls hP hD hS hl
  have hx := C0.1
  have hb := C0.2.1
  exact W.lcmp hx hb hd (k H locs ls hP hD hS hl)
theorem z_dup (q : Nat) (C0 : zC E p s m args meth c cc nL ret own Ts A) {va : Value} (hd : decode cc pc = .ok (.dup, 1)) (hq : pc + 1 = q) (hva : va.category = 1) (k : Z E p l e R s m args below meth c Q A nL q L (va :: va :: st) ws cells slots) : Z E p l e R s m args below meth c Q A nL pc L (va :: st) ws cells slots := by
  subst hq
  intro H locs ls hP hD hS hl
  have hx := C0.1
  have hb := C0.2.1
  exact lv_dup hx hb hd hva (k H locs ls hP hD hS hl)
theorem z_pop (q : Nat) (C0 : zC E p s m args meth c cc nL ret own Ts A) {va : Value} (hd : decode cc pc = .ok (.pop, 1)) (hq : pc + 1 = q) (hva : va.category = 1) (k : Z E p l e R s m args below meth c Q A nL q L st ws cells slots) : Z E p l e R s m args below meth c Q A nL pc L (va :: st) ws cells slots := by
  subst hq
  intro H locs ls hP hD hS hl
  have hx := C0.1
  have hb := C0.2.1
  exact lv_pop hx hb hd hva (k H locs ls hP hD hS hl)
theorem z_dup2 (q : Nat) (C0 : zC E p s m args meth c cc nL ret own Ts A) {va vb : Value} (hd : decode cc pc = .ok (.dup2, 1)) (hq : pc + 1 = q) (hva : va.category = 1) (hvb : vb.category = 1) (k : Z E p l e R s m args below meth c Q A nL q L (va :: vb :: va :: vb :: st) ws cells slots) : Z E p l e R s m args below meth c Q A nL pc L (va :: vb :: st) ws cells slots := by
  subst hq
  intro H locs ls hP hD hS hl
  have hx := C0.1
  have hb := C0.2.1
  exact lv_dup2_11 hx hb hd hva hvb (k H locs ls hP hD hS hl)
theorem z_goto (t : Nat) (C0 : zC E p s m args meth c cc nL ret own Ts A) {off : Int} (hd : decode cc pc = .ok (.goto off, 3)) (ht : (pc : Int) + off = (t : Int)) (k : Z E p l e R s m args below meth c Q A nL t L st ws cells slots) : Z E p l e R s m args below meth c Q A nL pc L st ws cells slots := fun H locs ls hP hD hS hl => lv_goto C0.1 C0.2.1 hd ht (k H locs ls hP hD hS hl)
theorem z_icmp_eq (q t : Nat) (C0 : zC E p s m args meth c cc nL ret own Ts A) {x y : Int32} {off : Int} (hd : decode cc pc = .ok (.if_icmp .eq off, 3)) (hq : pc + 3 = q) (ht : (pc : Int) + off = (t : Int)) (kt : x = y → Z E p l e R s m args below meth c Q A nL t L st ws cells slots) (kf : ¬ x = y → Z E p l e R s m args below meth c Q A nL q L st ws cells slots) : Z E p l e R s m args below meth c Q A nL pc L (.int y :: .int x :: st) ws cells slots := by
  subst hq
  intro H locs ls hP hD hS hl
  exact lv_icmp_eq C0.1 C0.2.1 hd ht (fun h => kt h H locs ls hP hD hS hl) (fun h => kf h H locs ls hP hD hS hl)
theorem z_if_eq (q t : Nat) (C0 : zC E p s m args meth c cc nL ret own Ts A) {x : Int32} {off : Int} (hd : decode cc pc = .ok (.ifCond .eq off, 3)) (hq : pc + 3 = q) (ht : (pc : Int) + off = (t : Int)) (kt : x = 0 → Z E p l e R s m args below meth c Q A nL t L st ws cells slots) (kf : ¬ x = 0 → Z E p l e R s m args below meth c Q A nL q L st ws cells slots) : Z E p l e R s m args below meth c Q A nL pc L (.int x :: st) ws cells slots := by
  subst hq
  intro H locs ls hP hD hS hl
  exact lv_if_eq C0.1 C0.2.1 hd ht (fun h => kt h H locs ls hP hD hS hl) (fun h => kf h H locs ls hP hD hS hl)
theorem z_icmp_ne (q t : Nat) (C0 : zC E p s m args meth c cc nL ret own Ts A) {x y : Int32} {off : Int} (hd : decode cc pc = .ok (.if_icmp .ne off, 3)) (hq : pc + 3 = q) (ht : (pc : Int) + off = (t : Int)) (kt : ¬ x = y → Z E p l e R s m args below meth c Q A nL t L st ws cells slots) (kf : x = y → Z E p l e R s m args below meth c Q A nL q L st ws cells slots) : Z E p l e R s m args below meth c Q A nL pc L (.int y :: .int x :: st) ws cells slots := by
  subst hq
  intro H locs ls hP hD hS hl
  exact lv_icmp_ne C0.1 C0.2.1 hd ht (fun h => kt h H locs ls hP hD hS hl) (fun h => kf h H locs ls hP hD hS hl)
theorem z_if_ne (q t : Nat) (C0 : zC E p s m args meth c cc nL ret own Ts A) {x : Int32} {off : Int} (hd : decode cc pc = .ok (.ifCond .ne off, 3)) (hq : pc + 3 = q) (ht : (pc : Int) + off = (t : Int)) (kt : ¬ x = 0 → Z E p l e R s m args below meth c Q A nL t L st ws cells slots) (kf : x = 0 → Z E p l e R s m args below meth c Q A nL q L st ws cells slots) : Z E p l e R s m args below meth c Q A nL pc L (.int x :: st) ws cells slots := by
  subst hq
  intro H locs ls hP hD hS hl
  exact lv_if_ne C0.1 C0.2.1 hd ht (fun h => kt h H locs ls hP hD hS hl) (fun h => kf h H locs ls hP hD hS hl)
theorem z_icmp_lt (q t : Nat) (C0 : zC E p s m args meth c cc nL ret own Ts A) {x y : Int32} {off : Int} (hd : decode cc pc = .ok (.if_icmp .lt off, 3)) (hq : pc + 3 = q) (ht : (pc : Int) + off = (t : Int)) (kt : x < y → Z E p l e R s m args below meth c Q A nL t L st ws cells slots) (kf : ¬ x < y → Z E p l e R s m args below meth c Q A nL q L st ws cells slots) : Z E p l e R s m args below meth c Q A nL pc L (.int y :: .int x :: st) ws cells slots := by
  subst hq
  intro H locs ls hP hD hS hl
  exact lv_icmp_lt C0.1 C0.2.1 hd ht (fun h => kt h H locs ls hP hD hS hl) (fun h => kf h H locs ls hP hD hS hl)
theorem z_if_lt (q t : Nat) (C0 : zC E p s m args meth c cc nL ret own Ts A) {x : Int32} {off : Int} (hd : decode cc pc = .ok (.ifCond .lt off, 3)) (hq : pc + 3 = q) (ht : (pc : Int) + off = (t : Int)) (kt : x < 0 → Z E p l e R s m args below meth c Q A nL t L st ws cells slots) (kf : ¬ x < 0 → Z E p l e R s m args below meth c Q A nL q L st ws cells slots) : Z E p l e R s m args below meth c Q A nL pc L (.int x :: st) ws cells slots := by
  subst hq
  intro H locs ls hP hD hS hl
  exact lv_if_lt C0.1 C0.2.1 hd ht (fun h => kt h H locs ls hP hD hS hl) (fun h => kf h H locs ls hP hD hS hl)
theorem z_icmp_ge (q t : Nat) (C0 : zC E p s m args meth c cc nL ret own Ts A) {x y : Int32} {off : Int} (hd : decode cc pc = .ok (.if_icmp .ge off, 3)) (hq : pc + 3 = q) (ht : (pc : Int) + off = (t : Int)) (kt : y ≤ x → Z E p l e R s m args below meth c Q A nL t L st ws cells slots) (kf : ¬ y ≤ x → Z E p l e R s m args below meth c Q A nL q L st ws cells slots) : Z E p l e R s m args below meth c Q A nL pc L (.int y :: .int x :: st) ws cells slots := by
  subst hq
  intro H locs ls hP hD hS hl
  exact lv_icmp_ge C0.1 C0.2.1 hd ht (fun h => kt h H locs ls hP hD hS hl) (fun h => kf h H locs ls hP hD hS hl)
theorem z_if_ge (q t : Nat) (C0 : zC E p s m args meth c cc nL ret own Ts A) {x : Int32} {off : Int} (hd : decode cc pc = .ok (.ifCond .ge off, 3)) (hq : pc + 3 = q) (ht : (pc : Int) + off = (t : Int)) (kt : 0 ≤ x → Z E p l e R s m args below meth c Q A nL t L st ws cells slots) (kf : ¬ 0 ≤ x → Z E p l e R s m args below meth c Q A nL q L st ws cells slots) : Z E p l e R s m args below meth c Q A nL pc L (.int x :: st) ws cells slots := by
  subst hq
  intro H locs ls hP hD hS hl
  exact lv_if_ge C0.1 C0.2.1 hd ht (fun h => kt h H locs ls hP hD hS hl) (fun h => kf h H locs ls hP hD hS hl)
theorem z_icmp_gt (q t : Nat) (C0 : zC E p s m args meth c cc nL ret own Ts A) {x y : Int32} {off : Int} (hd : decode cc pc = .ok (.if_icmp .gt off, 3)) (hq : pc + 3 = q) (ht : (pc : Int) + off = (t : Int)) (kt : y < x → Z E p l e R s m args below meth c Q A nL t L st ws cells slots) (kf : ¬ y < x → Z E p l e R s m args below meth c Q A nL q L st ws cells slots) : Z E p l e R s m args below meth c Q A nL pc L (.int y :: .int x :: st) ws cells slots := by
  subst hq
  intro H locs ls hP hD hS hl
  exact lv_icmp_gt C0.1 C0.2.1 hd ht (fun h => kt h H locs ls hP hD hS hl) (fun h => kf h H locs ls hP hD hS hl)
theorem z_if_gt (q t : Nat) (C0 : zC E p s m args meth c cc nL ret own Ts A) {x : Int32} {off : Int} (hd : decode cc pc = .ok (.ifCond .gt off, 3)) (hq : pc + 3 = q) (ht : (pc : Int) + off = (t : Int)) (kt : 0 < x → Z E p l e R s m args below meth c Q A nL t L st ws cells slots) (kf : ¬ 0 < x → Z E p l e R s m args below meth c Q A nL q L st ws cells slots) : Z E p l e R s m args below meth c Q A nL pc L (.int x :: st) ws cells slots := by
  subst hq
  intro H locs ls hP hD hS hl
  exact lv_if_gt C0.1 C0.2.1 hd ht (fun h => kt h H locs ls hP hD hS hl) (fun h => kf h H locs ls hP hD hS hl)
theorem z_icmp_le (q t : Nat) (C0 : zC E p s m args meth c cc nL ret own Ts A) {x y : Int32} {off : Int} (hd : decode cc pc = .ok (.if_icmp .le off, 3)) (hq : pc + 3 = q) (ht : (pc : Int) + off = (t : Int)) (kt : x ≤ y → Z E p l e R s m args below meth c Q A nL t L st ws cells slots) (kf : ¬ x ≤ y → Z E p l e R s m args below meth c Q A nL q L st ws cells slots) : Z E p l e R s m args below meth c Q A nL pc L (.int y :: .int x :: st) ws cells slots := by
  subst hq
  intro H locs ls hP hD hS hl
  exact lv_icmp_le C0.1 C0.2.1 hd ht (fun h => kt h H locs ls hP hD hS hl) (fun h => kf h H locs ls hP hD hS hl)
theorem z_if_le (q t : Nat) (C0 : zC E p s m args meth c cc nL ret own Ts A) {x : Int32} {off : Int} (hd : decode cc pc = .ok (.ifCond .le off, 3)) (hq : pc + 3 = q) (ht : (pc : Int) + off = (t : Int)) (kt : x ≤ 0 → Z E p l e R s m args below meth c Q A nL t L st ws cells slots) (kf : ¬ x ≤ 0 → Z E p l e R s m args below meth c Q A nL q L st ws cells slots) : Z E p l e R s m args below meth c Q A nL pc L (.int x :: st) ws cells slots := by
  subst hq
  intro H locs ls hP hD hS hl
  exact lv_if_le C0.1 C0.2.1 hd ht (fun h => kt h H locs ls hP hD hS hl) (fun h => kf h H locs ls hP hD hS hl)
theorem z_icmp_eqN (q t : Nat) (C0 : zC E p s m args meth c cc nL ret own Ts A) {a b : Nat} {off : Int} (ha : a < 2 ^ 31) (hb : b < 2 ^ 31) (hd : decode cc pc = .ok (.if_icmp .eq off, 3)) (hq : pc + 3 = q) (ht : (pc : Int) + off = (t : Int)) (kt : a = b → Z E p l e R s m args below meth c Q A nL t L st ws cells slots) (kf : a ≠ b → Z E p l e R s m args below meth c Q A nL q L st ws cells slots) : Z E p l e R s m args below meth c Q A nL pc L (.int (nI b) :: .int (nI a) :: st) ws cells slots :=
  z_icmp_eq q t C0 hd hq ht (fun h => kt ((nI_eq ha hb).mp h)) (fun h => kf (fun z => h ((nI_eq ha hb).mpr z)))
theorem z_icmp_neN (q t : Nat) (C0 : zC E p s m args meth c cc nL ret own Ts A) {a b : Nat} {off : Int} (ha : a < 2 ^ 31) (hb : b < 2 ^ 31) (hd : decode cc pc = .ok (.if_icmp .ne off, 3)) (hq : pc + 3 = q) (ht : (pc : Int) + off = (t : Int)) (kt : a ≠ b → Z E p l e R s m args below meth c Q A nL t L st ws cells slots) (kf : a = b → Z E p l e R s m args below meth c Q A nL q L st ws cells slots) : Z E p l e R s m args below meth c Q A nL pc L (.int (nI b) :: .int (nI a) :: st) ws cells slots :=
  z_icmp_ne q t C0 hd hq ht (fun h => kt (fun z => h ((nI_eq ha hb).mpr z))) (fun h => kf ((nI_eq ha hb).mp h))
theorem z_icmp_ltN (q t : Nat) (C0 : zC E p s m args meth c cc nL ret own Ts A) {a b : Nat} {off : Int} (ha : a < 2 ^ 31) (hb : b < 2 ^ 31) (hd : decode cc pc = .ok (.if_icmp .lt off, 3)) (hq : pc + 3 = q) (ht : (pc : Int) + off = (t : Int)) (kt : a < b → Z E p l e R s m args below meth c Q A nL t L st ws cells slots) (kf : b ≤ a → Z E p l e R s m args below meth c Q A nL q L st ws cells slots) : Z E p l e R s m args below meth c Q A nL pc L (.int (nI b) :: .int (nI a) :: st) ws cells slots :=
  z_icmp_lt q t C0 hd hq ht (fun h => kt ((nI_ltI ha hb).mp h)) (fun h => kf (Nat.not_lt.mp fun z => h ((nI_ltI ha hb).mpr z)))
theorem z_icmp_geN (q t : Nat) (C0 : zC E p s m args meth c cc nL ret own Ts A) {a b : Nat} {off : Int} (ha : a < 2 ^ 31) (hb : b < 2 ^ 31) (hd : decode cc pc = .ok (.if_icmp .ge off, 3)) (hq : pc + 3 = q) (ht : (pc : Int) + off = (t : Int)) (kt : b ≤ a → Z E p l e R s m args below meth c Q A nL t L st ws cells slots) (kf : a < b → Z E p l e R s m args below meth c Q A nL q L st ws cells slots) : Z E p l e R s m args below meth c Q A nL pc L (.int (nI b) :: .int (nI a) :: st) ws cells slots :=
  z_icmp_ge q t C0 hd hq ht (fun h => kt ((nI_leI hb ha).mp h)) (fun h => kf (Nat.not_le.mp fun z => h ((nI_leI hb ha).mpr z)))
theorem z_icmp_gtN (q t : Nat) (C0 : zC E p s m args meth c cc nL ret own Ts A) {a b : Nat} {off : Int} (ha : a < 2 ^ 31) (hb : b < 2 ^ 31) (hd : decode cc pc = .ok (.if_icmp .gt off, 3)) (hq : pc + 3 = q) (ht : (pc : Int) + off = (t : Int)) (kt : b < a → Z E p l e R s m args below meth c Q A nL t L st ws cells slots) (kf : a ≤ b → Z E p l e R s m args below meth c Q A nL q L st ws cells slots) : Z E p l e R s m args below meth c Q A nL pc L (.int (nI b) :: .int (nI a) :: st) ws cells slots :=
  z_icmp_gt q t C0 hd hq ht (fun h => kt ((nI_ltI hb ha).mp h)) (fun h => kf (Nat.not_lt.mp fun z => h ((nI_ltI hb ha).mpr z)))
theorem z_icmp_leN (q t : Nat) (C0 : zC E p s m args meth c cc nL ret own Ts A) {a b : Nat} {off : Int} (ha : a < 2 ^ 31) (hb : b < 2 ^ 31) (hd : decode cc pc = .ok (.if_icmp .le off, 3)) (hq : pc + 3 = q) (ht : (pc : Int) + off = (t : Int)) (kt : a ≤ b → Z E p l e R s m args below meth c Q A nL t L st ws cells slots) (kf : b < a → Z E p l e R s m args below meth c Q A nL q L st ws cells slots) : Z E p l e R s m args below meth c Q A nL pc L (.int (nI b) :: .int (nI a) :: st) ws cells slots :=
  z_icmp_le q t C0 hd hq ht (fun h => kt ((nI_leI ha hb).mp h)) (fun h => kf (Nat.not_le.mp fun z => h ((nI_leI ha hb).mpr z)))
theorem z_if_eqN (q t : Nat) (C0 : zC E p s m args meth c cc nL ret own Ts A) {a : Nat} {off : Int} (ha : a < 2 ^ 31) (hd : decode cc pc = .ok (.ifCond .eq off, 3)) (hq : pc + 3 = q) (ht : (pc : Int) + off = (t : Int)) (kt : a = 0 → Z E p l e R s m args below meth c Q A nL t L st ws cells slots) (kf : a ≠ 0 → Z E p l e R s m args below meth c Q A nL q L st ws cells slots) : Z E p l e R s m args below meth c Q A nL pc L (.int (nI a) :: st) ws cells slots :=
  z_if_eq q t C0 hd hq ht (fun h => kt ((nI_eq ha (Nat.le_of_ble_eq_true rfl)).mp (h.trans nI_0.symm))) (fun h => kf (fun z => h (by rw [z]; exact nI_0)))
theorem z_if_neN (q t : Nat) (C0 : zC E p s m args meth c cc nL ret own Ts A) {a : Nat} {off : Int} (ha : a < 2 ^ 31) (hd : decode cc pc = .ok (.ifCond .ne off, 3)) (hq : pc + 3 = q) (ht : (pc : Int) + off = (t : Int)) (kt : a ≠ 0 → Z E p l e R s m args below meth c Q A nL t L st ws cells slots) (kf : a = 0 → Z E p l e R s m args below meth c Q A nL q L st ws cells slots) : Z E p l e R s m args below meth c Q A nL pc L (.int (nI a) :: st) ws cells slots :=
  z_if_ne q t C0 hd hq ht (fun h => kt (fun z => h (by rw [z]; exact nI_0))) (fun h => kf ((nI_eq ha (Nat.le_of_ble_eq_true rfl)).mp (h.trans nI_0.symm)))
theorem z_if_ltN (q : Nat) (C0 : zC E p s m args meth c cc nL ret own Ts A) {a : Nat} {off : Int} (t : Nat) (ha : a < 2 ^ 31) (hd : decode cc pc = .ok (.ifCond .lt off, 3)) (hq : pc + 3 = q) (ht : (pc : Int) + off = (t : Int)) (kf : Z E p l e R s m args below meth c Q A nL q L st ws cells slots) : Z E p l e R s m args below meth c Q A nL pc L (.int (nI a) :: st) ws cells slots :=
  z_if_lt q t C0 hd hq ht (fun h => absurd h (nI_pos ha)) (fun _ => kf)
theorem z_if_geN (t : Nat) (C0 : zC E p s m args meth c cc nL ret own Ts A) {a : Nat} {off : Int} (q : Nat) (ha : a < 2 ^ 31) (hd : decode cc pc = .ok (.ifCond .ge off, 3)) (hq : pc + 3 = q) (ht : (pc : Int) + off = (t : Int)) (kt : Z E p l e R s m args below meth c Q A nL t L st ws cells slots) : Z E p l e R s m args below meth c Q A nL pc L (.int (nI a) :: st) ws cells slots :=
  z_if_ge q t C0 hd hq ht (fun _ => kt) (fun h => absurd (nI_pos' ha) h)
theorem z_if_leN (q t : Nat) (C0 : zC E p s m args meth c cc nL ret own Ts A) {a : Nat} {off : Int} (ha : a < 2 ^ 31) (hd : decode cc pc = .ok (.ifCond .le off, 3)) (hq : pc + 3 = q) (ht : (pc : Int) + off = (t : Int)) (kt : a = 0 → Z E p l e R s m args below meth c Q A nL t L st ws cells slots) (kf : 0 < a → Z E p l e R s m args below meth c Q A nL q L st ws cells slots) : Z E p l e R s m args below meth c Q A nL pc L (.int (nI a) :: st) ws cells slots :=
  z_if_le q t C0 hd hq ht (fun h => kt (Nat.eq_zero_of_not_pos fun z => nI_nle z ha h)) (fun h => kf (Nat.pos_of_ne_zero fun z => h (by rw [z]; decide)))
theorem z_if_gtN (q t : Nat) (C0 : zC E p s m args meth c cc nL ret own Ts A) {a : Nat} {off : Int} (ha : a < 2 ^ 31) (hd : decode cc pc = .ok (.ifCond .gt off, 3)) (hq : pc + 3 = q) (ht : (pc : Int) + off = (t : Int)) (kt : 0 < a → Z E p l e R s m args below meth c Q A nL t L st ws cells slots) (kf : a = 0 → Z E p l e R s m args below meth c Q A nL q L st ws cells slots) : Z E p l e R s m args below meth c Q A nL pc L (.int (nI a) :: st) ws cells slots :=
  z_if_gt q t C0 hd hq ht (fun h => kt (Nat.pos_of_ne_zero fun z => absurd h (by rw [z]; decide))) (fun h => kf (Nat.eq_zero_of_not_pos fun z => h (by rw [Int32.lt_iff_toInt_lt, nI_toInt ha, Int32.toInt_zero]; omega)))
theorem z_switch (t : Nat) (C0 : zC E p s m args meth c cc nL ret own Ts A) {dflt lo hi : Int} {offs : Array Int} {len : Nat} {x : Int32} {off : Int} (hd : decode cc pc = .ok (.tableswitch dflt lo hi offs, len)) (h1 : ¬ x.toInt < lo) (h2 : ¬ hi < x.toInt) (ho : offs[(x.toInt - lo).toNat]? = some off) (ht : (pc : Int) + off = (t : Int)) (k : Z E p l e R s m args below meth c Q A nL t L st ws cells slots) : Z E p l e R s m args below meth c Q A nL pc L (.int x :: st) ws cells slots := fun H locs ls hP hD hS hl => lv_tableIn C0.1 C0.2.1 hd h1 h2 ho ht (k H locs ls hP hD hS hl)
theorem z_switchO (t : Nat) (C0 : zC E p s m args meth c cc nL ret own Ts A) {dflt lo hi : Int} {offs : Array Int} {len : Nat} {x : Int32} (hd : decode cc pc = .ok (.tableswitch dflt lo hi offs, len)) (h : x.toInt < lo ∨ hi < x.toInt) (ht : (pc : Int) + dflt = (t : Int)) (k : Z E p l e R s m args below meth c Q A nL t L st ws cells slots) : Z E p l e R s m args below meth c Q A nL pc L (.int x :: st) ws cells slots := fun H locs ls hP hD hS hl => lv_tableOut C0.1 C0.2.1 hd h ht (k H locs ls hP hD hS hl)
theorem z_iald (q : Nat) (C0 : zC E p s m args meth c cc nL ret own Ts A) (q0 : Nat) {a n : Nat} {f : Nat → Int32} {i v : Int32} (hd : decode cc pc = .ok (.iaload, 1)) (hq : pc + 1 = q) (ha : ws[q0]? = some (a, zi E n f)) (hin : vp_in i n) (hv : f i.toNatClampNeg = v) (k : Z E p l e R s m args below meth c Q A nL q L (.int v :: st) ws cells slots) : Z E p l e R s m args below meth c Q A nL pc L (.int i :: .ref a :: st) ws cells slots := by
  subst hq
  intro H locs ls hP hD hS hl
  have hx := C0.1
  have hb := C0.2.1
  subst hv
  exact va_iald hx hb C0.2.2.2.2.2.2.2.1 hP q0 0 ha rfl hin hd (k H locs ls hP hD hS hl)
theorem z_ialdN (q : Nat) (C0 : zC E p s m args meth c cc nL ret own Ts A) (q0 : Nat) {a n j : Nat} {f : Nat → Int32} {v : Int32} (hd : decode cc pc = .ok (.iaload, 1)) (hq : pc + 1 = q) (ha : ws[q0]? = some (a, zi E n f)) (hj : j < n) (hn : n < 2 ^ 31) (hv : f j = v) (k : Z E p l e R s m args below meth c Q A nL q L (.int v :: st) ws cells slots) : Z E p l e R s m args below meth c Q A nL pc L (.int (nI j) :: .ref a :: st) ws cells slots :=
  z_iald q C0 q0 hd hq ha (vp_in_nI hj hn) (by rw [nI_clamp (Nat.lt_trans hj hn)]; exact hv) k
theorem z_iast (q : Nat) (C0 : zC E p s m args meth c cc nL ret own Ts A) (q0 : Nat) (w1 : va_W) {a n : Nat} {f : Nat → Int32} {i x : Int32} (hd : decode cc pc = .ok (.iastore, 1)) (hq : pc + 1 = q) (ha : ws[q0]? = some (a, zi E n f)) (hin : vp_in i n) (hw : ws.set q0 (a, zi E n (upd f i.toNatClampNeg x)) = w1) (k : Z E p l e R s m args below meth c Q A nL q L st w1 cells slots) : Z E p l e R s m args below meth c Q A nL pc L (.int x :: .int i :: .ref a :: st) ws cells slots := by
  subst hq
  intro H locs ls hP hD hS hl
  have hx := C0.1
  have hb := C0.2.1
  subst hw
  exact va_iast hx hb C0.2.2.2.2.2.2.2.1 hP hD hS q0 0 ha rfl hin hd (fun H1 locs1 hP1 hD1 hS1 => k H1 locs1 ls hP1 hD1 hS1 hl)
theorem z_iastN (q : Nat) (C0 : zC E p s m args meth c cc nL ret own Ts A) (q0 : Nat) (w1 : va_W) {a n j : Nat} {f : Nat → Int32} {x : Int32} (hd : decode cc pc = .ok (.iastore, 1)) (hq : pc + 1 = q) (ha : ws[q0]? = some (a, zi E n f)) (hj : j < n) (hn : n < 2 ^ 31) (hw : ws.set q0 (a, zi E n (upd f j x)) = w1) (k : Z E p l e R s m args below meth c Q A nL q L st w1 cells slots) : Z E p l e R s m args below meth c Q A nL pc L (.int x :: .int (nI j) :: .ref a :: st) ws cells slots :=
  z_iast q C0 q0 w1 hd hq ha (vp_in_nI hj hn) (by rw [nI_clamp (Nat.lt_trans hj hn)]; exact hw) k
theorem z_alen (q : Nat) (C0 : zC E p s m args meth c cc nL ret own Ts A) (q0 : Nat) {a n : Nat} {f : Nat → Int32} (hd : decode cc pc = .ok (.arraylength, 1)) (hq : pc + 1 = q) (ha : ws[q0]? = some (a, zi E n f)) (k : Z E p l e R s m args below meth c Q A nL q L (.int (nI n) :: st) ws cells slots) : Z E p l e R s m args below meth c Q A nL pc L (.ref a :: st) ws cells slots := by
  subst hq
  intro H locs ls hP hD hS hl
  have hx := C0.1
  have hb := C0.2.1
  exact va_alen hx hb C0.2.2.2.2.2.2.2.1 hP q0 0 ha rfl (rfl : Int32.ofNat n = nI n) hd (k H locs ls hP hD hS hl)
theorem z_aald (q : Nat) (C0 : zC E p s m args meth c cc nL ret own Ts A) (q0 t0 : Nat) {a n j : Nat} {cA : ClassId} {ty : FieldType} {f : Nat → Option Nat} {v : Value} (hd : decode cc pc = .ok (.aaload, 1)) (hq : pc + 1 = q) (ha : ws[q0]? = some (a, .inl (cA, n, .inr (.inr (.inr (.inr f)))))) (ht : (zT E)[t0]? = some (cA, ty)) (hty : ty.isReference = true) (hj : j < n) (hn : n < 2 ^ 31) (hv : va_rf (f j) = v) (k : Z E p l e R s m args below meth c Q A nL q L (v :: st) ws cells slots) : Z E p l e R s m args below meth c Q A nL pc L (.int (nI j) :: .ref a :: st) ws cells slots := by
  subst hq
  intro H locs ls hP hD hS hl
  have hx := C0.1
  have hb := C0.2.1
  subst hv
  exact W.aald (v := va_rf (f j)) (ty := ty) hx hb (hP q0 _ ha) ((C0.2.2.2.2.2.2.2.1.2 t0 _ ht).1 n (fun j => va_rf (f j))) hty (fun q => by cases q) (by show ¬ (nI j < 0 ∨ (arrV _ _ _).slots.size ≤ _); rw [arrV_size]; exact vp_in_nI hj hn) (by show (arrV _ _ _).slots[_]? = _; rw [nI_clamp (Nat.lt_trans hj hn)]; rw [arrV_read _ _ hj]) rfl rfl hd (k H locs ls hP hD hS hl)
theorem z_get (q : Nat) (C0 : zC E p s m args meth c cc nL ret own Ts A) (q0 j : Nat) {a ci N i : Nat} {C : String} {T : u_T} {fs : List Value} {v : Value} (hin : ∀ w ∈ u_ws C T N, w ∈ Ts) (hc : vwCl[ci]? = some (C, T, N)) (hk : j < N) (hw : Cond.fieldLink own i (T j).1 (T j).2.1 (T j).2.2.1 ∈ Ts) (hd : decode cc pc = .ok (.getfield i, 3)) (hq : pc + 3 = q) (ha : ws[q0]? = some (a, zo ci fs)) (hv : fs[j]? = some v) (k : Z E p l e R s m args below meth c Q A nL q L (v :: st) ws cells slots) : Z E p l e R s m args below meth c Q A nL pc L (.ref a :: st) ws cells slots := by
  subst hq
  intro H locs ls hP hD hS hl
  have hx := C0.1
  have hb := C0.2.1
  exact va_get hx hb C0.2.2.2.2.2.1 hin C0.2.2.2.2.1 C0.2.2.2.2.2.2.2.1 hP q0 ha hc j hk (C0.2.2.2.2.2.1 _ hw) (fun _ h => h) hv hd (k H locs ls hP hD hS hl)
theorem z_put (q : Nat) (C0 : zC E p s m args meth c cc nL ret own Ts A) (q0 j : Nat) (w1 : va_W) {a ci N i : Nat} {C : String} {T : u_T} {fs : List Value} {v : Value} {ty : FieldType} (hin : ∀ w ∈ u_ws C T N, w ∈ Ts) (hc : vwCl[ci]? = some (C, T, N)) (hk : j < N) (hw : Cond.fieldLink own i (T j).1 (T j).2.1 (T j).2.2.1 ∈ Ts) (ty0 : Nat → FieldType) (hty : ∀ k, k < N → parseFieldDescriptor (T k).2.2.1 = some (ty0 k)) (hnm : ∀ a, a < N → ∀ b, b < N → a ≠ b → (T a).2.1 ≠ (T b).2.1) (hfin : (T j).2.2.2 = false) (hdd : parseFieldDescriptor (T j).2.2.1 = some ty) (hn : narrow ty v = v) (hfit : fits ty v = true) (hd : decode cc pc = .ok (.putfield i, 3)) (hq : pc + 3 = q) (ha : ws[q0]? = some (a, zo ci fs)) (hlen : j < fs.length) (hws : ws.set q0 (a, zo ci (fs.set j v)) = w1) (k : Z E p l e R s m args below meth c Q A nL q L st w1 cells slots) : Z E p l e R s m args below meth c Q A nL pc L (v :: .ref a :: st) ws cells slots := by
  subst hq
  intro H locs ls hP hD hS hl
  have hx := C0.1
  have hb := C0.2.1
  subst hws
  exact va_put hx hb C0.2.2.2.2.2.1 hin ty0 hty hnm C0.2.2.2.2.1 C0.2.2.2.2.2.2.2.1 hP hD hS q0 ha hc j hk (C0.2.2.2.2.2.1 _ hw) (fun _ h => h) hfin hdd hn hfit hlen hd (fun H1 locs1 hP1 hD1 hS1 => k H1 locs1 ls hP1 hD1 hS1 hl)
theorem z_putF (q : Nat) (C0 : zC E p s m args meth c cc nL ret own Ts A) (q0 j : Nat) (w1 : va_W) {a ci N i : Nat} {C : String} {T : u_T} {fs : List Value} {v : Value} {ty : FieldType} (hin : ∀ w ∈ u_ws C T N, w ∈ Ts) (hc : vwCl[ci]? = some (C, T, N)) (hk : j < N) (hw : Cond.fieldLink own i (T j).1 (T j).2.1 (T j).2.2.1 ∈ Ts) (ty0 : Nat → FieldType) (hty : ∀ k, k < N → parseFieldDescriptor (T k).2.2.1 = some (ty0 k)) (hnm : ∀ a, a < N → ∀ b, b < N → a ≠ b → (T a).2.1 ≠ (T b).2.1) (hfin : (T j).2.2.2 = true) (hin2 : meth.name = "<init>") (hdecl : (T j).1 = own) (hdd : parseFieldDescriptor (T j).2.2.1 = some ty) (hn : narrow ty v = v) (hfit : fits ty v = true) (hd : decode cc pc = .ok (.putfield i, 3)) (hq : pc + 3 = q) (ha : ws[q0]? = some (a, zo ci fs)) (hlen : j < fs.length) (hws : ws.set q0 (a, zo ci (fs.set j v)) = w1) (k : Z E p l e R s m args below meth c Q A nL q L st w1 cells slots) : Z E p l e R s m args below meth c Q A nL pc L (v :: .ref a :: st) ws cells slots := by
  subst hq
  intro H locs ls hP hD hS hl
  have hx := C0.1
  have hb := C0.2.1
  subst hws
  exact va_putF hx hb C0.2.2.2.2.2.1 hin ty0 hty hnm C0.2.2.2.2.1 C0.2.2.2.2.2.2.2.1 hP hD hS q0 ha hc j hk (C0.2.2.2.2.2.1 _ hw) (fun _ h => h) hfin hin2 hdecl hdd hn hfit hlen hd (fun H1 locs1 hP1 hD1 hS1 => k H1 locs1 ls hP1 hD1 hS1 hl)
theorem z_getsN (q : Nat) (C0 : zC E p s m args meth c cc nL ret own Ts A) {i : Nat} (hw : Cond.fieldLink own i "GrindField$Checker" "NEEDED" "[I" ∈ Ts) (hd : decode cc pc = .ok (.getstatic i, 3)) (hq : pc + 3 = q) (k : Z E p l e R s m args below meth c Q A nL q L (.ref (ztN E) :: st) ws cells slots) : Z E p l e R s m args below meth c Q A nL pc L st ws cells slots := by
  subst hq
  intro H locs ls hP hD hS hl
  have hx := C0.1
  have hb := C0.2.1
  exact va_gets hx hb C0.2.2.2.2.2.2.2.2.2.2.1.1 hS C0.2.2.2.2.1 (C0.2.2.2.2.2.1 _ hw) (fun _ h => h) hd (k H locs ls hP hD hS hl)
theorem z_tabN (q : Nat) (C0 : zC E p s m args meth c cc nL ret own Ts A) {j : Nat} {v : Int32} (hd : decode cc pc = .ok (.iaload, 1)) (hq : pc + 1 = q) (hj : j < 19) (hv : zNeed j = v) (k : Z E p l e R s m args below meth c Q A nL q L (.int v :: st) ws cells slots) : Z E p l e R s m args below meth c Q A nL pc L (.int (nI j) :: .ref (ztN E) :: st) ws cells slots := by
  subst hq
  intro H locs ls hP hD hS hl
  have hx := C0.1
  have hb := C0.2.1
  subst hv
  exact va_ti hx hb C0.2.2.2.2.2.2.2.2.2.2.1.2 hS (vp_in_nI hj (by omega)) (by rw [nI_clamp (by omega)]) hd (k H locs ls hP hD hS hl)
theorem z_getsG (q : Nat) (C0 : zC E p s m args meth c cc nL ret own Ts A) {i : Nat} (hw : Cond.fieldLink own i "GrindField$Checker" "GROWTH" "[I" ∈ Ts) (hd : decode cc pc = .ok (.getstatic i, 3)) (hq : pc + 3 = q) (k : Z E p l e R s m args below meth c Q A nL q L (.ref (ztG E) :: st) ws cells slots) : Z E p l e R s m args below meth c Q A nL pc L st ws cells slots := by
  subst hq
  intro H locs ls hP hD hS hl
  have hx := C0.1
  have hb := C0.2.1
  exact va_gets hx hb C0.2.2.2.2.2.2.2.2.2.2.2.1.1 hS C0.2.2.2.2.1 (C0.2.2.2.2.2.1 _ hw) (fun _ h => h) hd (k H locs ls hP hD hS hl)
theorem z_tabG (q : Nat) (C0 : zC E p s m args meth c cc nL ret own Ts A) {j : Nat} {v : Int32} (hd : decode cc pc = .ok (.iaload, 1)) (hq : pc + 1 = q) (hj : j < 19) (hv : zGrow j = v) (k : Z E p l e R s m args below meth c Q A nL q L (.int v :: st) ws cells slots) : Z E p l e R s m args below meth c Q A nL pc L (.int (nI j) :: .ref (ztG E) :: st) ws cells slots := by
  subst hq
  intro H locs ls hP hD hS hl
  have hx := C0.1
  have hb := C0.2.1
  subst hv
  exact va_ti hx hb C0.2.2.2.2.2.2.2.2.2.2.2.1.2 hS (vp_in_nI hj (by omega)) (by rw [nI_clamp (by omega)]) hd (k H locs ls hP hD hS hl)
theorem z_getsA (q : Nat) (C0 : zC E p s m args meth c cc nL ret own Ts A) {i : Nat} (hw : Cond.fieldLink own i "GrindFieldModel" "ARGUMENTS" "[I" ∈ Ts) (hd : decode cc pc = .ok (.getstatic i, 3)) (hq : pc + 3 = q) (k : Z E p l e R s m args below meth c Q A nL q L (.ref (ztA E) :: st) ws cells slots) : Z E p l e R s m args below meth c Q A nL pc L st ws cells slots := by
  subst hq
  intro H locs ls hP hD hS hl
  have hx := C0.1
  have hb := C0.2.1
  exact va_gets hx hb C0.2.2.2.2.2.2.2.2.2.2.2.2.1 hS C0.2.2.2.2.1 (C0.2.2.2.2.2.1 _ hw) (fun _ h => h) hd (k H locs ls hP hD hS hl)
theorem z_tabA (q : Nat) (C0 : zC E p s m args meth c cc nL ret own Ts A) {j : Nat} {v : Int32} (hd : decode cc pc = .ok (.iaload, 1)) (hq : pc + 1 = q) (hj : j < 4) (hv : zArgs j = v) (k : Z E p l e R s m args below meth c Q A nL q L (.int v :: st) ws cells slots) : Z E p l e R s m args below meth c Q A nL pc L (.int (nI j) :: .ref (ztA E) :: st) ws cells slots := by
  subst hq
  intro H locs ls hP hD hS hl
  have hx := C0.1
  have hb := C0.2.1
  subst hv
  exact va_ti hx hb C0.2.2.2.2.2.2.2.2.2.2.2.2.2 hS (vp_in_nI hj (by omega)) (by rw [nI_clamp (by omega)]) hd (k H locs ls hP hD hS hl)
theorem z_iret (C0 : zC E p s m args meth c cc nL ret own Ts A) {B : Int32 → va_W → Prop} {mc ms : Nat} {v : Int32} (hret : ret = some .int) (hd : decode cc pc = .ok (.ireturn, 1)) (hB : B v ws) (hc : cells ≤ mc) (hs : slots ≤ ms) : Z E p l e R s m args below meth c (MQ below (va_Qi B (zPost E A) A) args s mc ms A) A nL pc L [.int v] ws cells slots := by
  intro H locs ls hP hD hS hl
  refine W.widen hc hs ?_
  exact W.iret C0.1 C0.2.1 (C0.2.2.1.trans hret) (fun t ht hW => ⟨⟨v, ws, rfl, hB, by rw [ht]; exact hP, va_K.moved hW.alike C0.2.2.2.2.2.2.2.1, hD⟩, hS.F ht⟩) hS.2.2 hd C0.2.2.2.2.2.2.1
theorem z_zret (C0 : zC E p s m args meth c cc nL ret own Ts A) {B : Int32 → va_W → Prop} {mc ms : Nat} {v : Int32} (hret : ret = some .boolean) (hn : narrow .boolean (.int v) = .int v) (hd : decode cc pc = .ok (.ireturn, 1)) (hB : B v ws) (hc : cells ≤ mc) (hs : slots ≤ ms) : Z E p l e R s m args below meth c (MQ below (va_Qi B (zPost E A) A) args s mc ms A) A nL pc L [.int v] ws cells slots := by
  intro H locs ls hP hD hS hl
  refine W.widen hc hs ?_
  exact W.zret C0.1 C0.2.1 (C0.2.2.1.trans hret) hn (fun t ht hW => ⟨⟨v, ws, rfl, hB, by rw [ht]; exact hP, va_K.moved hW.alike C0.2.2.2.2.2.2.2.1, hD⟩, hS.F ht⟩) hS.2.2 hd C0.2.2.2.2.2.2.1
theorem z_lret (C0 : zC E p s m args meth c cc nL ret own Ts A) {B : Int64 → va_W → Prop} {mc ms : Nat} {v : Int64} (hret : ret = some .long) (hd : decode cc pc = .ok (.lreturn, 1)) (hB : B v ws) (hc : cells ≤ mc) (hs : slots ≤ ms) : Z E p l e R s m args below meth c (MQ below (va_Ql B (zPost E A) A) args s mc ms A) A nL pc L [.long v] ws cells slots := by
  intro H locs ls hP hD hS hl
  refine W.widen hc hs ?_
  exact W.lret C0.1 C0.2.1 (C0.2.2.1.trans hret) (fun t ht hW => ⟨⟨v, ws, rfl, hB, by rw [ht]; exact hP, va_K.moved hW.alike C0.2.2.2.2.2.2.2.1, hD⟩, hS.F ht⟩) hS.2.2 hd C0.2.2.2.2.2.2.1
theorem z_vret (C0 : zC E p s m args meth c cc nL ret own Ts A) {B : va_W → Prop} {mc ms : Nat} (hret : ret = none) (hd : decode cc pc = .ok (.return_, 1)) (hB : B ws) (hc : cells ≤ mc) (hs : slots ≤ ms) : Z E p l e R s m args below meth c (MQ below (va_Qv B (zPost E A) A) args s mc ms A) A nL pc L [] ws cells slots := by
  intro H locs ls hP hD hS hl
  refine W.widen hc hs ?_
  exact W.vret C0.1 C0.2.1 (C0.2.2.1.trans hret) (fun t ht hW => ⟨⟨ws, rfl, hB, by rw [ht]; exact hP, va_K.moved hW.alike C0.2.2.2.2.2.2.2.1, hD⟩, hS.F ht⟩) hS.2.2 hd C0.2.2.2.2.2.2.1
theorem z_nd {a b : List Nat} (h : va_nd (a ++ b) = true) : va_nd a = true ∧ va_nd b = true ∧ ∀ i ∈ b, i ∉ a := by
  induction a with
  | nil => exact ⟨rfl, h, fun i _ h => by cases h⟩
  | cons x a ih =>
    simp only [List.cons_append, va_nd, Bool.and_eq_true, decide_eq_true_eq] at h
    obtain ⟨h1, h2⟩ := h
    obtain ⟨i1, i2, i3⟩ := ih h2
    refine ⟨by simp only [va_nd, Bool.and_eq_true, decide_eq_true_eq]; exact ⟨fun q => h1 (List.mem_append_left _ q), i1⟩, i2, fun i hi hq => ?_⟩
    rcases List.mem_cons.mp hq with rfl | hq
    · exact h1 (List.mem_append_right _ hi)
    · exact i3 i hi hq
theorem z_sub : ∀ {is : List Nat} {ws v1 : va_W}, is.map (fun i => ws[i]?) = v1.map some → is.filterMap (fun i => ws[i]?) = v1
  | [], _, [], _ => rfl
  | [], _, x :: xs, h => by simp at h
  | j :: js, _, [], h => by simp at h
  | j :: js, ws, x :: xs, h => by
    simp only [List.map_cons, List.cons.injEq] at h
    rw [List.filterMap_cons, h.1]
    simp only [z_sub h.2]
/-- the picture in other words -/
theorem z_eq {L1 : List (Nat × Value)} {st1 : List Value} {w1 : va_W} (hL : L = L1) (hs : st = st1) (hw : ws = w1) (k : Z E p l e R s m args below meth c Q A nL pc L1 st1 w1 cells slots) : Z E p l e R s m args below meth c Q A nL pc L st ws cells slots := by
  subst hL; subst hs; subst hw; exact k
theorem z_eqs {st1 : List Value} (hs : st = st1) (k : Z E p l e R s m args below meth c Q A nL pc L st1 ws cells slots) : Z E p l e R s m args below meth c Q A nL pc L st ws cells slots := by
  subst hs; exact k
theorem z_eqw {w1 : va_W} (hw : ws = w1) (k : Z E p l e R s m args below meth c Q A nL pc L st w1 cells slots) : Z E p l e R s m args below meth c Q A nL pc L st ws cells slots := by
  subst hw; exact k
theorem z_eqL {L1 : List (Nat × Value)} (hL : L = L1) (k : Z E p l e R s m args below meth c Q A nL pc L1 st ws cells slots) : Z E p l e R s m args below meth c Q A nL pc L st ws cells slots := by
  subst hL; exact k
/-- locals in another order, or fewer -/
theorem z_loc (ks : List Nat) (L1 : List (Nat × Value)) (hL : lv_pick L ks = L1) (k : Z E p l e R s m args below meth c Q A nL pc L1 st ws cells slots) : Z E p l e R s m args below meth c Q A nL pc L st ws cells slots :=
  fun H locs ls hP hD hS hl => k H locs ls hP hD hS (lv_sub hl ks hL)
/-- cells in another order, or fewer -/
theorem z_perm (is : List Nat) (w1 : va_W) (hn : va_nd is = true) (h : is.map (fun i => ws[i]?) = w1.map some) (k : Z E p l e R s m args below meth c Q A nL pc L st w1 cells slots) : Z E p l e R s m args below meth c Q A nL pc L st ws cells slots :=
  fun H locs ls hP hD hS hl => k H locs ls (hP.sub is (z_sub h)) (hD.sub is hn h) hS hl
theorem z_widen {k1 n1 : Nat} (h1 : cells ≤ k1) (h2 : slots ≤ n1) (k : Z E p l e R s m args below meth c Q A nL pc L st ws k1 n1) : Z E p l e R s m args below meth c Q A nL pc L st ws cells slots :=
  fun H locs ls hP hD hS hl => W.widen h1 h2 (k H locs ls hP hD hS hl)
theorem z_callVi (q : Nat) (C0 : zC E p s m args meth c cc nL ret own Ts A) (isC isR : List Nat) (wr : va_W) (cells1 slots1 : Nat) {y : MethodName} {wsY ws2 : List Cond} {rm : Room} {wc : va_W} {mc ms : Nat} {bytes : ByteArray} {maxL i : Nat} {st0 : List Value} {C : String} {T : u_T} {N ci b n : Nat} (qr : Nat) {fs : List Value} {As : List Value} {rt : Option FieldType} {B : Int32 → va_W → Prop} (hM : zMi l E y wsY rm (.ref b :: As) wc B mc ms) (hT : GoodIn Ts (wsV own i C y wsY)) (hw : wsY = Cond.code y bytes maxL rt :: ws2) (hdy : y.cls = C ∧ y.cls ≠ "java/lang/invoke/MethodHandle" ∧ y.cls ≠ "java/lang/invoke/VarHandle" ∧ (parseMethodDescriptor y.desc).map (fun d => d.parameters.length) = some n) (hr : wc[qr]? = some (b, zo ci fs)) (hcl : vwCl[ci]? = some (C, T, N)) (hC : isC.map (fun i => ws[i]?) = wc.map some) (hR : isR.map (fun i => ws[i]?) = wr.map some) (hnd : va_nd (isC ++ isR) = true)
    (hstk : st0 = As.reverse ++ .ref b :: st) (hn : As.length = n) (hrm : (st.map fun v => v.category).sum ≤ 8) (hRm : rm.frames + 1 ≤ R.frames ∧ 8 + (maxL + 11) + rm.locals ≤ R.locals) (hrc : rm.cells = mc) (hrs : rm.slots = ms) (hf : cells + mc ≤ R.cells ∧ slots + ms ≤ R.slots) (hc1 : cells + mc ≤ cells1 ∧ slots + ms ≤ slots1) (hd : decode cc pc = .ok (.invokevirtual i, 3)) (hq : pc + 3 = q) (k : ∀ (r : Int32) (w1 : va_W), B r w1 → Z E p l e R s m args below meth c Q A nL q L (.int r :: st) (wr ++ w1) cells1 slots1) : Z E p l e R s m args below meth c Q A nL pc L st0 ws cells slots := by
  subst hq
  intro H locs ls hP hD hS hl
  have hx := C0.1
  have hb := C0.2.1
  obtain ⟨hn1, hn2, hdis⟩ := z_nd hnd
  have hPc := hP.sub (ws' := wc) isC (z_sub hC)
  have hDc := hD.sub (ws' := wc) isC hn1 hC
  have hFc := va_free (wc := wc) hD hS C0.2.2.2.2.2.2.2.2.1 isC hC
  refine va_calli (va_runV (As := As) (rest := st) (b := b) ⟨hx, hb, C0.2.2.2.1, C0.2.2.2.2.1, C0.2.2.2.2.2.1⟩ (hM H.size) (cwV n C0.2.2.2.2.2.1 hT hw hrc hrs hdy hRm) ⟨zPre.blind, va_recv C0.2.2.2.2.2.2.2.1 hPc hcl hr, fun U hU hW => zPre.at hPc C0.2.2.2.2.2.2.2.1 (hDc.weaken (fun _ _ _ _ => trivial)) C0.2.2.2.2.2.2.2.2.2 hS hFc hU hW⟩ rfl hn (hl.1) hstk (lv_room hrm) hd hf) hS (fun q _ h => hFc q h) hFc (fun r u t H1 locs1 ht hvm hw1 hB hz1 hk1 hS1 => ?_)
  obtain ⟨hP1, hK1, hD1⟩ := hB
  rw [ht] at hP1
  obtain ⟨hP2, hD2⟩ := va_join hP hD isC isR hC hR hn2 hdis hk1 hFc hP1 hD1
  exact W.widen hc1.1 hc1.2 (k r u hw1 H1 locs1 ls hP2 hD2 hS1 hl)
theorem z_callVl (q : Nat) (C0 : zC E p s m args meth c cc nL ret own Ts A) (isC isR : List Nat) (wr : va_W) (cells1 slots1 : Nat) {y : MethodName} {wsY ws2 : List Cond} {rm : Room} {wc : va_W} {mc ms : Nat} {bytes : ByteArray} {maxL i : Nat} {st0 : List Value} {C : String} {T : u_T} {N ci b n : Nat} (qr : Nat) {fs : List Value} {As : List Value} {rt : Option FieldType} {B : Int64 → va_W → Prop} (hM : zMl l E y wsY rm (.ref b :: As) wc B mc ms) (hT : GoodIn Ts (wsV own i C y wsY)) (hw : wsY = Cond.code y bytes maxL rt :: ws2) (hdy : y.cls = C ∧ y.cls ≠ "java/lang/invoke/MethodHandle" ∧ y.cls ≠ "java/lang/invoke/VarHandle" ∧ (parseMethodDescriptor y.desc).map (fun d => d.parameters.length) = some n) (hr : wc[qr]? = some (b, zo ci fs)) (hcl : vwCl[ci]? = some (C, T, N)) (hC : isC.map (fun i => ws[i]?) = wc.map some) (hR : isR.map (fun i => ws[i]?) = wr.map some) (hnd : va_nd (isC ++ isR) = true)
    (hstk : st0 = As.reverse ++ .ref b :: st) (hn : As.length = n) (hrm : (st.map fun v => v.category).sum ≤ 8) (hRm : rm.frames + 1 ≤ R.frames ∧ 8 + (maxL + 11) + rm.locals ≤ R.locals) (hrc : rm.cells = mc) (hrs : rm.slots = ms) (hf : cells + mc ≤ R.cells ∧ slots + ms ≤ R.slots) (hc1 : cells + mc ≤ cells1 ∧ slots + ms ≤ slots1) (hd : decode cc pc = .ok (.invokevirtual i, 3)) (hq : pc + 3 = q) (k : ∀ (r : Int64) (w1 : va_W), B r w1 → Z E p l e R s m args below meth c Q A nL q L (.long r :: st) (wr ++ w1) cells1 slots1) : Z E p l e R s m args below meth c Q A nL pc L st0 ws cells slots := by
  subst hq
  intro H locs ls hP hD hS hl
  have hx := C0.1
  have hb := C0.2.1
  obtain ⟨hn1, hn2, hdis⟩ := z_nd hnd
  have hPc := hP.sub (ws' := wc) isC (z_sub hC)
  have hDc := hD.sub (ws' := wc) isC hn1 hC
  have hFc := va_free (wc := wc) hD hS C0.2.2.2.2.2.2.2.2.1 isC hC
  refine va_calll (va_runV (As := As) (rest := st) (b := b) ⟨hx, hb, C0.2.2.2.1, C0.2.2.2.2.1, C0.2.2.2.2.2.1⟩ (hM H.size) (cwV n C0.2.2.2.2.2.1 hT hw hrc hrs hdy hRm) ⟨zPre.blind, va_recv C0.2.2.2.2.2.2.2.1 hPc hcl hr, fun U hU hW => zPre.at hPc C0.2.2.2.2.2.2.2.1 (hDc.weaken (fun _ _ _ _ => trivial)) C0.2.2.2.2.2.2.2.2.2 hS hFc hU hW⟩ rfl hn (hl.1) hstk (lv_room hrm) hd hf) hS (fun q _ h => hFc q h) hFc (fun r u t H1 locs1 ht hvm hw1 hB hz1 hk1 hS1 => ?_)
  obtain ⟨hP1, hK1, hD1⟩ := hB
  rw [ht] at hP1
  obtain ⟨hP2, hD2⟩ := va_join hP hD isC isR hC hR hn2 hdis hk1 hFc hP1 hD1
  exact W.widen hc1.1 hc1.2 (k r u hw1 H1 locs1 ls hP2 hD2 hS1 hl)
theorem z_callVv (q : Nat) (C0 : zC E p s m args meth c cc nL ret own Ts A) (isC isR : List Nat) (wr : va_W) (cells1 slots1 : Nat) {y : MethodName} {wsY ws2 : List Cond} {rm : Room} {wc : va_W} {mc ms : Nat} {bytes : ByteArray} {maxL i : Nat} {st0 : List Value} {C : String} {T : u_T} {N ci b n : Nat} (qr : Nat) {fs : List Value} {As : List Value} {rt : Option FieldType} {B : va_W → Prop} (hM : zMv l E y wsY rm (.ref b :: As) wc B mc ms) (hT : GoodIn Ts (wsV own i C y wsY)) (hw : wsY = Cond.code y bytes maxL rt :: ws2) (hdy : y.cls = C ∧ y.cls ≠ "java/lang/invoke/MethodHandle" ∧ y.cls ≠ "java/lang/invoke/VarHandle" ∧ (parseMethodDescriptor y.desc).map (fun d => d.parameters.length) = some n) (hr : wc[qr]? = some (b, zo ci fs)) (hcl : vwCl[ci]? = some (C, T, N)) (hC : isC.map (fun i => ws[i]?) = wc.map some) (hR : isR.map (fun i => ws[i]?) = wr.map some) (hnd : va_nd (isC ++ isR) = true)
    (hstk : st0 = As.reverse ++ .ref b :: st) (hn : As.length = n) (hrm : (st.map fun v => v.category).sum ≤ 8) (hRm : rm.frames + 1 ≤ R.frames ∧ 8 + (maxL + 11) + rm.locals ≤ R.locals) (hrc : rm.cells = mc) (hrs : rm.slots = ms) (hf : cells + mc ≤ R.cells ∧ slots + ms ≤ R.slots) (hc1 : cells + mc ≤ cells1 ∧ slots + ms ≤ slots1) (hd : decode cc pc = .ok (.invokevirtual i, 3)) (hq : pc + 3 = q) (k : ∀ (w1 : va_W), B w1 → Z E p l e R s m args below meth c Q A nL q L st (wr ++ w1) cells1 slots1) : Z E p l e R s m args below meth c Q A nL pc L st0 ws cells slots := by
  subst hq
  intro H locs ls hP hD hS hl
  have hx := C0.1
  have hb := C0.2.1
  obtain ⟨hn1, hn2, hdis⟩ := z_nd hnd
  have hPc := hP.sub (ws' := wc) isC (z_sub hC)
  have hDc := hD.sub (ws' := wc) isC hn1 hC
  have hFc := va_free (wc := wc) hD hS C0.2.2.2.2.2.2.2.2.1 isC hC
  refine va_callv (va_runV (As := As) (rest := st) (b := b) ⟨hx, hb, C0.2.2.2.1, C0.2.2.2.2.1, C0.2.2.2.2.2.1⟩ (hM H.size) (cwV n C0.2.2.2.2.2.1 hT hw hrc hrs hdy hRm) ⟨zPre.blind, va_recv C0.2.2.2.2.2.2.2.1 hPc hcl hr, fun U hU hW => zPre.at hPc C0.2.2.2.2.2.2.2.1 (hDc.weaken (fun _ _ _ _ => trivial)) C0.2.2.2.2.2.2.2.2.2 hS hFc hU hW⟩ rfl hn (hl.1) hstk (lv_room hrm) hd hf) hS (fun q _ h => hFc q h) hFc (fun u t H1 locs1 ht hvm hw1 hB hz1 hk1 hS1 => ?_)
  obtain ⟨hP1, hK1, hD1⟩ := hB
  rw [ht] at hP1
  obtain ⟨hP2, hD2⟩ := va_join hP hD isC isR hC hR hn2 hdis hk1 hFc hP1 hD1
  exact W.widen hc1.1 hc1.2 (k u hw1 H1 locs1 ls hP2 hD2 hS1 hl)
theorem z_callSi (q : Nat) (C0 : zC E p s m args meth c cc nL ret own Ts A) (isC isR : List Nat) (wr : va_W) (cells1 slots1 : Nat) {y : MethodName} {wsY ws2 : List Cond} {rm : Room} {wc : va_W} {mc ms : Nat} {bytes : ByteArray} {maxL i : Nat} {st0 : List Value} {n : Nat} {As : List Value} {rt : Option FieldType} {B : Int32 → va_W → Prop} (hM : zMi l E y wsY rm As wc B mc ms) (hT : GoodIn Ts (va_wsS own i y wsY)) (hw : wsY = Cond.code y bytes maxL rt :: ws2) (hdy : y.cls ≠ "java/lang/invoke/MethodHandle" ∧ y.cls ≠ "java/lang/invoke/VarHandle" ∧ (parseMethodDescriptor y.desc).map (fun d => d.parameters.length) = some n)  (hC : isC.map (fun i => ws[i]?) = wc.map some) (hR : isR.map (fun i => ws[i]?) = wr.map some) (hnd : va_nd (isC ++ isR) = true)
    (hstk : st0 = As.reverse ++ st) (hn : As.length = n) (hrm : (st.map fun v => v.category).sum ≤ 8) (hRm : rm.frames + 1 ≤ R.frames ∧ 8 + (maxL + 11) + rm.locals ≤ R.locals) (hrc : rm.cells = mc) (hrs : rm.slots = ms) (hf : cells + mc ≤ R.cells ∧ slots + ms ≤ R.slots) (hc1 : cells + mc ≤ cells1 ∧ slots + ms ≤ slots1) (hd : decode cc pc = .ok (.invokestatic i, 3)) (hq : pc + 3 = q) (k : ∀ (r : Int32) (w1 : va_W), B r w1 → Z E p l e R s m args below meth c Q A nL q L (.int r :: st) (wr ++ w1) cells1 slots1) : Z E p l e R s m args below meth c Q A nL pc L st0 ws cells slots := by
  subst hq
  intro H locs ls hP hD hS hl
  have hx := C0.1
  have hb := C0.2.1
  obtain ⟨hn1, hn2, hdis⟩ := z_nd hnd
  have hPc := hP.sub (ws' := wc) isC (z_sub hC)
  have hDc := hD.sub (ws' := wc) isC hn1 hC
  have hFc := va_free (wc := wc) hD hS C0.2.2.2.2.2.2.2.2.1 isC hC
  refine va_calli (va_runS (As := As) (rest := st) ⟨hx, hb, C0.2.2.2.1, C0.2.2.2.2.1, C0.2.2.2.2.2.1⟩ (hM H.size) (va_cwS n C0.2.2.2.2.2.1 hT hw hrc hrs hdy hRm) ⟨zPre.blind, fun U hU hW => zPre.at hPc C0.2.2.2.2.2.2.2.1 (hDc.weaken (fun _ _ _ _ => trivial)) C0.2.2.2.2.2.2.2.2.2 hS hFc hU hW⟩ rfl hn (hl.1) hstk (lv_room hrm) hd hf) hS (fun q _ h => hFc q h) hFc (fun r u t H1 locs1 ht hvm hw1 hB hz1 hk1 hS1 => ?_)
  obtain ⟨hP1, hK1, hD1⟩ := hB
  rw [ht] at hP1
  obtain ⟨hP2, hD2⟩ := va_join hP hD isC isR hC hR hn2 hdis hk1 hFc hP1 hD1
  exact W.widen hc1.1 hc1.2 (k r u hw1 H1 locs1 ls hP2 hD2 hS1 hl)
theorem z_callSl (q : Nat) (C0 : zC E p s m args meth c cc nL ret own Ts A) (isC isR : List Nat) (wr : va_W) (cells1 slots1 : Nat) {y : MethodName} {wsY ws2 : List Cond} {rm : Room} {wc : va_W} {mc ms : Nat} {bytes : ByteArray} {maxL i : Nat} {st0 : List Value} {n : Nat} {As : List Value} {rt : Option FieldType} {B : Int64 → va_W → Prop} (hM : zMl l E y wsY rm As wc B mc ms) (hT : GoodIn Ts (va_wsS own i y wsY)) (hw : wsY = Cond.code y bytes maxL rt :: ws2) (hdy : y.cls ≠ "java/lang/invoke/MethodHandle" ∧ y.cls ≠ "java/lang/invoke/VarHandle" ∧ (parseMethodDescriptor y.desc).map (fun d => d.parameters.length) = some n)  (hC : isC.map (fun i => ws[i]?) = wc.map some) (hR : isR.map (fun i => ws[i]?) = wr.map some) (hnd : va_nd (isC ++ isR) = true)
    (hstk : st0 = As.reverse ++ st) (hn : As.length = n) (hrm : (st.map fun v => v.category).sum ≤ 8) (hRm : rm.frames + 1 ≤ R.frames ∧ 8 + (maxL + 11) + rm.locals ≤ R.locals) (hrc : rm.cells = mc) (hrs : rm.slots = ms) (hf : cells + mc ≤ R.cells ∧ slots + ms ≤ R.slots) (hc1 : cells + mc ≤ cells1 ∧ slots + ms ≤ slots1) (hd : decode cc pc = .ok (.invokestatic i, 3)) (hq : pc + 3 = q) (k : ∀ (r : Int64) (w1 : va_W), B r w1 → Z E p l e R s m args below meth c Q A nL q L (.long r :: st) (wr ++ w1) cells1 slots1) : Z E p l e R s m args below meth c Q A nL pc L st0 ws cells slots := by
  subst hq
  intro H locs ls hP hD hS hl
  have hx := C0.1
  have hb := C0.2.1
  obtain ⟨hn1, hn2, hdis⟩ := z_nd hnd
  have hPc := hP.sub (ws' := wc) isC (z_sub hC)
  have hDc := hD.sub (ws' := wc) isC hn1 hC
  have hFc := va_free (wc := wc) hD hS C0.2.2.2.2.2.2.2.2.1 isC hC
  refine va_calll (va_runS (As := As) (rest := st) ⟨hx, hb, C0.2.2.2.1, C0.2.2.2.2.1, C0.2.2.2.2.2.1⟩ (hM H.size) (va_cwS n C0.2.2.2.2.2.1 hT hw hrc hrs hdy hRm) ⟨zPre.blind, fun U hU hW => zPre.at hPc C0.2.2.2.2.2.2.2.1 (hDc.weaken (fun _ _ _ _ => trivial)) C0.2.2.2.2.2.2.2.2.2 hS hFc hU hW⟩ rfl hn (hl.1) hstk (lv_room hrm) hd hf) hS (fun q _ h => hFc q h) hFc (fun r u t H1 locs1 ht hvm hw1 hB hz1 hk1 hS1 => ?_)
  obtain ⟨hP1, hK1, hD1⟩ := hB
  rw [ht] at hP1
  obtain ⟨hP2, hD2⟩ := va_join hP hD isC isR hC hR hn2 hdis hk1 hFc hP1 hD1
  exact W.widen hc1.1 hc1.2 (k r u hw1 H1 locs1 ls hP2 hD2 hS1 hl)
theorem z_callSv (q : Nat) (C0 : zC E p s m args meth c cc nL ret own Ts A) (isC isR : List Nat) (wr : va_W) (cells1 slots1 : Nat) {y : MethodName} {wsY ws2 : List Cond} {rm : Room} {wc : va_W} {mc ms : Nat} {bytes : ByteArray} {maxL i : Nat} {st0 : List Value} {n : Nat} {As : List Value} {rt : Option FieldType} {B : va_W → Prop} (hM : zMv l E y wsY rm As wc B mc ms) (hT : GoodIn Ts (va_wsS own i y wsY)) (hw : wsY = Cond.code y bytes maxL rt :: ws2) (hdy : y.cls ≠ "java/lang/invoke/MethodHandle" ∧ y.cls ≠ "java/lang/invoke/VarHandle" ∧ (parseMethodDescriptor y.desc).map (fun d => d.parameters.length) = some n)  (hC : isC.map (fun i => ws[i]?) = wc.map some) (hR : isR.map (fun i => ws[i]?) = wr.map some) (hnd : va_nd (isC ++ isR) = true)
    (hstk : st0 = As.reverse ++ st) (hn : As.length = n) (hrm : (st.map fun v => v.category).sum ≤ 8) (hRm : rm.frames + 1 ≤ R.frames ∧ 8 + (maxL + 11) + rm.locals ≤ R.locals) (hrc : rm.cells = mc) (hrs : rm.slots = ms) (hf : cells + mc ≤ R.cells ∧ slots + ms ≤ R.slots) (hc1 : cells + mc ≤ cells1 ∧ slots + ms ≤ slots1) (hd : decode cc pc = .ok (.invokestatic i, 3)) (hq : pc + 3 = q) (k : ∀ (w1 : va_W), B w1 → Z E p l e R s m args below meth c Q A nL q L st (wr ++ w1) cells1 slots1) : Z E p l e R s m args below meth c Q A nL pc L st0 ws cells slots := by
  subst hq
  intro H locs ls hP hD hS hl
  have hx := C0.1
  have hb := C0.2.1
  obtain ⟨hn1, hn2, hdis⟩ := z_nd hnd
  have hPc := hP.sub (ws' := wc) isC (z_sub hC)
  have hDc := hD.sub (ws' := wc) isC hn1 hC
  have hFc := va_free (wc := wc) hD hS C0.2.2.2.2.2.2.2.2.1 isC hC
  refine va_callv (va_runS (As := As) (rest := st) ⟨hx, hb, C0.2.2.2.1, C0.2.2.2.2.1, C0.2.2.2.2.2.1⟩ (hM H.size) (va_cwS n C0.2.2.2.2.2.1 hT hw hrc hrs hdy hRm) ⟨zPre.blind, fun U hU hW => zPre.at hPc C0.2.2.2.2.2.2.2.1 (hDc.weaken (fun _ _ _ _ => trivial)) C0.2.2.2.2.2.2.2.2.2 hS hFc hU hW⟩ rfl hn (hl.1) hstk (lv_room hrm) hd hf) hS (fun q _ h => hFc q h) hFc (fun u t H1 locs1 ht hvm hw1 hB hz1 hk1 hS1 => ?_)
  obtain ⟨hP1, hK1, hD1⟩ := hB
  rw [ht] at hP1
  obtain ⟨hP2, hD2⟩ := va_join hP hD isC isR hC hR hn2 hdis hk1 hFc hP1 hD1
  exact W.widen hc1.1 hc1.2 (k u hw1 H1 locs1 ls hP2 hD2 hS1 hl)
theorem z_callI (q : Nat) (C0 : zC E p s m args meth c cc nL ret own Ts A) (isC isR : List Nat) (wr : va_W) (cells1 slots1 : Nat) {y : MethodName} {wsY ws2 : List Cond} {rm : Room} {wc : va_W} {mc ms : Nat} {bytes : ByteArray} {maxL i : Nat} {st0 : List Value} {b n : Nat} {As : List Value} {B : va_W → Prop} (hM : zMv l E y wsY rm (.ref b :: As) wc B mc ms) (hT : GoodIn Ts wsY) (hw : wsY = Cond.code y bytes maxL none :: ws2) (hini : Cond.initialized y.cls ∈ Ts) (hlk : Cond.methodLink own i y ∈ Ts) (hinst : Cond.instanceMethod y ∈ Ts) (hyn : y.name = "<init>") (hdy : y.cls ≠ "java/lang/invoke/MethodHandle" ∧ y.cls ≠ "java/lang/invoke/VarHandle" ∧ (parseMethodDescriptor y.desc).map (fun d => d.parameters.length) = some n)  (hC : isC.map (fun i => ws[i]?) = wc.map some) (hR : isR.map (fun i => ws[i]?) = wr.map some) (hnd : va_nd (isC ++ isR) = true)
    (hstk : st0 = As.reverse ++ .ref b :: st) (hn : As.length = n) (hrm : (st.map fun v => v.category).sum ≤ 8) (hRm : rm.frames + 1 ≤ R.frames ∧ 8 + (maxL + 11) + rm.locals ≤ R.locals) (hrc : rm.cells = mc) (hrs : rm.slots = ms) (hf : cells + mc ≤ R.cells ∧ slots + ms ≤ R.slots) (hc1 : cells + mc ≤ cells1 ∧ slots + ms ≤ slots1) (hd : decode cc pc = .ok (.invokespecial i, 3)) (hq : pc + 3 = q) (k : ∀ (w1 : va_W), B w1 → Z E p l e R s m args below meth c Q A nL q L st (wr ++ w1) cells1 slots1) : Z E p l e R s m args below meth c Q A nL pc L st0 ws cells slots := by
  subst hq
  intro H locs ls hP hD hS hl
  have hx := C0.1
  have hb := C0.2.1
  obtain ⟨hn1, hn2, hdis⟩ := z_nd hnd
  have hPc := hP.sub (ws' := wc) isC (z_sub hC)
  have hDc := hD.sub (ws' := wc) isC hn1 hC
  have hFc := va_free (wc := wc) hD hS C0.2.2.2.2.2.2.2.2.1 isC hC
  refine va_callv (va_runI (As := As) (rest := st) (b := b) ⟨hx, hb, C0.2.2.2.1, C0.2.2.2.2.1, C0.2.2.2.2.2.1⟩ (hM H.size) (cwI n C0.2.2.2.2.2.1 hT hw hrc hrs (C0.2.2.2.2.2.1 _ hini) (C0.2.2.2.2.2.1 _ hlk) (C0.2.2.2.2.2.1 _ hinst) hyn hdy hRm) ⟨zPre.blind, fun U hU hW => zPre.at hPc C0.2.2.2.2.2.2.2.1 (hDc.weaken (fun _ _ _ _ => trivial)) C0.2.2.2.2.2.2.2.2.2 hS hFc hU hW⟩ rfl hn (hl.1) hstk (lv_room hrm) hd hf) hS (fun q _ h => hFc q h) hFc (fun u t H1 locs1 ht hvm hw1 hB hz1 hk1 hS1 => ?_)
  obtain ⟨hP1, hK1, hD1⟩ := hB
  rw [ht] at hP1
  obtain ⟨hP2, hD2⟩ := va_join hP hD isC isR hC hR hn2 hdis hk1 hFc hP1 hD1
  exact W.widen hc1.1 hc1.2 (k u hw1 H1 locs1 ls hP2 hD2 hS1 hl)
theorem z_callSNi (q : Nat) (C0 : zC E p s m args meth c cc nL ret own Ts A) (isC isR : List Nat) (wr : va_W) (cells1 slots1 : Nat) {y : MethodName} {wsY ws2 : List Cond} {rm : Room} {wc : va_W} {mc ms : Nat} {bytes : ByteArray} {maxL i : Nat} {st0 : List Value} {n : Nat} {host : String} {As : List Value} {rt : Option FieldType} {B : Int32 → va_W → Prop} (hM : zMi l E y wsY rm As wc B mc ms) (hT : GoodIn Ts wsY) (hw : wsY = Cond.code y bytes maxL rt :: ws2) (hnw : va_Nw (.methodLinkNest own i y host) s) (hini : Cond.initialized y.cls ∈ Ts) (hst : Cond.static y ∈ Ts) (hdy : y.cls ≠ "java/lang/invoke/MethodHandle" ∧ y.cls ≠ "java/lang/invoke/VarHandle" ∧ (parseMethodDescriptor y.desc).map (fun d => d.parameters.length) = some n)  (hC : isC.map (fun i => ws[i]?) = wc.map some) (hR : isR.map (fun i => ws[i]?) = wr.map some) (hnd : va_nd (isC ++ isR) = true)
    (hstk : st0 = As.reverse ++ st) (hn : As.length = n) (hrm : (st.map fun v => v.category).sum ≤ 8) (hRm : rm.frames + 1 ≤ R.frames ∧ 8 + (maxL + 11) + rm.locals ≤ R.locals) (hrc : rm.cells = mc) (hrs : rm.slots = ms) (hf : cells + mc ≤ R.cells ∧ slots + ms ≤ R.slots) (hc1 : cells + mc ≤ cells1 ∧ slots + ms ≤ slots1) (hd : decode cc pc = .ok (.invokestatic i, 3)) (hq : pc + 3 = q) (k : ∀ (r : Int32) (w1 : va_W), B r w1 → Z E p l e R s m args below meth c Q A nL q L (.int r :: st) (wr ++ w1) cells1 slots1) : Z E p l e R s m args below meth c Q A nL pc L st0 ws cells slots := by
  subst hq
  intro H locs ls hP hD hS hl
  have hx := C0.1
  have hb := C0.2.1
  obtain ⟨hn1, hn2, hdis⟩ := z_nd hnd
  have hPc := hP.sub (ws' := wc) isC (z_sub hC)
  have hDc := hD.sub (ws' := wc) isC hn1 hC
  have hFc := va_free (wc := wc) hD hS C0.2.2.2.2.2.2.2.2.1 isC hC
  refine va_calli (va_runSN (As := As) (rest := st) (host := host) ⟨hx, hb, C0.2.2.2.1, C0.2.2.2.2.1, C0.2.2.2.2.2.1⟩ (hM H.size) ⟨va_cnB n C0.2.2.2.2.2.1 hT hw hrc hrs hnw (C0.2.2.2.2.2.1 _ hini) hdy hRm, C0.2.2.2.2.2.1 _ hst, trivial⟩ ⟨zPre.blind, fun U hU hW => zPre.at hPc C0.2.2.2.2.2.2.2.1 (hDc.weaken (fun _ _ _ _ => trivial)) C0.2.2.2.2.2.2.2.2.2 hS hFc hU hW⟩ rfl hn (hl.1) hstk (lv_room hrm) hd hf) hS (fun q _ h => hFc q h) hFc (fun r u t H1 locs1 ht hvm hw1 hB hz1 hk1 hS1 => ?_)
  obtain ⟨hP1, hK1, hD1⟩ := hB
  rw [ht] at hP1
  obtain ⟨hP2, hD2⟩ := va_join hP hD isC isR hC hR hn2 hdis hk1 hFc hP1 hD1
  exact W.widen hc1.1 hc1.2 (k r u hw1 H1 locs1 ls hP2 hD2 hS1 hl)
theorem z_callIN (q : Nat) (C0 : zC E p s m args meth c cc nL ret own Ts A) (isC isR : List Nat) (wr : va_W) (cells1 slots1 : Nat) {y : MethodName} {wsY ws2 : List Cond} {rm : Room} {wc : va_W} {mc ms : Nat} {bytes : ByteArray} {maxL i : Nat} {st0 : List Value} {b n : Nat} {host : String} {As : List Value} {B : va_W → Prop} (hM : zMv l E y wsY rm (.ref b :: As) wc B mc ms) (hT : GoodIn Ts wsY) (hw : wsY = Cond.code y bytes maxL none :: ws2) (hnw : va_Nw (.methodLinkNest own i y host) s) (hini : Cond.initialized y.cls ∈ Ts) (hinst : Cond.instanceMethod y ∈ Ts) (hyn : y.name = "<init>") (hdy : y.cls ≠ "java/lang/invoke/MethodHandle" ∧ y.cls ≠ "java/lang/invoke/VarHandle" ∧ (parseMethodDescriptor y.desc).map (fun d => d.parameters.length) = some n)  (hC : isC.map (fun i => ws[i]?) = wc.map some) (hR : isR.map (fun i => ws[i]?) = wr.map some) (hnd : va_nd (isC ++ isR) = true)
    (hstk : st0 = As.reverse ++ .ref b :: st) (hn : As.length = n) (hrm : (st.map fun v => v.category).sum ≤ 8) (hRm : rm.frames + 1 ≤ R.frames ∧ 8 + (maxL + 11) + rm.locals ≤ R.locals) (hrc : rm.cells = mc) (hrs : rm.slots = ms) (hf : cells + mc ≤ R.cells ∧ slots + ms ≤ R.slots) (hc1 : cells + mc ≤ cells1 ∧ slots + ms ≤ slots1) (hd : decode cc pc = .ok (.invokespecial i, 3)) (hq : pc + 3 = q) (k : ∀ (w1 : va_W), B w1 → Z E p l e R s m args below meth c Q A nL q L st (wr ++ w1) cells1 slots1) : Z E p l e R s m args below meth c Q A nL pc L st0 ws cells slots := by
  subst hq
  intro H locs ls hP hD hS hl
  have hx := C0.1
  have hb := C0.2.1
  obtain ⟨hn1, hn2, hdis⟩ := z_nd hnd
  have hPc := hP.sub (ws' := wc) isC (z_sub hC)
  have hDc := hD.sub (ws' := wc) isC hn1 hC
  have hFc := va_free (wc := wc) hD hS C0.2.2.2.2.2.2.2.2.1 isC hC
  refine va_callv (va_runIN (As := As) (rest := st) (b := b) (host := host) ⟨hx, hb, C0.2.2.2.1, C0.2.2.2.2.1, C0.2.2.2.2.2.1⟩ (hM H.size) ⟨va_cnB n C0.2.2.2.2.2.1 hT hw hrc hrs hnw (C0.2.2.2.2.2.1 _ hini) hdy hRm, hyn, C0.2.2.2.2.2.1 _ hinst⟩ ⟨zPre.blind, fun U hU hW => zPre.at hPc C0.2.2.2.2.2.2.2.1 (hDc.weaken (fun _ _ _ _ => trivial)) C0.2.2.2.2.2.2.2.2.2 hS hFc hU hW⟩ rfl hn (hl.1) hstk (lv_room hrm) hd hf) hS (fun q _ h => hFc q h) hFc (fun u t H1 locs1 ht hvm hw1 hB hz1 hk1 hS1 => ?_)
  obtain ⟨hP1, hK1, hD1⟩ := hB
  rw [ht] at hP1
  obtain ⟨hP2, hD2⟩ := va_join hP hD isC isR hC hR hn2 hdis hk1 hFc hP1 hD1
  exact W.widen hc1.1 hc1.2 (k u hw1 H1 locs1 ls hP2 hD2 hS1 hl)
theorem z_objInit (q : Nat) (C0 : zC E p s m args meth c cc nL ret own Ts A) {i a : Nat} (hlk : Cond.methodLink own i Lib.objectInit ∈ Ts) (hinst : Cond.instanceMethod Lib.objectInit ∈ Ts) (hcode : Cond.code Lib.objectInit ⟨#[0xb1]⟩ 1 none ∈ Ts) (hd : decode cc pc = .ok (.invokespecial i, 3)) (hq : pc + 3 = q) (hrm : (st.map fun v => v.category).sum ≤ 8) (hfr : 1 ≤ R.frames) (hlo : 20 ≤ R.locals) (k : Z E p l e R s m args below meth c Q A nL q L st ws cells slots) : Z E p l e R s m args below meth c Q A nL pc L (.ref a :: st) ws cells slots := by
  subst hq
  intro H locs ls hP hD hS hl
  have h0 : 2 * (F0 m pc ls (.ref a :: st)).monitorRoom + (st.map fun v => v.category).sum ≤ 8 := lv_room hrm
  exact W.objInit C0.1 C0.2.1 C0.2.2.2.2.1 (C0.2.2.2.2.2.1 _ hlk) (C0.2.2.2.2.2.1 _ hinst) (C0.2.2.2.2.2.1 _ hcode) rfl (by rw [C0.2.2.2.1]; exact hl.1) rfl hd hfr (by omega) (k H locs ls hP hD hS hl)
theorem z_min (q : Nat) (C0 : zC E p s m args meth c cc nL ret own Ts A) {i : Nat} {x y v : Int32} (hlk : Cond.methodLink own i Lib.Math.min.name ∈ Ts) (hst : Cond.static Lib.Math.min.name ∈ Ts) (hini : Cond.initialized "java/lang/Math" ∈ Ts) (hcode : Cond.code Lib.Math.min.name Lib.Math.min.code 2 (some .int) ∈ Ts) (hd : decode cc pc = .ok (.invokestatic i, 3)) (hq : pc + 3 = q) (hrm : (st.map fun v => v.category).sum ≤ 8) (hfr : 1 ≤ R.frames) (hlo : 21 ≤ R.locals) (hce : cells ≤ R.cells ∧ slots ≤ R.slots) (hv : (if y < x then y else x) = v) (k : Z E p l e R s m args below meth c Q A nL q L (.int v :: st) ws cells slots) : Z E p l e R s m args below meth c Q A nL pc L (.int y :: .int x :: st) ws cells slots := by
  subst hq; subst hv
  intro H locs ls hP hD hS hl
  exact va_mmin C0.1 C0.2.1 (by rw [C0.2.2.2.1]; exact hl.1.symm) C0.2.2.2.2.1 (C0.2.2.2.2.2.1 _ hlk) (C0.2.2.2.2.2.1 _ hst) (C0.2.2.2.2.2.1 _ hini) (C0.2.2.2.2.2.1 _ hcode) hfr (by omega) hce.1 hce.2 hd (k H locs ls hP hD hS hl)
theorem z_max (q : Nat) (C0 : zC E p s m args meth c cc nL ret own Ts A) {i : Nat} {x y v : Int32} (hlk : Cond.methodLink own i Lib.Math.max.name ∈ Ts) (hst : Cond.static Lib.Math.max.name ∈ Ts) (hini : Cond.initialized "java/lang/Math" ∈ Ts) (hcode : Cond.code Lib.Math.max.name Lib.Math.max.code 2 (some .int) ∈ Ts) (hd : decode cc pc = .ok (.invokestatic i, 3)) (hq : pc + 3 = q) (hrm : (st.map fun v => v.category).sum ≤ 8) (hfr : 1 ≤ R.frames) (hlo : 21 ≤ R.locals) (hce : cells ≤ R.cells ∧ slots ≤ R.slots) (hv : (if x < y then y else x) = v) (k : Z E p l e R s m args below meth c Q A nL q L (.int v :: st) ws cells slots) : Z E p l e R s m args below meth c Q A nL pc L (.int y :: .int x :: st) ws cells slots := by
  subst hq; subst hv
  intro H locs ls hP hD hS hl
  exact va_mmax C0.1 C0.2.1 (by rw [C0.2.2.2.1]; exact hl.1.symm) C0.2.2.2.2.1 (C0.2.2.2.2.2.1 _ hlk) (C0.2.2.2.2.2.1 _ hst) (C0.2.2.2.2.2.1 _ hini) (C0.2.2.2.2.2.1 _ hcode) hfr (by omega) hce.1 hce.2 hd (k H locs ls hP hD hS hl)
theorem z_new (q : Nat) (C0 : zC E p s m args meth c cc nL ret own Ts A) (cells1 slots1 : Nat) {ci N i : Nat} {C : String} {T : u_T} {fs : List Value} (hin : ∀ w ∈ u_ws C T N, w ∈ Ts) (ty : Nat → FieldType) (hty : ∀ k, k < N → parseFieldDescriptor (T k).2.2.1 = some (ty k)) (hcl : Cond.classLink own i C ∈ Ts) (hinst : Cond.instantiable C N ∈ Ts) (hini : Cond.initialized C ∈ Ts) (hc : vwCl[ci]? = some (C, T, N)) (hfs : ∀ j, j < N → defaultValue (ty j) = vp_V fs j) (hf : cells + 1 ≤ R.cells ∧ slots + N ≤ R.slots) (hc1 : cells + 1 = cells1 ∧ slots + N = slots1) (hd : decode cc pc = .ok (.new i, 3)) (hq : pc + 3 = q) (k : ∀ a : Nat, Z E p l e R s m args below meth c Q A nL q L (.ref a :: st) (ws ++ [(a, zo ci fs)]) cells1 slots1) : Z E p l e R s m args below meth c Q A nL pc L st ws cells slots := by
  subst hq
  obtain ⟨rfl, rfl⟩ := hc1
  intro H locs ls hP hD hS hl
  exact va_new C0.1 C0.2.1 C0.2.2.2.2.2.1 hin ty hty C0.2.2.2.2.1 (C0.2.2.2.2.2.1 _ hcl) (C0.2.2.2.2.2.1 _ hinst) (C0.2.2.2.2.2.1 _ hini) C0.2.2.2.2.2.2.2.1 hP hD hS C0.2.2.2.2.2.2.2.2.1 hc hfs hf.1 hf.2 hd (fun a H1 hP1 hD1 hS1 => k a H1 locs ls hP1 hD1 hS1 hl)
theorem z_newi (q : Nat) (C0 : zC E p s m args meth c cc nL ret own Ts A) (cells1 slots1 : Nat) {n : Nat} (harr : Cond.arrayClass .int ∈ Ts) (hn : n ≤ 134217728) (hf : cells + 1 ≤ R.cells ∧ slots + n ≤ R.slots) (hc1 : cells + 1 = cells1 ∧ slots + n = slots1) (hd : decode cc pc = .ok (.newarray .int, 2)) (hq : pc + 2 = q) (k : ∀ a : Nat, Z E p l e R s m args below meth c Q A nL q L (.ref a :: st) (ws ++ [(a, zi E n (fun _ => 0))]) cells1 slots1) : Z E p l e R s m args below meth c Q A nL pc L (.int (nI n) :: st) ws cells slots := by
  subst hq
  obtain ⟨rfl, rfl⟩ := hc1
  intro H locs ls hP hD hS hl
  have hn31 : n < 2 ^ 31 := by omega
  have hb4 : n * componentBytes FieldType.int ≤ 536870912 := by show n * 4 ≤ 536870912; omega
  refine va_newaK (atype := .int) C0.1 C0.2.1 (C0.2.2.2.2.2.1 _ harr) rfl hd rfl (nI_pos hn31) (nI_clamp hn31) hb4 hf.1 hf.2 rfl (fun H1 cA h1 h2 h3 h4 h5 => ?_)
  have hcc : cA = zcI E := by
    have h7 : s.vm.findClass ("[" ++ (FieldType.int).toString) = some (zcI E) := (C0.2.2.2.2.2.2.2.1.2 0 (zcI E, .int) rfl).2
    exact Option.some.inj (h5.symm.trans h7)
  subst hcc
  have hk : ∀ (k : Nat) (x : Nat × va_E), ws[k]? = some x → H1[x.1]? = H[x.1]? := fun k x hx => h3 x.1 ((hP k x hx).lt)
  refine k H.size H1 locs ls ?_ (hD.push hP rfl (C0.2.2.2.2.2.2.2.2.1 _ hS.1)) ⟨by rw [h2]; exact Nat.le_succ_of_le hS.1, fun a ha hna => ?_, hS.2.2⟩ hl
  · refine va_P.app (hP.kept hk) (fun j x hx => ?_)
    have hj : j < 1 := (List.getElem?_eq_some_iff.mp hx).1
    obtain rfl : j = 0 := by omega
    cases hx
    exact h1
  · rw [h3 a (Nat.lt_of_lt_of_le ha hS.1)]
    exact hS.2.1 a ha hna
end ZK
theorem zMi.of {l : Launch} {E : zE} {y : MethodName} {wsY ws2 : List Cond} {rm : Room} {av : List Value} {w0 : va_W} {B : Int32 → va_W → Prop} {mc ms : Nat} {cc : ByteArray} {nL : Nat} {ret : Option FieldType} (hy : plainName y.cls = true) (hw : wsY = Cond.code y cc nL ret :: ws2) (hn : (lg_sl av).length ≤ nL)
    (body : ∀ (p : Program) (e : Env) (s : State) (m : MethodId) (args : Array Value) (below : List Frame) (meth : Method) (c : Code) (A : Nat → Prop), zC E p s m args meth c cc nL ret y.cls wsY A → (y.name = "<init>" → meth.name = "<init>") → Z E p l e rm s m args below meth c (MQ below (va_Qi B (zPost E A) A) args s mc ms A) A nL 0 (lv_args 0 av) [] w0 0 0) : zMi l E y wsY rm av w0 B mc ms := by
  intro sz
  refine Met.ofW (cc := cc) (maxL := nL) (ret := ret) hy hw ?_
  intro p e s m args below meth c s₁ BL hml hv
  obtain ⟨rfl, hsz, hP, hK, hD0, hX⟩ := hv
  subst hsz
  have hts := atoms_spec (ws := wsY) BL.pre
  have hown : s.vm.findClass y.cls = some m.cls := findClass_of_methodNamed BL.named
  have hD := hD0.self (sz := s.heap.size)
  rw [lg_entry_eq]
  exact body p e s m _ below meth c _ ⟨BL.exec, BL.bytes, BL.returns, hml, hown, hts, BL.notSynchronized, hK, fun q h => Or.inr h, hX⟩ (fun h => by rw [← h]; exact (name_of_methodNamed BL.named BL.method).1) s.heap [] _ hP hD va_S.rf (lv_entry av hn)
theorem zMl.of {l : Launch} {E : zE} {y : MethodName} {wsY ws2 : List Cond} {rm : Room} {av : List Value} {w0 : va_W} {B : Int64 → va_W → Prop} {mc ms : Nat} {cc : ByteArray} {nL : Nat} {ret : Option FieldType} (hy : plainName y.cls = true) (hw : wsY = Cond.code y cc nL ret :: ws2) (hn : (lg_sl av).length ≤ nL)
    (body : ∀ (p : Program) (e : Env) (s : State) (m : MethodId) (args : Array Value) (below : List Frame) (meth : Method) (c : Code) (A : Nat → Prop), zC E p s m args meth c cc nL ret y.cls wsY A → (y.name = "<init>" → meth.name = "<init>") → Z E p l e rm s m args below meth c (MQ below (va_Ql B (zPost E A) A) args s mc ms A) A nL 0 (lv_args 0 av) [] w0 0 0) : zMl l E y wsY rm av w0 B mc ms := by
  intro sz
  refine Met.ofW (cc := cc) (maxL := nL) (ret := ret) hy hw ?_
  intro p e s m args below meth c s₁ BL hml hv
  obtain ⟨rfl, hsz, hP, hK, hD0, hX⟩ := hv
  subst hsz
  have hts := atoms_spec (ws := wsY) BL.pre
  have hown : s.vm.findClass y.cls = some m.cls := findClass_of_methodNamed BL.named
  have hD := hD0.self (sz := s.heap.size)
  rw [lg_entry_eq]
  exact body p e s m _ below meth c _ ⟨BL.exec, BL.bytes, BL.returns, hml, hown, hts, BL.notSynchronized, hK, fun q h => Or.inr h, hX⟩ (fun h => by rw [← h]; exact (name_of_methodNamed BL.named BL.method).1) s.heap [] _ hP hD va_S.rf (lv_entry av hn)
theorem zMv.of {l : Launch} {E : zE} {y : MethodName} {wsY ws2 : List Cond} {rm : Room} {av : List Value} {w0 : va_W} {B : va_W → Prop} {mc ms : Nat} {cc : ByteArray} {nL : Nat} {ret : Option FieldType} (hy : plainName y.cls = true) (hw : wsY = Cond.code y cc nL ret :: ws2) (hn : (lg_sl av).length ≤ nL)
    (body : ∀ (p : Program) (e : Env) (s : State) (m : MethodId) (args : Array Value) (below : List Frame) (meth : Method) (c : Code) (A : Nat → Prop), zC E p s m args meth c cc nL ret y.cls wsY A → (y.name = "<init>" → meth.name = "<init>") → Z E p l e rm s m args below meth c (MQ below (va_Qv B (zPost E A) A) args s mc ms A) A nL 0 (lv_args 0 av) [] w0 0 0) : zMv l E y wsY rm av w0 B mc ms := by
  intro sz
  refine Met.ofW (cc := cc) (maxL := nL) (ret := ret) hy hw ?_
  intro p e s m args below meth c s₁ BL hml hv
  obtain ⟨rfl, hsz, hP, hK, hD0, hX⟩ := hv
  subst hsz
  have hts := atoms_spec (ws := wsY) BL.pre
  have hown : s.vm.findClass y.cls = some m.cls := findClass_of_methodNamed BL.named
  have hD := hD0.self (sz := s.heap.size)
  rw [lg_entry_eq]
  exact body p e s m _ below meth c _ ⟨BL.exec, BL.bytes, BL.returns, hml, hown, hts, BL.notSynchronized, hK, fun q h => Or.inr h, hX⟩ (fun h => by rw [← h]; exact (name_of_methodNamed BL.named BL.method).1) s.heap [] _ hP hD va_S.rf (lv_entry av hn)
end
section
/-! booleans, rows of small numbers, and rules over them -/
noncomputable def zb (P : Prop) : Int32 := @ite _ P (Classical.propDecidable P) 1 0
theorem zb_t {P : Prop} (h : P) : zb P = 1 := by unfold zb; rw [if_pos h]
theorem zb_f {P : Prop} (h : ¬ P) : zb P = 0 := by unfold zb; rw [if_neg h]
theorem zb_tN {P : Prop} (h : P) : nI 1 = zb P := (zb_t h).symm
theorem zb_fN {P : Prop} (h : ¬ P) : nI 0 = zb P := (zb_f h).symm
theorem zb_c {P Q : Prop} (h : P ↔ Q) : zb P = zb Q := by
  by_cases hp : P
  · rw [zb_t hp, zb_t (h.mp hp)]
  · rw [zb_f hp, zb_f (fun q => hp (h.mpr q))]
theorem zb_eq1 {P : Prop} : zb P = 1 ↔ P := by
  by_cases hp : P
  · exact ⟨fun _ => hp, fun _ => zb_t hp⟩
  · rw [zb_f hp]; exact ⟨fun h => absurd h (by decide), fun h => absurd h hp⟩
theorem zb_eq0 {P : Prop} : zb P = 0 ↔ ¬ P := by
  by_cases hp : P
  · rw [zb_t hp]; exact ⟨fun h => absurd h (by decide), fun h => absurd hp h⟩
  · exact ⟨fun _ => hp, fun _ => zb_f hp⟩
theorem zb_nar (P : Prop) : narrow .boolean (.int (zb P)) = .int (zb P) := by
  by_cases hp : P
  · rw [zb_t hp]; rfl
  · rw [zb_f hp]; rfl
theorem zb_fit (P : Prop) : fits .boolean (.int (zb P)) = true := by
  by_cases hp : P
  · rw [zb_t hp]; rfl
  · rw [zb_f hp]; rfl
abbrev zn (f : Nat → Nat) : Nat → Int32 := fun j => nI (f j)
theorem z_upN (f : Nat → Nat) (k v : Nat) : upd (zn f) k (nI v) = zn (va_up f k v) := by
  funext j
  by_cases h : j = k
  · simp [upd, va_up, zn, h]
  · simp [upd, va_up, zn, h]
theorem z_incN (a c : Nat) : nI a + Int32.ofInt (c : Int) = nI (a + c) := by
  have h : Int32.ofInt (c : Int) = nI c := by simp [nI, Int32.ofInt, Int32.ofNat]
  rw [h, nI_add]
theorem z_subN {a b c : Nat} (h : c + b = a) : nI a - nI b = nI c := by
  rw [pk_sub (by omega)]; congr 1; omega
theorem z_decN {a : Nat} (h : 1 ≤ a) : nI a + Int32.ofInt (-1) = nI (a - 1) := by
  obtain ⟨b, rfl⟩ : ∃ b, a = b + 1 := ⟨a - 1, by omega⟩
  exact pk_m1 b
section ZK2
variable {E : zE} {p : Program} {l : Launch} {e : Env} {R : Room} {s : State} {m : MethodId} {args : Array Value} {below : List Frame} {meth : Method} {c : Code} {Q : State → Prop}
variable {cc : ByteArray} {nL : Nat} {ret : Option FieldType} {own : String} {Ts : List Cond} {A : Nat → Prop}
variable {pc : Nat} {L : List (Nat × Value)} {st : List Value} {ws : va_W} {cells slots : Nat}
theorem z_if_eqP (q t : Nat) (C0 : zC E p s m args meth c cc nL ret own Ts A) {B : Prop} {off : Int} (hd : decode cc pc = .ok (.ifCond .eq off, 3)) (hq : pc + 3 = q) (ht : (pc : Int) + off = (t : Int)) (kt : ¬ B → Z E p l e R s m args below meth c Q A nL t L st ws cells slots) (kf : B → Z E p l e R s m args below meth c Q A nL q L st ws cells slots) : Z E p l e R s m args below meth c Q A nL pc L (.int (zb B) :: st) ws cells slots :=
  z_if_eq q t C0 hd hq ht (fun h => kt (zb_eq0.mp h)) (fun h => kf (Classical.byContradiction fun z => h (zb_f z)))
theorem z_if_neP (q t : Nat) (C0 : zC E p s m args meth c cc nL ret own Ts A) {B : Prop} {off : Int} (hd : decode cc pc = .ok (.ifCond .ne off, 3)) (hq : pc + 3 = q) (ht : (pc : Int) + off = (t : Int)) (kt : B → Z E p l e R s m args below meth c Q A nL t L st ws cells slots) (kf : ¬ B → Z E p l e R s m args below meth c Q A nL q L st ws cells slots) : Z E p l e R s m args below meth c Q A nL pc L (.int (zb B) :: st) ws cells slots :=
  z_if_ne q t C0 hd hq ht (fun h => kt (Classical.byContradiction fun z => h (zb_f z))) (fun h => kf (zb_eq0.mp h))
theorem z_icmp_eqP (q t : Nat) (C0 : zC E p s m args meth c cc nL ret own Ts A) {B : Prop} {off : Int} (hd : decode cc pc = .ok (.if_icmp .eq off, 3)) (hq : pc + 3 = q) (ht : (pc : Int) + off = (t : Int)) (kt : B → Z E p l e R s m args below meth c Q A nL t L st ws cells slots) (kf : ¬ B → Z E p l e R s m args below meth c Q A nL q L st ws cells slots) : Z E p l e R s m args below meth c Q A nL pc L (.int (nI 1) :: .int (zb B) :: st) ws cells slots :=
  z_icmp_eq q t C0 hd hq ht (fun h => kt (zb_eq1.mp h)) (fun h => kf (fun z => h (zb_t z)))
theorem z_icmp_neP (q t : Nat) (C0 : zC E p s m args meth c cc nL ret own Ts A) {B : Prop} {off : Int} (hd : decode cc pc = .ok (.if_icmp .ne off, 3)) (hq : pc + 3 = q) (ht : (pc : Int) + off = (t : Int)) (kt : ¬ B → Z E p l e R s m args below meth c Q A nL t L st ws cells slots) (kf : B → Z E p l e R s m args below meth c Q A nL q L st ws cells slots) : Z E p l e R s m args below meth c Q A nL pc L (.int (nI 1) :: .int (zb B) :: st) ws cells slots :=
  z_icmp_ne q t C0 hd hq ht (fun h => kt (fun z => h (zb_t z))) (fun h => kf (zb_eq1.mp h))
theorem z_newiW (q : Nat) (C0 : zC E p s m args meth c cc nL ret own Ts A) (cells1 slots1 : Nat) {n : Nat} (harr : Cond.arrayClass .int ∈ Ts) (hn : n ≤ 134217728) (hf : cells + 1 ≤ R.cells ∧ slots + n ≤ R.slots) (hc1 : cells + 1 ≤ cells1 ∧ slots + n ≤ slots1) (hd : decode cc pc = .ok (.newarray .int, 2)) (hq : pc + 2 = q) (k : ∀ a : Nat, Z E p l e R s m args below meth c Q A nL q L (.ref a :: st) (ws ++ [(a, zi E n (fun _ => 0))]) cells1 slots1) : Z E p l e R s m args below meth c Q A nL pc L (.int (nI n) :: st) ws cells slots :=
  z_newi q C0 (cells + 1) (slots + n) harr hn hf ⟨rfl, rfl⟩ hd hq (fun a => z_widen hc1.1 hc1.2 (k a))
theorem z_ext (q0 : Nat) (w1 : va_W) {a n : Nat} {f g : Nat → Int32} (ha : ws[q0]? = some (a, zi E n f)) (hfg : ∀ j, j < n → f j = g j) (hw : ws.set q0 (a, zi E n g) = w1) (k : Z E p l e R s m args below meth c Q A nL pc L st w1 cells slots) : Z E p l e R s m args below meth c Q A nL pc L st ws cells slots := by
  subst hw
  intro H locs ls hP hD hS hl
  have he : ∀ cA : ClassId, vp_cell cA (n, .inl f) = vp_cell cA (n, .inl g) := by
    intro cA
    show arrV cA n (fun j => .int (f j)) = arrV cA n (fun j => .int (g j))
    unfold arrV
    congr 2
    funext j
    exact congrArg Value.int (hfg j.val j.isLt)
  refine k H locs ls ?_ (hD.set ha) hS hl
  refine hP.set hD ha ?_ (fun q _ => rfl)
  have h1 := hP q0 _ ha
  show H[a]? = some (vp_cell (zcI E) (n, .inl g))
  rw [← he]
  exact h1
theorem z_copy (q : Nat) (C0 : zC E p s m args meth c cc nL ret own Ts A) (q0 q1 : Nat) (w1 : va_W) {i a0 a1 n0 n1 sp dp n : Nat} {f g : Nat → Int32} (hlink : Cond.methodLink own i arraycopyName ∈ Ts) (hnat : Cond.native arraycopyName ∈ Ts) (hstat : Cond.static arraycopyName ∈ Ts) (hini : Cond.initialized "java/lang/System" ∈ Ts) (ha0 : ws[q0]? = some (a0, zi E n0 f)) (ha1 : ws[q1]? = some (a1, zi E n1 g)) (h4 : sp + n ≤ n0) (h5 : dp + n ≤ n1) (hb0 : n0 < 2 ^ 31) (hb1 : n1 < 2 ^ 31) (hfr : 1 ≤ R.frames) (hrm : (st.map fun v => v.category).sum ≤ 8) (hlo : 8 + (nativeFrameWords "java/lang/System" "arraycopy" 5 + 11) ≤ R.locals) (hd : decode cc pc = .ok (.invokestatic i, 3)) (hq : pc + 3 = q) (hw : ws.set q1 (a1, zi E n1 (va_cpy f g sp dp n)) = w1) (k : Z E p l e R s m args below meth c Q A nL q L st w1 cells slots) : Z E p l e R s m args below meth c Q A nL pc L (.int (nI n) :: .int (nI dp) :: .ref a1 :: .int (nI sp) :: .ref a0 :: st) ws cells slots := by
  subst hq; subst hw
  intro H locs ls hP hD hS hl
  have e1 : (nI sp).toNatClampNeg = sp := nI_clamp (by omega)
  have e2 : (nI dp).toNatClampNeg = dp := nI_clamp (by omega)
  have e3 : (nI n).toNatClampNeg = n := nI_clamp (by omega)
  refine va_copyi C0.1 C0.2.1 (by rw [C0.2.2.2.1]; exact hl.1.symm) C0.2.2.2.2.1 (C0.2.2.2.2.2.1 _ hlink) (C0.2.2.2.2.2.1 _ hnat) (C0.2.2.2.2.2.1 _ hstat) (C0.2.2.2.2.2.1 _ hini) C0.2.2.2.2.2.2.2.1 hP hD hS q0 q1 0 0 ha0 ha1 rfl rfl rfl (nI_pos (by omega)) (nI_pos (by omega)) (nI_pos (by omega)) (by rw [e1, e3]; exact h4) (by rw [e2, e3]; exact h5) (fun _ _ => rfl) hfr (by omega) hd ?_
  intro H1 locs1 hP1 hD1 hS1
  rw [e1, e2, e3] at hP1 hD1
  exact k H1 locs1 ls hP1 hD1 hS1 hl
end ZK2
end
section
/-! new int[4][64]: five new cells -/
theorem zr_outer (c : ClassId) (N h0 : Nat) : ∀ i : Nat, Jvm.Free.Multi.outerC c N h0 i = arrV c N (fun j => va_rf (if j < i then some (h0 + 1 + j) else none))
  | 0 => by
    show ({ cls := c, slots := Array.replicate N .null, vm := .none } : Cell) = _
    rw [arrV_new]
    refine congrArg (arrV c N) (funext fun j => ?_)
    simp [va_rf]
  | i + 1 => by
    show (Jvm.Free.Multi.outerC c N h0 i).setSlot i (.ref (h0 + 1 + i)) = _
    rw [zr_outer c N h0 i, arrV_store]
    refine congrArg (arrV c N) (funext fun j => ?_)
    by_cases e : j = i
    · subst e
      simp [updV, va_rf]
    · by_cases h : j < i
      · simp [updV, e, h, Nat.lt_succ_of_lt h]
      · simp [updV, e, h, show ¬ j < i + 1 by omega]
theorem zr_four (c : ClassId) (h0 : Nat) : Jvm.Free.Multi.outerC c 4 h0 4 = vp_cell c (4, .inr (.inr (.inr (.inr (fun j => if j = 0 then some (h0 + 1 + 0) else if j = 1 then some (h0 + 1 + 1) else if j = 2 then some (h0 + 1 + 2) else some (h0 + 1 + 3)))))) := by
  rw [vp_cell_q, zr_outer]
  unfold arrV
  have e : (fun j : Fin 4 => va_rf (if j.val < 4 then some (h0 + 1 + j.val) else none)) = (fun j : Fin 4 => va_rf (if j.val = 0 then some (h0 + 1 + 0) else if j.val = 1 then some (h0 + 1 + 1) else if j.val = 2 then some (h0 + 1 + 2) else some (h0 + 1 + 3))) := by
    refine funext fun j => ?_
    obtain ⟨j, hj⟩ := j
    rcases (show j = 0 ∨ j = 1 ∨ j = 2 ∨ j = 3 by omega) with rfl | rfl | rfl | rfl <;> rfl
  rw [e]
theorem zr_inner (c : ClassId) : Jvm.Free.Multi.innerC c 64 (defaultValue .int) = vp_cell c (64, .inl (fun _ => 0)) := by
  rw [vp_cell_i]
  show ({ cls := c, slots := Array.replicate 64 (.int 0), vm := .none } : Cell) = _
  rw [arrV_new]
theorem zAOA_arg0 {args : Array Value} {s : State} (h : zAOA s) : (Cond.arrayOver (.array .int)).before args s = true := by
  unfold zAOA at h
  unfold Cond.before Cond.holds at h ⊢
  simp only [Cond.value] at h ⊢
  exact h
theorem zr_D {A : Nat → Prop} {ws new : va_W} {h0 : Nat} (hD : va_D A ws) (hlt : ∀ (k : Nat) (x : Nat × va_E), ws[k]? = some x → x.1 < h0) (hr : ∀ (k : Nat) (x : Nat × va_E), new[k]? = some x → x.1 = h0 + k) (hA : ∀ q, h0 ≤ q → A q) : va_D A (ws ++ new) := by
  refine ⟨fun i j x y hi hj hxy => ?_, fun k9 x hx => ?_⟩
  · by_cases h1 : i < ws.length <;> by_cases h2 : j < ws.length
    · rw [List.getElem?_append_left h1] at hi
      rw [List.getElem?_append_left h2] at hj
      exact hD.1 i j x y hi hj hxy
    · rw [List.getElem?_append_left h1] at hi
      rw [List.getElem?_append_right (by omega)] at hj
      have := hlt _ _ hi
      have := hr _ _ hj
      omega
    · rw [List.getElem?_append_right (by omega)] at hi
      rw [List.getElem?_append_left h2] at hj
      have := hlt _ _ hj
      have := hr _ _ hi
      omega
    · rw [List.getElem?_append_right (by omega)] at hi hj
      have := hr _ _ hi
      have := hr _ _ hj
      omega
  · by_cases h1 : k9 < ws.length
    · rw [List.getElem?_append_left h1] at hx
      exact hD.2 k9 x hx
    · rw [List.getElem?_append_right (by omega)] at hx
      have := hr _ _ hx
      exact hA _ (by omega)
section ZMNR
variable {E : zE} {p : Program} {l : Launch} {e : Env} {R : Room} {s : State} {m : MethodId} {args : Array Value} {below : List Frame} {meth : Method} {c : Code} {Q : State → Prop}
variable {cc : ByteArray} {nL : Nat} {ret : Option FieldType} {own : String} {Ts : List Cond} {A : Nat → Prop}
variable {pc : Nat} {L : List (Nat × Value)} {st : List Value} {ws : va_W} {cells slots : Nat}
theorem z_mnaR (q : Nat) (C0 : zC E p s m args meth c cc nL ret own Ts A) (cells1 slots1 : Nat) {i : Nat} (hcl : Cond.classLink own i "[[I" ∈ Ts) (harr : Cond.arrayClass .int ∈ Ts) (hf : cells + 5 ≤ R.cells ∧ slots + 260 ≤ R.slots) (hc1 : cells + 5 = cells1 ∧ slots + 260 = slots1) (hd : decode cc pc = .ok (.multianewarray i 2, 4)) (hq : pc + 4 = q)
    (k : ∀ a r0 r1 r2 r3 : Nat, Z E p l e R s m args below meth c Q A nL q L (.ref a :: st) (ws ++ [(a, zg E 4 (fun j => if j = 0 then some r0 else if j = 1 then some r1 else if j = 2 then some r2 else some r3)), (r0, zi E 64 (fun _ => 0)), (r1, zi E 64 (fun _ => 0)), (r2, zi E 64 (fun _ => 0)), (r3, zi E 64 (fun _ => 0))]) cells1 slots1) : Z E p l e R s m args below meth c Q A nL pc L (.int (nI 64) :: .int (nI 4) :: st) ws cells slots := by
  subst hq
  obtain ⟨rfl, rfl⟩ := hc1
  intro H locs ls hP hD hS hl T hT Xs
  obtain ⟨hexec, hb, -, -, hown, hts, -, hK, hA, hSS⟩ := C0
  have e1 : "[" ++ (FieldType.array FieldType.int).toString = "[[I" := by decide +kernel
  have e4 : (nI 4).toNatClampNeg = 4 := by decide +kernel
  have e64 : (nI 64).toNatClampNeg = 64 := by decide +kernel
  obtain ⟨vm₁, cA, comp, -, fA, fC, -, -, X', step⟩ := Xs.multianewarray2F hexec (own := own) (index := i) (ty := .int) hown (by rw [e1]; exact hts _ hcl) (zAOA_arg0 hSS.1.2.2) (hts _ harr) (g := F0 m pc ls (.int (nI 64) :: .int (nI 4) :: st)) rfl (by rw [hb]; exact hd) rfl (by decide) (by decide) (by decide) (by decide) (by decide) rfl rfl (by rw [e4]; exact hf.1) (by rw [e4, e64]; exact hf.2)
  rw [e4, e64] at X' step
  have g1 : s.vm.findClass ("[" ++ (FieldType.array FieldType.int).toString) = some (zcG E) := (hK.2 2 (zcG E, .array .int) rfl).2
  have g2 : s.vm.findClass ("[" ++ FieldType.int.toString) = some (zcI E) := (hK.2 0 (zcI E, .int) rfl).2
  have eA : cA = zcG E := Option.some.inj (fA.symm.trans g1)
  have eC : comp = zcI E := Option.some.inj (fC.symm.trans g2)
  rw [eA, eC] at X' step
  generalize hF : Jvm.Free.Multi.fill (T.setVm vm₁) (zcG E) (zcI E) 4 64 (defaultValue .int) 4 = F at X' step
  have hTh : (T.setVm vm₁).heap = H := hT
  obtain ⟨f1, f2, -, -⟩ := Jvm.Free.Multi.fill_facts (T.setVm vm₁) (zcG E) (zcI E) 4 64 (defaultValue .int) 4
  rw [hF, hTh] at f1 f2
  rw [zr_four] at f2
  have hold : ∀ x : Nat, x < H.size → F.heap[x]? = H[x]? := fun x hx => by
    have := Jvm.Free.Multi.fill_old (T.setVm vm₁) (zcG E) (zcI E) 4 64 (defaultValue .int) (a := x) (by rw [hTh]; exact hx) 4
    rw [hF, hTh] at this
    exact this
  have hrow : ∀ j : Nat, j < 4 → F.heap[H.size + 1 + j]? = some (vp_cell (zcI E) (64, .inl (fun _ => 0))) := fun j hj => by
    have := Jvm.Free.Multi.fill_inner (T.setVm vm₁) (zcG E) (zcI E) 4 64 (defaultValue .int) 4 j hj
    rw [hF, hTh, zr_inner] at this
    exact this
  have hP1 := (hP.kept (fun k9 x hx => hold x.1 ((hP k9 x hx).lt))).app (w2 := [(H.size, zg E 4 (fun j => if j = 0 then some (H.size + 1 + 0) else if j = 1 then some (H.size + 1 + 1) else if j = 2 then some (H.size + 1 + 2) else some (H.size + 1 + 3))), (H.size + 1 + 0, zi E 64 (fun _ => 0)), (H.size + 1 + 1, zi E 64 (fun _ => 0)), (H.size + 1 + 2, zi E 64 (fun _ => 0)), (H.size + 1 + 3, zi E 64 (fun _ => 0))]) (fun k9 x hx => by
    have h0 : k9 < 5 := (List.getElem?_eq_some_iff.mp hx).1
    rcases (show k9 = 0 ∨ k9 = 1 ∨ k9 = 2 ∨ k9 = 3 ∨ k9 = 4 by omega) with rfl | rfl | rfl | rfl | rfl
    · cases hx
      exact f2
    · cases hx
      exact hrow 0 (by decide)
    · cases hx
      exact hrow 1 (by decide)
    · cases hx
      exact hrow 2 (by decide)
    · cases hx
      exact hrow 3 (by decide))
  have hD1 := zr_D (h0 := H.size) (new := [(H.size, zg E 4 (fun j => if j = 0 then some (H.size + 1 + 0) else if j = 1 then some (H.size + 1 + 1) else if j = 2 then some (H.size + 1 + 2) else some (H.size + 1 + 3))), (H.size + 1 + 0, zi E 64 (fun _ => 0)), (H.size + 1 + 1, zi E 64 (fun _ => 0)), (H.size + 1 + 2, zi E 64 (fun _ => 0)), (H.size + 1 + 3, zi E 64 (fun _ => 0))]) hD (fun k9 x hx => (hP k9 x hx).lt) (fun k9 x hx => by
    have h0 : k9 < 5 := (List.getElem?_eq_some_iff.mp hx).1
    rcases (show k9 = 0 ∨ k9 = 1 ∨ k9 = 2 ∨ k9 = 3 ∨ k9 = 4 by omega) with rfl | rfl | rfl | rfl | rfl
    · cases hx
      rfl
    · cases hx
      rfl
    · cases hx
      rfl
    · cases hx
      rfl
    · cases hx
      rfl) (fun q9 h9 => hA q9 (Nat.le_trans hS.1 h9))
  obtain ⟨t, a1, b1⟩ := k H.size (H.size + 1 + 0) (H.size + 1 + 1) (H.size + 1 + 2) (H.size + 1 + 3) F.heap locs ls hP1 hD1 ⟨by rw [f1]; have := hS.1; omega, fun x h1 h2 => (hold x (Nat.lt_of_lt_of_le h1 hS.1)).trans (hS.2.1 x h1 h2), hS.2.2⟩ hl F rfl X'
  refine ⟨t, step t ?_, b1⟩
  have e9 : T.heap.size = H.size := by rw [hT]
  rw [e9]
  exact a1
end ZMNR
end
