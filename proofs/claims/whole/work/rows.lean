section
-- ===== PART A: goes FIRST, ahead of the names: the tables' words, and 'selects' of the private methods out of them =====
/-- a private method of a class that the tables say can be made, by its rows of tables_1 -/
def lw_okq (q : MethodName × Nat) : Prop := (q.1.cls ≠ "java/lang/invoke/MethodHandle" ∧ q.1.cls ≠ "java/lang/invoke/VarHandle") ∧ Cond.instantiable q.1.cls q.2 ∈ tables_1 ∧ Cond.privateMethod q.1 ∈ tables_1 ∧ Cond.instanceMethod q.1 ∈ tables_1
theorem lw_p0 : lw_okq (⟨"GrindField", "isGood", "(I)Z"⟩, 5) := ⟨⟨by decide +kernel, by decide +kernel⟩, List.mem_of_getElem? (i := 14) (by decide +kernel), List.mem_of_getElem? (i := 304) (by decide +kernel), List.mem_of_getElem? (i := 305) (by decide +kernel)⟩
theorem lw_p1 : lw_okq (⟨"GrindField", "isGoodOrEmpty", "(I)Z"⟩, 5) := ⟨⟨by decide +kernel, by decide +kernel⟩, List.mem_of_getElem? (i := 14) (by decide +kernel), List.mem_of_getElem? (i := 308) (by decide +kernel), List.mem_of_getElem? (i := 309) (by decide +kernel)⟩
theorem lw_p2 : lw_okq (⟨"GrindFieldModel", "firstWrong", "(I)I"⟩, 21) := ⟨⟨by decide +kernel, by decide +kernel⟩, List.mem_of_getElem? (i := 430) (by decide +kernel), List.mem_of_getElem? (i := 525) (by decide +kernel), List.mem_of_getElem? (i := 526) (by decide +kernel)⟩
theorem lw_p3 : lw_okq (⟨"GrindFieldModel", "isBad", "(II)Z"⟩, 21) := ⟨⟨by decide +kernel, by decide +kernel⟩, List.mem_of_getElem? (i := 430) (by decide +kernel), List.mem_of_getElem? (i := 529) (by decide +kernel), List.mem_of_getElem? (i := 530) (by decide +kernel)⟩
theorem lw_p4 : lw_okq (⟨"GrindFieldModel", "good", "(IZ)Z"⟩, 21) := ⟨⟨by decide +kernel, by decide +kernel⟩, List.mem_of_getElem? (i := 430) (by decide +kernel), List.mem_of_getElem? (i := 545) (by decide +kernel), List.mem_of_getElem? (i := 546) (by decide +kernel)⟩
theorem lw_p5 : lw_okq (⟨"GrindFieldModel", "done", "()Z"⟩, 21) := ⟨⟨by decide +kernel, by decide +kernel⟩, List.mem_of_getElem? (i := 430) (by decide +kernel), List.mem_of_getElem? (i := 550) (by decide +kernel), List.mem_of_getElem? (i := 551) (by decide +kernel)⟩
theorem lw_p6 : lw_okq (⟨"GrindFieldModel", "map", "()Z"⟩, 21) := ⟨⟨by decide +kernel, by decide +kernel⟩, List.mem_of_getElem? (i := 430) (by decide +kernel), List.mem_of_getElem? (i := 554) (by decide +kernel), List.mem_of_getElem? (i := 555) (by decide +kernel)⟩
theorem lw_p7 : lw_okq (⟨"GrindFieldModel", "call", "(IIIII)Z"⟩, 21) := ⟨⟨by decide +kernel, by decide +kernel⟩, List.mem_of_getElem? (i := 430) (by decide +kernel), List.mem_of_getElem? (i := 558) (by decide +kernel), List.mem_of_getElem? (i := 559) (by decide +kernel)⟩
theorem lw_p8 : lw_okq (⟨"GrindFieldModel", "join", "()Z"⟩, 21) := ⟨⟨by decide +kernel, by decide +kernel⟩, List.mem_of_getElem? (i := 430) (by decide +kernel), List.mem_of_getElem? (i := 565) (by decide +kernel), List.mem_of_getElem? (i := 566) (by decide +kernel)⟩
theorem lw_p9 : lw_okq (⟨"GrindFieldModel", "fold", "()Z"⟩, 21) := ⟨⟨by decide +kernel, by decide +kernel⟩, List.mem_of_getElem? (i := 430) (by decide +kernel), List.mem_of_getElem? (i := 569) (by decide +kernel), List.mem_of_getElem? (i := 570) (by decide +kernel)⟩
theorem lw_p10 : lw_okq (⟨"GrindFieldModel", "end", "()Z"⟩, 21) := ⟨⟨by decide +kernel, by decide +kernel⟩, List.mem_of_getElem? (i := 430) (by decide +kernel), List.mem_of_getElem? (i := 573) (by decide +kernel), List.mem_of_getElem? (i := 574) (by decide +kernel)⟩
def lw_privs_1 : List (MethodName × Nat) := [(⟨"GrindField", "isGood", "(I)Z"⟩, 5), (⟨"GrindField", "isGoodOrEmpty", "(I)Z"⟩, 5), (⟨"GrindFieldModel", "firstWrong", "(I)I"⟩, 21), (⟨"GrindFieldModel", "isBad", "(II)Z"⟩, 21), (⟨"GrindFieldModel", "good", "(IZ)Z"⟩, 21), (⟨"GrindFieldModel", "done", "()Z"⟩, 21), (⟨"GrindFieldModel", "map", "()Z"⟩, 21), (⟨"GrindFieldModel", "call", "(IIIII)Z"⟩, 21), (⟨"GrindFieldModel", "join", "()Z"⟩, 21), (⟨"GrindFieldModel", "fold", "()Z"⟩, 21), (⟨"GrindFieldModel", "end", "()Z"⟩, 21)]
theorem lw_r1 : ∀ q ∈ lw_privs_1, lw_okq q := List.forall_mem_cons.mpr ⟨lw_p0, List.forall_mem_cons.mpr ⟨lw_p1, List.forall_mem_cons.mpr ⟨lw_p2, List.forall_mem_cons.mpr ⟨lw_p3, List.forall_mem_cons.mpr ⟨lw_p4, List.forall_mem_cons.mpr ⟨lw_p5, List.forall_mem_cons.mpr ⟨lw_p6, List.forall_mem_cons.mpr ⟨lw_p7, List.forall_mem_cons.mpr ⟨lw_p8, List.forall_mem_cons.mpr ⟨lw_p9, List.forall_mem_cons.mpr ⟨lw_p10, fun _ h => absurd h List.not_mem_nil⟩⟩⟩⟩⟩⟩⟩⟩⟩⟩⟩
def lw_privs : List (MethodName × Nat) := lw_privs_1
def lw_tbl : List Cond := k2_sels lw_privs ++ tables_1
theorem lw_privs_ok : ∀ q ∈ lw_privs, lw_okq q := lw_r1
end
section
/-! ===== BEGIN printed: names, fields, word lists, decode rows ===== -/
def RX0 : String := "GrindField$Checker"
def TX0 : u_T := fun k => match k with
  | 0 => ("GrindField$Checker", "heights", "[I", true)
  | 1 => ("GrindField$Checker", "reached", "[I", true)
  | _ => ("GrindField$Checker", "reachedCount", "I", false)
def tyX0 : Nat → FieldType := fun k => match k with
  | 0 => .array .int
  | 1 => .array .int
  | _ => .int
abbrev wsX00 : List Cond := u_ws RX0 TX0 3
theorem nmX0 : ∀ a, a < 3 → ∀ b, b < 3 → a ≠ b → (TX0 a).2.1 ≠ (TX0 b).2.1 := by decide +kernel
theorem tyX0_ok : ∀ k, k < 3 → parseFieldDescriptor (TX0 k).2.2.1 = some (tyX0 k) := by decide +kernel
abbrev cX0_init : ByteArray := prog_2_method_1_code
def yX0_init : MethodName := ⟨RX0, "<init>", "()V"⟩
abbrev cX0_firstWrong : ByteArray := prog_2_method_2_code
def yX0_firstWrong : MethodName := ⟨RX0, "firstWrong", "(LGrindField$Program;)I"⟩
abbrev cX0_walk : ByteArray := prog_2_method_3_code
def yX0_walk : MethodName := ⟨RX0, "walk", "(LGrindField$Program;)V"⟩
abbrev cX0_goOn : ByteArray := prog_2_method_4_code
def yX0_goOn : MethodName := ⟨RX0, "goOn", "(LGrindField$Program;II)V"⟩
abbrev cX0_reach : ByteArray := prog_2_method_5_code
def yX0_reach : MethodName := ⟨RX0, "reach", "(II)V"⟩
abbrev cX0_hasHeight : ByteArray := prog_2_method_6_code
def yX0_hasHeight : MethodName := ⟨RX0, "hasHeight", "(II)Z"⟩
abbrev cX0_isWrong : ByteArray := prog_2_method_7_code
def yX0_isWrong : MethodName := ⟨RX0, "isWrong", "(LGrindField$Program;I)Z"⟩
abbrev cX0_fitsEveryHeight : ByteArray := prog_2_method_8_code
def yX0_fitsEveryHeight : MethodName := ⟨RX0, "fitsEveryHeight", "(LGrindField$Program;I)Z"⟩
abbrev cX0_fits : ByteArray := prog_2_method_9_code
def yX0_fits : MethodName := ⟨RX0, "fits", "(LGrindField$Program;II)Z"⟩
abbrev cX0_isMisformed : ByteArray := prog_2_method_10_code
def yX0_isMisformed : MethodName := ⟨RX0, "isMisformed", "(LGrindField$Program;I)Z"⟩
abbrev cX0_lacksNext : ByteArray := prog_2_method_11_code
def yX0_lacksNext : MethodName := ⟨RX0, "lacksNext", "(LGrindField$Program;I)Z"⟩
abbrev cX0_hasNext : ByteArray := prog_2_method_12_code
def yX0_hasNext : MethodName := ⟨RX0, "hasNext", "(I)Z"⟩
def RX1 : String := "GrindField$Job"
def TX1 : u_T := fun k => match k with
  | 0 => ("GrindField$Job", "machine", "LGrindField$Machine;", true)
  | 1 => ("GrindField$Job", "splitEnds", "[I", true)
  | 2 => ("GrindField$Job", "splitTable", "LGrindField$KeyTable;", true)
  | 3 => ("GrindField$Job", "joined", "LGrindField$PairRow;", true)
  | 4 => ("GrindField$Job", "results", "LGrindField$KeyTable;", true)
  | _ => ("GrindField$Job", "counts", "[I", true)
def tyX1 : Nat → FieldType := fun k => match k with
  | 0 => .object "GrindField$Machine"
  | 1 => .array .int
  | 2 => .object "GrindField$KeyTable"
  | 3 => .object "GrindField$PairRow"
  | 4 => .object "GrindField$KeyTable"
  | _ => .array .int
abbrev wsX10 : List Cond := u_ws RX1 TX1 6
theorem nmX1 : ∀ a, a < 6 → ∀ b, b < 6 → a ≠ b → (TX1 a).2.1 ≠ (TX1 b).2.1 := by decide +kernel
theorem tyX1_ok : ∀ k, k < 6 → parseFieldDescriptor (TX1 k).2.2.1 = some (tyX1 k) := by decide +kernel
abbrev cX1_init : ByteArray := prog_3_method_1_code
def yX1_init : MethodName := ⟨RX1, "<init>", "()V"⟩
abbrev cX1_perform : ByteArray := prog_3_method_2_code
def yX1_perform : MethodName := ⟨RX1, "perform", "([LGrindField$Program;LGrindField$PairRow;I)I"⟩
abbrev cX1_forget : ByteArray := prog_3_method_3_code
def yX1_forget : MethodName := ⟨RX1, "forget", "(I)V"⟩
abbrev cX1_mapRecords : ByteArray := prog_3_method_4_code
def yX1_mapRecords : MethodName := ⟨RX1, "mapRecords", "(LGrindField$Program;LGrindField$PairRow;I)I"⟩
abbrev cX1_joinSplits : ByteArray := prog_3_method_5_code
def yX1_joinSplits : MethodName := ⟨RX1, "joinSplits", "(LGrindField$Program;I)I"⟩
abbrev cX1_foldValues : ByteArray := prog_3_method_6_code
def yX1_foldValues : MethodName := ⟨RX1, "foldValues", "(LGrindField$Program;LGrindField$PairRow;)I"⟩
abbrev cX1_merge : ByteArray := prog_3_method_7_code
def yX1_merge : MethodName := ⟨RX1, "merge", "(LGrindField$Program;LGrindField$KeyTable;LGrindField$PairRow;II)Z"⟩
abbrev cX1_endKeys : ByteArray := prog_3_method_8_code
def yX1_endKeys : MethodName := ⟨RX1, "endKeys", "(LGrindField$Program;)I"⟩
def RX2 : String := "GrindField$KeyTable"
def TX2 : u_T := fun k => match k with
  | 0 => ("GrindField$KeyTable", "keys", "[I", true)
  | 1 => ("GrindField$KeyTable", "values", "[I", true)
  | _ => ("GrindField$KeyTable", "length", "I", false)
def tyX2 : Nat → FieldType := fun k => match k with
  | 0 => .array .int
  | 1 => .array .int
  | _ => .int
abbrev wsX20 : List Cond := u_ws RX2 TX2 3
theorem nmX2 : ∀ a, a < 3 → ∀ b, b < 3 → a ≠ b → (TX2 a).2.1 ≠ (TX2 b).2.1 := by decide +kernel
theorem tyX2_ok : ∀ k, k < 3 → parseFieldDescriptor (TX2 k).2.2.1 = some (tyX2 k) := by decide +kernel
abbrev cX2_init : ByteArray := prog_4_method_1_code
def yX2_init : MethodName := ⟨RX2, "<init>", "()V"⟩
abbrev cX2_placeOf : ByteArray := prog_4_method_2_code
def yX2_placeOf : MethodName := ⟨RX2, "placeOf", "(I)I"⟩
abbrev cX2_holds : ByteArray := prog_4_method_3_code
def yX2_holds : MethodName := ⟨RX2, "holds", "(II)Z"⟩
abbrev cX2_insert : ByteArray := prog_4_method_4_code
def yX2_insert : MethodName := ⟨RX2, "insert", "(III)V"⟩
def RX3 : String := "GrindField$Machine"
def TX3 : u_T := fun k => match k with
  | 0 => ("GrindField$Machine", "arguments", "[I", true)
  | 1 => ("GrindField$Machine", "locals", "[I", true)
  | 2 => ("GrindField$Machine", "stack", "[I", true)
  | 3 => ("GrindField$Machine", "height", "I", false)
  | 4 => ("GrindField$Machine", "answer", "I", false)
  | 5 => ("GrindField$Machine", "pairs", "LGrindField$PairRow;", true)
  | 6 => ("GrindField$Machine", "emitted", "I", false)
  | _ => ("GrindField$Machine", "steps", "[I", true)
def tyX3 : Nat → FieldType := fun k => match k with
  | 0 => .array .int
  | 1 => .array .int
  | 2 => .array .int
  | 3 => .int
  | 4 => .int
  | 5 => .object "GrindField$PairRow"
  | 6 => .int
  | _ => .array .int
abbrev wsX30 : List Cond := u_ws RX3 TX3 8
theorem nmX3 : ∀ a, a < 8 → ∀ b, b < 8 → a ≠ b → (TX3 a).2.1 ≠ (TX3 b).2.1 := by decide +kernel
theorem tyX3_ok : ∀ k, k < 8 → parseFieldDescriptor (TX3 k).2.2.1 = some (tyX3 k) := by decide +kernel
abbrev cX3_init : ByteArray := prog_5_method_1_code
def yX3_init : MethodName := ⟨RX3, "<init>", "()V"⟩
abbrev cX3_forget : ByteArray := prog_5_method_2_code
def yX3_forget : MethodName := ⟨RX3, "forget", "()V"⟩
abbrev cX3_call : ByteArray := prog_5_method_3_code
def yX3_call : MethodName := ⟨RX3, "call", "(LGrindField$Program;III)I"⟩
abbrev cX3_begin : ByteArray := prog_5_method_4_code
def yX3_begin : MethodName := ⟨RX3, "begin", "(III)V"⟩
abbrev cX3_jump : ByteArray := prog_5_method_5_code
def yX3_jump : MethodName := ⟨RX3, "jump", "(III)I"⟩
abbrev cX3_combine : ByteArray := prog_5_method_6_code
def yX3_combine : MethodName := ⟨RX3, "combine", "(I)V"⟩
abbrev cX3_combined : ByteArray := prog_5_method_7_code
def yX3_combined : MethodName := ⟨RX3, "combined", "(III)I"⟩
abbrev cX3_move : ByteArray := prog_5_method_8_code
def yX3_move : MethodName := ⟨RX3, "move", "(II)V"⟩
abbrev cX3_emit : ByteArray := prog_5_method_9_code
def yX3_emit : MethodName := ⟨RX3, "emit", "()V"⟩
abbrev cX3_store : ByteArray := prog_5_method_10_code
def yX3_store : MethodName := ⟨RX3, "store", "(II)V"⟩
abbrev cX3_push : ByteArray := prog_5_method_11_code
def yX3_push : MethodName := ⟨RX3, "push", "(I)V"⟩
abbrev cX3_pop : ByteArray := prog_5_method_12_code
def yX3_pop : MethodName := ⟨RX3, "pop", "()I"⟩
def RX4 : String := "GrindField$PairRow"
def TX4 : u_T := fun k => match k with
  | 0 => ("GrindField$PairRow", "keys", "[I", true)
  | 1 => ("GrindField$PairRow", "values", "[I", true)
  | _ => ("GrindField$PairRow", "length", "I", false)
def tyX4 : Nat → FieldType := fun k => match k with
  | 0 => .array .int
  | 1 => .array .int
  | _ => .int
abbrev wsX40 : List Cond := u_ws RX4 TX4 3
theorem nmX4 : ∀ a, a < 3 → ∀ b, b < 3 → a ≠ b → (TX4 a).2.1 ≠ (TX4 b).2.1 := by decide +kernel
theorem tyX4_ok : ∀ k, k < 3 → parseFieldDescriptor (TX4 k).2.2.1 = some (tyX4 k) := by decide +kernel
abbrev cX4_init : ByteArray := prog_6_method_1_code
def yX4_init : MethodName := ⟨RX4, "<init>", "(I)V"⟩
abbrev cX4_append : ByteArray := prog_6_method_2_code
def yX4_append : MethodName := ⟨RX4, "append", "(II)Z"⟩
abbrev cX4_appendAll : ByteArray := prog_6_method_3_code
def yX4_appendAll : MethodName := ⟨RX4, "appendAll", "(LGrindField$KeyTable;)V"⟩
def RX5 : String := "GrindField$Program"
def TX5 : u_T := fun k => match k with
  | 0 => ("GrindField$Program", "kind", "I", true)
  | 1 => ("GrindField$Program", "ops", "[I", true)
  | 2 => ("GrindField$Program", "ns", "[I", true)
  | _ => ("GrindField$Program", "length", "I", false)
def tyX5 : Nat → FieldType := fun k => match k with
  | 0 => .int
  | 1 => .array .int
  | 2 => .array .int
  | _ => .int
abbrev wsX50 : List Cond := u_ws RX5 TX5 4
theorem nmX5 : ∀ a, a < 4 → ∀ b, b < 4 → a ≠ b → (TX5 a).2.1 ≠ (TX5 b).2.1 := by decide +kernel
theorem tyX5_ok : ∀ k, k < 4 → parseFieldDescriptor (TX5 k).2.2.1 = some (tyX5 k) := by decide +kernel
abbrev cX5_init : ByteArray := prog_7_method_1_code
def yX5_init : MethodName := ⟨RX5, "<init>", "(I)V"⟩
abbrev cX5_append : ByteArray := prog_7_method_2_code
def yX5_append : MethodName := ⟨RX5, "append", "(II)I"⟩
abbrev cX5_has : ByteArray := prog_7_method_3_code
def yX5_has : MethodName := ⟨RX5, "has", "(I)Z"⟩
abbrev cX5_argumentCount : ByteArray := prog_7_method_4_code
def yX5_argumentCount : MethodName := ⟨RX5, "argumentCount", "()I"⟩
def RX6 : String := "GrindField"
def TX6 : u_T := fun k => match k with
  | 0 => ("GrindField", "size", "I", true)
  | 1 => ("GrindField", "records", "LGrindField$PairRow;", true)
  | 2 => ("GrindField", "programs", "[LGrindField$Program;", true)
  | 3 => ("GrindField", "checker", "LGrindField$Checker;", true)
  | _ => ("GrindField", "job", "LGrindField$Job;", true)
def tyX6 : Nat → FieldType := fun k => match k with
  | 0 => .int
  | 1 => .object "GrindField$PairRow"
  | 2 => .array (.object "GrindField$Program")
  | 3 => .object "GrindField$Checker"
  | _ => .object "GrindField$Job"
abbrev wsX60 : List Cond := u_ws RX6 TX6 5
theorem nmX6 : ∀ a, a < 5 → ∀ b, b < 5 → a ≠ b → (TX6 a).2.1 ≠ (TX6 b).2.1 := by decide +kernel
theorem tyX6_ok : ∀ k, k < 5 → parseFieldDescriptor (TX6 k).2.2.1 = some (tyX6 k) := by decide +kernel
abbrev cX6_init : ByteArray := prog_1_method_1_code
def yX6_init : MethodName := ⟨RX6, "<init>", "(III)V"⟩
abbrev cX6_record : ByteArray := prog_1_method_2_code
def yX6_record : MethodName := ⟨RX6, "record", "(II)I"⟩
abbrev cX6_wipe : ByteArray := prog_1_method_3_code
def yX6_wipe : MethodName := ⟨RX6, "wipe", "()I"⟩
abbrev cX6_code : ByteArray := prog_1_method_4_code
def yX6_code : MethodName := ⟨RX6, "code", "(III)I"⟩
abbrev cX6_clear : ByteArray := prog_1_method_5_code
def yX6_clear : MethodName := ⟨RX6, "clear", "(I)I"⟩
abbrev cX6_check : ByteArray := prog_1_method_6_code
def yX6_check : MethodName := ⟨RX6, "check", "(I)I"⟩
abbrev cX6_run : ByteArray := prog_1_method_7_code
def yX6_run : MethodName := ⟨RX6, "run", "(I)I"⟩
abbrev cX6_result : ByteArray := prog_1_method_8_code
def yX6_result : MethodName := ⟨RX6, "result", "(II)J"⟩
abbrev cX6_valueOf : ByteArray := prog_1_method_9_code
def yX6_valueOf : MethodName := ⟨RX6, "valueOf", "(I)J"⟩
abbrev cX6_count : ByteArray := prog_1_method_10_code
def yX6_count : MethodName := ⟨RX6, "count", "(I)I"⟩
abbrev cX6_isProgram : ByteArray := prog_1_method_11_code
def yX6_isProgram : MethodName := ⟨RX6, "isProgram", "(I)Z"⟩
abbrev cX6_isJump : ByteArray := prog_1_method_12_code
def yX6_isJump : MethodName := ⟨RX6, "isJump", "(I)Z"⟩
abbrev cX6_isCombination : ByteArray := prog_1_method_13_code
def yX6_isCombination : MethodName := ⟨RX6, "isCombination", "(I)Z"⟩
abbrev cX6_isGood : ByteArray := prog_1_method_14_code
def yX6_isGood : MethodName := ⟨RX6, "isGood", "(I)Z"⟩
abbrev cX6_isGoodOrEmpty : ByteArray := prog_1_method_15_code
def yX6_isGoodOrEmpty : MethodName := ⟨RX6, "isGoodOrEmpty", "(I)Z"⟩
def RX7 : String := "GrindFieldModel"
def TX7 : u_T := fun k => match k with
  | 0 => ("GrindFieldModel", "size", "I", true)
  | 1 => ("GrindFieldModel", "recordKey", "[I", true)
  | 2 => ("GrindFieldModel", "recordValue", "[I", true)
  | 3 => ("GrindFieldModel", "records", "I", false)
  | 4 => ("GrindFieldModel", "op", "[[I", true)
  | 5 => ("GrindFieldModel", "number", "[[I", true)
  | 6 => ("GrindFieldModel", "length", "[I", true)
  | 7 => ("GrindFieldModel", "key", "[I", true)
  | 8 => ("GrindFieldModel", "value", "[I", true)
  | 9 => ("GrindFieldModel", "split", "[I", true)
  | 10 => ("GrindFieldModel", "pairs", "I", false)
  | 11 => ("GrindFieldModel", "resultKey", "[I", true)
  | 12 => ("GrindFieldModel", "resultValue", "[I", true)
  | 13 => ("GrindFieldModel", "results", "I", false)
  | 14 => ("GrindFieldModel", "error", "I", false)
  | 15 => ("GrindFieldModel", "told", "[I", true)
  | 16 => ("GrindFieldModel", "stack", "[I", true)
  | 17 => ("GrindFieldModel", "local", "[I", true)
  | 18 => ("GrindFieldModel", "steps", "I", false)
  | 19 => ("GrindFieldModel", "result", "I", false)
  | _ => ("GrindFieldModel", "without", "Z", false)
def tyX7 : Nat → FieldType := fun k => match k with
  | 0 => .int
  | 1 => .array .int
  | 2 => .array .int
  | 3 => .int
  | 4 => .array (.array .int)
  | 5 => .array (.array .int)
  | 6 => .array .int
  | 7 => .array .int
  | 8 => .array .int
  | 9 => .array .int
  | 10 => .int
  | 11 => .array .int
  | 12 => .array .int
  | 13 => .int
  | 14 => .int
  | 15 => .array .int
  | 16 => .array .int
  | 17 => .array .int
  | 18 => .int
  | 19 => .int
  | _ => .boolean
abbrev wsX70 : List Cond := u_ws RX7 TX7 21
theorem nmX7 : ∀ a, a < 21 → ∀ b, b < 21 → a ≠ b → (TX7 a).2.1 ≠ (TX7 b).2.1 := by decide +kernel
theorem tyX7_ok : ∀ k, k < 21 → parseFieldDescriptor (TX7 k).2.2.1 = some (tyX7 k) := by decide +kernel
abbrev cX7_init : ByteArray := prog_9_method_1_code
def yX7_init : MethodName := ⟨RX7, "<init>", "(III)V"⟩
abbrev cX7_record : ByteArray := prog_9_method_2_code
def yX7_record : MethodName := ⟨RX7, "record", "(II)I"⟩
abbrev cX7_wipe : ByteArray := prog_9_method_3_code
def yX7_wipe : MethodName := ⟨RX7, "wipe", "()I"⟩
abbrev cX7_is : ByteArray := prog_9_method_4_code
def yX7_is : MethodName := ⟨RX7, "is", "(I)Z"⟩
abbrev cX7_code : ByteArray := prog_9_method_5_code
def yX7_code : MethodName := ⟨RX7, "code", "(III)I"⟩
abbrev cX7_clear : ByteArray := prog_9_method_6_code
def yX7_clear : MethodName := ⟨RX7, "clear", "(I)I"⟩
abbrev cX7_isBad : ByteArray := prog_9_method_7_code
def yX7_isBad : MethodName := ⟨RX7, "isBad", "(II)Z"⟩
abbrev cX7_needs : ByteArray := prog_9_method_8_code
def yX7_needs : MethodName := ⟨RX7, "needs", "(II)I"⟩
abbrev cX7_grows : ByteArray := prog_9_method_9_code
def yX7_grows : MethodName := ⟨RX7, "grows", "(I)I"⟩
abbrev cX7_firstWrong : ByteArray := prog_9_method_10_code
def yX7_firstWrong : MethodName := ⟨RX7, "firstWrong", "(I)I"⟩
abbrev cX7_check : ByteArray := prog_9_method_11_code
def yX7_check : MethodName := ⟨RX7, "check", "(I)I"⟩
abbrev cX7_reckoned : ByteArray := prog_9_method_12_code
def yX7_reckoned : MethodName := ⟨RX7, "reckoned", "(III)I"⟩
abbrev cX7_call : ByteArray := prog_9_method_13_code
def yX7_call : MethodName := ⟨RX7, "call", "(IIIII)Z"⟩
abbrev cX7_good : ByteArray := prog_9_method_14_code
def yX7_good : MethodName := ⟨RX7, "good", "(IZ)Z"⟩
abbrev cX7_map : ByteArray := prog_9_method_15_code
def yX7_map : MethodName := ⟨RX7, "map", "()Z"⟩
abbrev cX7_join : ByteArray := prog_9_method_16_code
def yX7_join : MethodName := ⟨RX7, "join", "()Z"⟩
abbrev cX7_fold : ByteArray := prog_9_method_17_code
def yX7_fold : MethodName := ⟨RX7, "fold", "()Z"⟩
abbrev cX7_end : ByteArray := prog_9_method_18_code
def yX7_end : MethodName := ⟨RX7, "end", "()Z"⟩
abbrev cX7_done : ByteArray := prog_9_method_19_code
def yX7_done : MethodName := ⟨RX7, "done", "()Z"⟩
abbrev cX7_run : ByteArray := prog_9_method_20_code
def yX7_run : MethodName := ⟨RX7, "run", "(I)I"⟩
abbrev cX7_result : ByteArray := prog_9_method_21_code
def yX7_result : MethodName := ⟨RX7, "result", "(II)J"⟩
abbrev cX7_valueOf : ByteArray := prog_9_method_22_code
def yX7_valueOf : MethodName := ⟨RX7, "valueOf", "(I)J"⟩
abbrev cX7_count : ByteArray := prog_9_method_23_code
def yX7_count : MethodName := ⟨RX7, "count", "(I)I"⟩
def RJ6 : String := "java/lang/Integer"
def TJ6 : u_T := fun k => match k with
  | _ => ("", "", "", false)
def tyJ6 : Nat → FieldType := fun k => match k with
  | _ => .int
abbrev wsJ60 : List Cond := u_ws RJ6 TJ6 0
theorem nmJ6 : ∀ a, a < 0 → ∀ b, b < 0 → a ≠ b → (TJ6 a).2.1 ≠ (TJ6 b).2.1 := by decide +kernel
theorem tyJ6_ok : ∀ k, k < 0 → parseFieldDescriptor (TJ6 k).2.2.1 = some (tyJ6 k) := by decide +kernel
abbrev cJ6_bitCount_0f7a4 : ByteArray := prog_10_method_49_code
def yJ6_bitCount_0f7a4 : MethodName := ⟨RJ6, "bitCount", "(I)I"⟩
def RJ9 : String := "java/lang/Math"
def TJ9 : u_T := fun k => match k with
  | _ => ("", "", "", false)
def tyJ9 : Nat → FieldType := fun k => match k with
  | _ => .int
abbrev wsJ90 : List Cond := u_ws RJ9 TJ9 0
theorem nmJ9 : ∀ a, a < 0 → ∀ b, b < 0 → a ≠ b → (TJ9 a).2.1 ≠ (TJ9 b).2.1 := by decide +kernel
theorem tyJ9_ok : ∀ k, k < 0 → parseFieldDescriptor (TJ9 k).2.2.1 = some (tyJ9 k) := by decide +kernel
abbrev cJ9_max_7cf53 : ByteArray := prog_11_method_65_code
def yJ9_max_7cf53 : MethodName := ⟨RJ9, "max", "(II)I"⟩
abbrev cJ9_min_7cf53 : ByteArray := prog_11_method_69_code
def yJ9_min_7cf53 : MethodName := ⟨RJ9, "min", "(II)I"⟩
def RJ10 : String := "java/lang/System"
def TJ10 : u_T := fun k => match k with
  | _ => ("", "", "", false)
def tyJ10 : Nat → FieldType := fun k => match k with
  | _ => .int
abbrev wsJ100 : List Cond := u_ws RJ10 TJ10 0
theorem nmJ10 : ∀ a, a < 0 → ∀ b, b < 0 → a ≠ b → (TJ10 a).2.1 ≠ (TJ10 b).2.1 := by decide +kernel
theorem tyJ10_ok : ∀ k, k < 0 → parseFieldDescriptor (TJ10 k).2.2.1 = some (tyJ10 k) := by decide +kernel
def RJ7 : String := "java/util/Arrays"
def TJ7 : u_T := fun k => match k with
  | _ => ("", "", "", false)
def tyJ7 : Nat → FieldType := fun k => match k with
  | _ => .int
abbrev wsJ70 : List Cond := u_ws RJ7 TJ7 0
theorem nmJ7 : ∀ a, a < 0 → ∀ b, b < 0 → a ≠ b → (TJ7 a).2.1 ≠ (TJ7 b).2.1 := by decide +kernel
theorem tyJ7_ok : ∀ k, k < 0 → parseFieldDescriptor (TJ7 k).2.2.1 = some (tyJ7 k) := by decide +kernel
abbrev cJ7_fill_53178 : ByteArray := prog_13_method_103_code
def yJ7_fill_53178 : MethodName := ⟨RJ7, "fill", "([II)V"⟩
def RL : String := "GrindFieldLaw"
abbrev cL_cell : ByteArray := method_2_code
def yL_cell : MethodName := ⟨RL, "cell", "([II)I"⟩
abbrev cL_law : ByteArray := code
def yL_law : MethodName := ⟨RL, "law", "([I)Z"⟩
abbrev vwCl : List vw_C := [(RX0, TX0, 3), (RX1, TX1, 6), (RX2, TX2, 3), (RX3, TX3, 8), (RX4, TX4, 3), (RX5, TX5, 4), (RX6, TX6, 5), (RX7, TX7, 21)]
/-- the words that stay good in a call -/
def lw_all : List Cond := lw_tbl.filter goodWord
theorem lwm (i : Nat) {w : Cond} (h : lw_tbl[i]? = some w) (hg : goodWord w = true) : w ∈ lw_all := List.mem_filter.mpr ⟨List.mem_of_getElem? h, hg⟩
theorem lwt0 (i : Nat) {w : Cond} (h : (k2_sels lw_privs)[i]? = some w) : w ∈ lw_tbl := List.mem_append_left _ (List.mem_of_getElem? h)
theorem lwt1 (i : Nat) {w : Cond} (h : tables_1_1[i]? = some w) : w ∈ lw_tbl := List.mem_append_right _ (List.mem_append_left _ (List.mem_of_getElem? h))
theorem lwt2 (i : Nat) {w : Cond} (h : tables_1_2[i]? = some w) : w ∈ lw_tbl := List.mem_append_right _ (List.mem_append_right _ (List.mem_append_left _ (List.mem_of_getElem? h)))
theorem lwt3 (i : Nat) {w : Cond} (h : tables_1_3[i]? = some w) : w ∈ lw_tbl := List.mem_append_right _ (List.mem_append_right _ (List.mem_append_right _ (List.mem_of_getElem? h)))
theorem lwm0 (i : Nat) {w : Cond} (h : (k2_sels lw_privs)[i]? = some w) (hg : goodWord w = true) : w ∈ lw_all := List.mem_filter.mpr ⟨lwt0 i h, hg⟩
theorem lwm1 (i : Nat) {w : Cond} (h : (tables_1_1)[i]? = some w) (hg : goodWord w = true) : w ∈ lw_all := List.mem_filter.mpr ⟨lwt1 i h, hg⟩
theorem lwm2 (i : Nat) {w : Cond} (h : (tables_1_2)[i]? = some w) (hg : goodWord w = true) : w ∈ lw_all := List.mem_filter.mpr ⟨lwt2 i h, hg⟩
theorem lwm3 (i : Nat) {w : Cond} (h : (tables_1_3)[i]? = some w) (hg : goodWord w = true) : w ∈ lw_all := List.mem_filter.mpr ⟨lwt3 i h, hg⟩
theorem lwt (i : Nat) {w : Cond} (h : lw_tbl[i]? = some w) : w ∈ lw_tbl := List.mem_of_getElem? h
theorem lw_in : ∀ w, w ∈ lw_all → w ∈ lw_tbl := fun _ h => (List.mem_filter.mp h).1
theorem lw_good : ∀ w, w ∈ lw_all → goodWord w = true := fun _ h => (List.mem_filter.mp h).2
/-- a method's words: its code, and the tables' -/
def zTs (y : MethodName) (b : ByteArray) (n : Nat) (r : Option FieldType) : List Cond := Cond.code y b n r :: lw_all
theorem zTs_in {y : MethodName} {b : ByteArray} {n : Nat} {r : Option FieldType} {w : Cond} (h : w ∈ lw_all) : w ∈ zTs y b n r := List.mem_cons_of_mem _ h
theorem zTs_good {Ts : List Cond} (hT : ∀ w, w ∈ lw_all → w ∈ Ts) {y : MethodName} {b : ByteArray} {n : Nat} {r : Option FieldType} (h : Cond.code y b n r ∈ lw_all) : GoodIn Ts (zTs y b n r) := by
  intro w hw
  have h1 : w ∈ lw_all := by
    rcases List.mem_cons.mp hw with rfl | hw
    · exact h
    · exact hw
  exact ⟨hT w h1, good_of_word (lw_good w h1)⟩
theorem zGI {Ts : List Cond} (hT : ∀ w, w ∈ lw_all → w ∈ Ts) {ws pre : List Cond} (hp : ∀ w, w ∈ pre → w ∈ lw_all) (h : GoodIn Ts ws) : GoodIn Ts (pre ++ ws) := by
  intro w hw
  rcases List.mem_append.mp hw with hw | hw
  · exact ⟨hT w (hp w hw), good_of_word (lw_good w (hp w hw))⟩
  · exact h w hw
theorem zGIV {Ts : List Cond} (hT : ∀ w, w ∈ lw_all → w ∈ Ts) {own C : String} {i : Nat} {y : MethodName} {b : ByteArray} {n : Nat} {r : Option FieldType} (h : Cond.code y b n r ∈ lw_all) (h1 : Cond.methodLink own i y ∈ lw_all) (h2 : Cond.instanceMethod y ∈ lw_all) (h3 : Cond.selects C y y ∈ lw_all) (h4 : Cond.initialized C ∈ lw_all) : GoodIn Ts (wsV own i C y (zTs y b n r)) :=
  zGI (pre := [.methodLink own i y, .instanceMethod y, .selects C y y, .initialized C]) hT (fun w hw => by
    simp only [List.mem_cons, List.not_mem_nil, or_false] at hw
    rcases hw with rfl | rfl | rfl | rfl <;> assumption) (zTs_good hT h)
theorem zGIS {Ts : List Cond} (hT : ∀ w, w ∈ lw_all → w ∈ Ts) {own : String} {i : Nat} {y : MethodName} {b : ByteArray} {n : Nat} {r : Option FieldType} (h : Cond.code y b n r ∈ lw_all) (h1 : Cond.methodLink own i y ∈ lw_all) (h2 : Cond.static y ∈ lw_all) (h4 : Cond.initialized y.cls ∈ lw_all) : GoodIn Ts (va_wsS own i y (zTs y b n r)) :=
  zGI (pre := [.methodLink own i y, .static y, .initialized y.cls]) hT (fun w hw => by
    simp only [List.mem_cons, List.not_mem_nil, or_false] at hw
    rcases hw with rfl | rfl | rfl <;> assumption) (zTs_good hT h)
end
section
theorem wk_0 : Cond.selects RX6 yX6_isGood yX6_isGood ∈ lw_all := lwm0 0 rfl rfl
theorem wk_1 : Cond.selects RX6 yX6_isGoodOrEmpty yX6_isGoodOrEmpty ∈ lw_all := lwm0 1 rfl rfl
theorem wk_2 : Cond.selects RX7 yX7_firstWrong yX7_firstWrong ∈ lw_all := lwm0 2 rfl rfl
theorem wk_3 : Cond.selects RX7 yX7_isBad yX7_isBad ∈ lw_all := lwm0 3 rfl rfl
theorem wk_4 : Cond.selects RX7 yX7_good yX7_good ∈ lw_all := lwm0 4 rfl rfl
theorem wk_5 : Cond.selects RX7 yX7_done yX7_done ∈ lw_all := lwm0 5 rfl rfl
theorem wk_6 : Cond.selects RX7 yX7_map yX7_map ∈ lw_all := lwm0 6 rfl rfl
theorem wk_7 : Cond.selects RX7 yX7_call yX7_call ∈ lw_all := lwm0 7 rfl rfl
theorem wk_8 : Cond.selects RX7 yX7_join yX7_join ∈ lw_all := lwm0 8 rfl rfl
theorem wk_9 : Cond.selects RX7 yX7_fold yX7_fold ∈ lw_all := lwm0 9 rfl rfl
theorem wk_10 : Cond.selects RX7 yX7_end yX7_end ∈ lw_all := lwm0 10 rfl rfl
theorem wk_11 : Cond.initialized RL ∈ lw_all := lwm1 0 rfl rfl
theorem wk_12 : Cond.initialized RX6 ∈ lw_all := lwm1 1 rfl rfl
theorem wk_13 : Cond.initialized RJ9 ∈ lw_all := lwm1 2 rfl rfl
theorem wk_14 : Cond.initialized RX4 ∈ lw_all := lwm1 3 rfl rfl
theorem wk_15 : Cond.initialized RX5 ∈ lw_all := lwm1 4 rfl rfl
theorem wk_16 : Cond.initialized RX0 ∈ lw_all := lwm1 5 rfl rfl
theorem wk_17 : Cond.initialized RX1 ∈ lw_all := lwm1 6 rfl rfl
theorem wk_18 : Cond.initialized RX3 ∈ lw_all := lwm1 7 rfl rfl
theorem wk_19 : Cond.initialized RX2 ∈ lw_all := lwm1 8 rfl rfl
theorem wk_20 : Cond.initialized RX7 ∈ lw_all := lwm1 9 rfl rfl
theorem wk_21 : Cond.initialized RJ7 ∈ lw_all := lwm1 10 rfl rfl
theorem wk_22 : Cond.initialized RJ6 ∈ lw_all := lwm1 11 rfl rfl
theorem wk_23 : Cond.initialized RJ10 ∈ lw_all := lwm1 12 rfl rfl
theorem wk_24 : Cond.classLink RL 7 RX6 ∈ lw_all := lwm1 13 rfl rfl
theorem wk_25 : Cond.instantiable RX6 5 ∈ lw_all := lwm1 14 rfl rfl
theorem wk_26 : Cond.methodLink RL 15 yX6_init ∈ lw_all := lwm1 15 rfl rfl
theorem wk_27 : Cond.instanceMethod yX6_init ∈ lw_all := lwm1 16 rfl rfl
theorem wk_28 : Cond.code yX6_init cX6_init 5 none ∈ lw_all := lwm1 17 rfl rfl
theorem wk_29 : Cond.methodLink RX6 1 Lib.objectInit ∈ lw_all := lwm1 18 rfl rfl
theorem wk_30 : Cond.instanceMethod Lib.objectInit ∈ lw_all := lwm1 19 rfl rfl
theorem wk_31 : Cond.code Lib.objectInit ⟨#[0xb1]⟩ 1 none ∈ lw_all := lwm1 20 rfl rfl
theorem wk_32 : Cond.methodLink RX6 9 Lib.Math.min.name ∈ lw_all := lwm1 21 rfl rfl
theorem wk_33 : Cond.static Lib.Math.min.name ∈ lw_all := lwm1 22 rfl rfl
theorem wk_34 : Cond.code Lib.Math.min.name Lib.Math.min.code 2 (some .int) ∈ lw_all := lwm1 23 rfl rfl
theorem wk_35 : Cond.methodLink RX6 15 Lib.Math.max.name ∈ lw_all := lwm1 24 rfl rfl
theorem wk_36 : Cond.static Lib.Math.max.name ∈ lw_all := lwm1 25 rfl rfl
theorem wk_37 : Cond.code Lib.Math.max.name Lib.Math.max.code 2 (some .int) ∈ lw_all := lwm1 26 rfl rfl
theorem wk_38 : Cond.classLink RX6 22 RX4 ∈ lw_all := lwm1 27 rfl rfl
theorem wk_39 : Cond.instantiable RX4 3 ∈ lw_all := lwm1 28 rfl rfl
theorem wk_40 : Cond.methodLink RX6 24 yX4_init ∈ lw_all := lwm1 29 rfl rfl
theorem wk_41 : Cond.instanceMethod yX4_init ∈ lw_all := lwm1 30 rfl rfl
theorem wk_42 : Cond.code yX4_init cX4_init 2 none ∈ lw_all := lwm1 31 rfl rfl
theorem wk_43 : Cond.methodLink RX4 1 Lib.objectInit ∈ lw_all := lwm1 32 rfl rfl
theorem wk_44 : Cond.fieldLink RX4 7 "GrindField$PairRow" "keys" "[I" ∈ lw_all := lwm1 33 rfl rfl
theorem wk_45 : Cond.fieldLink RX1 91 "GrindField$PairRow" "keys" "[I" ∈ lw_all := lwm1 34 rfl rfl
theorem wk_46 : Cond.fieldLink RX4 13 "GrindField$PairRow" "values" "[I" ∈ lw_all := lwm1 35 rfl rfl
theorem wk_47 : Cond.fieldLink RX1 94 "GrindField$PairRow" "values" "[I" ∈ lw_all := lwm1 36 rfl rfl
theorem wk_48 : Cond.fieldLink RX4 16 "GrindField$PairRow" "length" "I" ∈ lw_all := lwm1 37 rfl rfl
theorem wk_49 : Cond.fieldLink RX3 43 "GrindField$PairRow" "length" "I" ∈ lw_all := lwm1 38 rfl rfl
theorem wk_50 : Cond.fieldLink RX1 47 "GrindField$PairRow" "length" "I" ∈ lw_all := lwm1 39 rfl rfl
theorem wk_51 : Cond.fieldLink RX6 56 "GrindField$PairRow" "length" "I" ∈ lw_all := lwm1 40 rfl rfl
theorem wk_59 : Cond.arrayClass .int ∈ lw_all := lwm1 48 rfl rfl
theorem wk_60 : Cond.classLink RX6 31 RX5 ∈ lw_all := lwm1 49 rfl rfl
theorem wk_62 : Cond.instantiable RX5 4 ∈ lw_all := lwm1 51 rfl rfl
theorem wk_63 : Cond.methodLink RX6 37 yX5_init ∈ lw_all := lwm1 52 rfl rfl
theorem wk_64 : Cond.instanceMethod yX5_init ∈ lw_all := lwm1 53 rfl rfl
theorem wk_65 : Cond.code yX5_init cX5_init 2 none ∈ lw_all := lwm1 54 rfl rfl
theorem wk_66 : Cond.methodLink RX5 3 Lib.objectInit ∈ lw_all := lwm1 55 rfl rfl
theorem wk_67 : Cond.fieldLink RX5 22 "GrindField$Program" "kind" "I" ∈ lw_all := lwm1 56 rfl rfl
theorem wk_68 : Cond.fieldLink RX3 68 "GrindField$Program" "kind" "I" ∈ lw_all := lwm1 57 rfl rfl
theorem wk_69 : Cond.fieldLink RX0 88 "GrindField$Program" "kind" "I" ∈ lw_all := lwm1 58 rfl rfl
theorem wk_70 : Cond.fieldLink RX5 9 "GrindField$Program" "ops" "[I" ∈ lw_all := lwm1 59 rfl rfl
theorem wk_71 : Cond.fieldLink RX3 62 "GrindField$Program" "ops" "[I" ∈ lw_all := lwm1 60 rfl rfl
theorem wk_72 : Cond.fieldLink RX0 59 "GrindField$Program" "ops" "[I" ∈ lw_all := lwm1 61 rfl rfl
theorem wk_73 : Cond.fieldLink RX5 15 "GrindField$Program" "ns" "[I" ∈ lw_all := lwm1 62 rfl rfl
theorem wk_74 : Cond.fieldLink RX3 65 "GrindField$Program" "ns" "[I" ∈ lw_all := lwm1 63 rfl rfl
theorem wk_75 : Cond.fieldLink RX0 69 "GrindField$Program" "ns" "[I" ∈ lw_all := lwm1 64 rfl rfl
theorem wk_76 : Cond.fieldLink RX5 18 "GrindField$Program" "length" "I" ∈ lw_all := lwm1 65 rfl rfl
theorem wk_77 : Cond.fieldLink RX0 22 "GrindField$Program" "length" "I" ∈ lw_all := lwm1 66 rfl rfl
theorem wk_78 : Cond.fieldLink RX1 58 "GrindField$Program" "length" "I" ∈ lw_all := lwm1 67 rfl rfl
theorem wk_79 : Cond.fieldLink RX6 65 "GrindField$Program" "length" "I" ∈ lw_all := lwm1 68 rfl rfl
theorem wk_89 : Cond.classLink RX6 38 RX0 ∈ lw_all := lwm1 78 rfl rfl
theorem wk_90 : Cond.instantiable RX0 3 ∈ lw_all := lwm1 79 rfl rfl
theorem wk_91 : Cond.methodLinkNest RX6 40 yX0_init RX6 ∈ lw_tbl := lwt1 80 rfl
theorem wk_92 : Cond.instanceMethod yX0_init ∈ lw_all := lwm1 81 rfl rfl
theorem wk_93 : Cond.code yX0_init cX0_init 1 none ∈ lw_all := lwm1 82 rfl rfl
theorem wk_94 : Cond.methodLink RX0 3 Lib.objectInit ∈ lw_all := lwm1 83 rfl rfl
theorem wk_95 : Cond.fieldLink RX0 9 "GrindField$Checker" "heights" "[I" ∈ lw_all := lwm1 84 rfl rfl
theorem wk_96 : Cond.fieldLink RX0 15 "GrindField$Checker" "reached" "[I" ∈ lw_all := lwm1 85 rfl rfl
theorem wk_97 : Cond.fieldLink RX0 18 "GrindField$Checker" "reachedCount" "I" ∈ lw_all := lwm1 86 rfl rfl
theorem wk_105 : Cond.classLink RX6 45 RX1 ∈ lw_all := lwm1 94 rfl rfl
theorem wk_106 : Cond.instantiable RX1 6 ∈ lw_all := lwm1 95 rfl rfl
theorem wk_107 : Cond.methodLink RX6 47 yX1_init ∈ lw_all := lwm1 96 rfl rfl
theorem wk_108 : Cond.instanceMethod yX1_init ∈ lw_all := lwm1 97 rfl rfl
theorem wk_109 : Cond.code yX1_init cX1_init 1 none ∈ lw_all := lwm1 98 rfl rfl
theorem wk_110 : Cond.methodLink RX1 3 Lib.objectInit ∈ lw_all := lwm1 99 rfl rfl
theorem wk_111 : Cond.classLink RX1 9 RX3 ∈ lw_all := lwm1 100 rfl rfl
theorem wk_112 : Cond.instantiable RX3 8 ∈ lw_all := lwm1 101 rfl rfl
theorem wk_113 : Cond.methodLinkNest RX1 11 yX3_init RX6 ∈ lw_tbl := lwt1 102 rfl
theorem wk_114 : Cond.instanceMethod yX3_init ∈ lw_all := lwm1 103 rfl rfl
theorem wk_115 : Cond.code yX3_init cX3_init 1 none ∈ lw_all := lwm1 104 rfl rfl
theorem wk_116 : Cond.methodLink RX3 3 Lib.objectInit ∈ lw_all := lwm1 105 rfl rfl
theorem wk_117 : Cond.classLink RX3 28 RX4 ∈ lw_all := lwm1 106 rfl rfl
theorem wk_118 : Cond.methodLink RX3 30 yX4_init ∈ lw_all := lwm1 107 rfl rfl
theorem wk_119 : Cond.fieldLink RX3 9 "GrindField$Machine" "arguments" "[I" ∈ lw_all := lwm1 108 rfl rfl
theorem wk_120 : Cond.fieldLink RX3 15 "GrindField$Machine" "locals" "[I" ∈ lw_all := lwm1 109 rfl rfl
theorem wk_121 : Cond.fieldLink RX3 18 "GrindField$Machine" "stack" "[I" ∈ lw_all := lwm1 110 rfl rfl
theorem wk_122 : Cond.fieldLink RX3 21 "GrindField$Machine" "height" "I" ∈ lw_all := lwm1 111 rfl rfl
theorem wk_123 : Cond.fieldLink RX3 25 "GrindField$Machine" "answer" "I" ∈ lw_all := lwm1 112 rfl rfl
theorem wk_124 : Cond.fieldLink RX1 125 "GrindField$Machine" "answer" "I" ∈ lw_all := lwm1 113 rfl rfl
theorem wk_125 : Cond.fieldLink RX3 33 "GrindField$Machine" "pairs" "LGrindField$PairRow;" ∈ lw_all := lwm1 114 rfl rfl
theorem wk_126 : Cond.fieldLink RX1 55 "GrindField$Machine" "pairs" "LGrindField$PairRow;" ∈ lw_all := lwm1 115 rfl rfl
theorem wk_127 : Cond.fieldLink RX3 37 "GrindField$Machine" "emitted" "I" ∈ lw_all := lwm1 116 rfl rfl
theorem wk_128 : Cond.fieldLink RX1 101 "GrindField$Machine" "emitted" "I" ∈ lw_all := lwm1 117 rfl rfl
theorem wk_129 : Cond.fieldLink RX3 40 "GrindField$Machine" "steps" "[I" ∈ lw_all := lwm1 118 rfl rfl
theorem wk_130 : Cond.fieldLink RX1 73 "GrindField$Machine" "steps" "[I" ∈ lw_all := lwm1 119 rfl rfl
theorem wk_148 : Cond.classLink RX1 22 RX2 ∈ lw_all := lwm1 137 rfl rfl
theorem wk_149 : Cond.instantiable RX2 3 ∈ lw_all := lwm1 138 rfl rfl
theorem wk_150 : Cond.methodLinkNest RX1 24 yX2_init RX6 ∈ lw_tbl := lwt1 139 rfl
theorem wk_151 : Cond.instanceMethod yX2_init ∈ lw_all := lwm1 140 rfl rfl
theorem wk_152 : Cond.code yX2_init cX2_init 1 none ∈ lw_all := lwm1 141 rfl rfl
theorem wk_153 : Cond.methodLink RX2 3 Lib.objectInit ∈ lw_all := lwm1 142 rfl rfl
theorem wk_154 : Cond.fieldLink RX2 9 "GrindField$KeyTable" "keys" "[I" ∈ lw_all := lwm1 143 rfl rfl
theorem wk_155 : Cond.fieldLink RX4 23 "GrindField$KeyTable" "keys" "[I" ∈ lw_all := lwm1 144 rfl rfl
theorem wk_156 : Cond.fieldLink RX1 128 "GrindField$KeyTable" "keys" "[I" ∈ lw_all := lwm1 145 rfl rfl
theorem wk_157 : Cond.fieldLink RX6 89 "GrindField$KeyTable" "keys" "[I" ∈ lw_all := lwm1 146 rfl rfl
theorem wk_158 : Cond.fieldLink RX2 15 "GrindField$KeyTable" "values" "[I" ∈ lw_all := lwm1 147 rfl rfl
theorem wk_159 : Cond.fieldLink RX4 24 "GrindField$KeyTable" "values" "[I" ∈ lw_all := lwm1 148 rfl rfl
theorem wk_160 : Cond.fieldLink RX1 124 "GrindField$KeyTable" "values" "[I" ∈ lw_all := lwm1 149 rfl rfl
theorem wk_161 : Cond.fieldLink RX6 93 "GrindField$KeyTable" "values" "[I" ∈ lw_all := lwm1 150 rfl rfl
theorem wk_162 : Cond.fieldLink RX2 18 "GrindField$KeyTable" "length" "I" ∈ lw_all := lwm1 151 rfl rfl
theorem wk_163 : Cond.fieldLink RX1 82 "GrindField$KeyTable" "length" "I" ∈ lw_all := lwm1 152 rfl rfl
theorem wk_164 : Cond.fieldLink RX4 20 "GrindField$KeyTable" "length" "I" ∈ lw_all := lwm1 153 rfl rfl
theorem wk_165 : Cond.fieldLink RX6 84 "GrindField$KeyTable" "length" "I" ∈ lw_all := lwm1 154 rfl rfl
theorem wk_173 : Cond.classLink RX1 29 RX4 ∈ lw_all := lwm1 162 rfl rfl
theorem wk_174 : Cond.methodLink RX1 31 yX4_init ∈ lw_all := lwm1 163 rfl rfl
theorem wk_175 : Cond.fieldLink RX1 12 "GrindField$Job" "machine" "LGrindField$Machine;" ∈ lw_all := lwm1 164 rfl rfl
theorem wk_176 : Cond.fieldLink RX1 18 "GrindField$Job" "splitEnds" "[I" ∈ lw_all := lwm1 165 rfl rfl
theorem wk_177 : Cond.fieldLink RX1 25 "GrindField$Job" "splitTable" "LGrindField$KeyTable;" ∈ lw_all := lwm1 166 rfl rfl
theorem wk_178 : Cond.fieldLink RX1 34 "GrindField$Job" "joined" "LGrindField$PairRow;" ∈ lw_all := lwm1 167 rfl rfl
theorem wk_179 : Cond.fieldLink RX1 38 "GrindField$Job" "results" "LGrindField$KeyTable;" ∈ lw_all := lwm1 168 rfl rfl
theorem wk_180 : Cond.fieldLink RX6 80 "GrindField$Job" "results" "LGrindField$KeyTable;" ∈ lw_all := lwm1 169 rfl rfl
theorem wk_181 : Cond.fieldLink RX1 41 "GrindField$Job" "counts" "[I" ∈ lw_all := lwm1 170 rfl rfl
theorem wk_182 : Cond.fieldLink RX6 103 "GrindField$Job" "counts" "[I" ∈ lw_all := lwm1 171 rfl rfl
theorem wk_196 : Cond.fieldLink RX6 18 "GrindField" "size" "I" ∈ lw_all := lwm1 185 rfl rfl
theorem wk_197 : Cond.fieldLink RX6 27 "GrindField" "records" "LGrindField$PairRow;" ∈ lw_all := lwm1 186 rfl rfl
theorem wk_198 : Cond.fieldLink RX6 33 "GrindField" "programs" "[LGrindField$Program;" ∈ lw_all := lwm1 187 rfl rfl
theorem wk_199 : Cond.fieldLink RX6 41 "GrindField" "checker" "LGrindField$Checker;" ∈ lw_all := lwm1 188 rfl rfl
theorem wk_200 : Cond.fieldLink RX6 48 "GrindField" "job" "LGrindField$Job;" ∈ lw_all := lwm1 189 rfl rfl
theorem wk_212 : Cond.methodLink RL 21 yX6_record ∈ lw_all := lwm1 201 rfl rfl
theorem wk_213 : Cond.instanceMethod yX6_record ∈ lw_all := lwm1 202 rfl rfl
theorem wk_214 : Cond.selects RX6 yX6_record yX6_record ∈ lw_all := lwm1 203 rfl rfl
theorem wk_215 : Cond.code yX6_record cX6_record 3 (some .int) ∈ lw_all := lwm1 204 rfl rfl
theorem wk_216 : Cond.methodLink RX6 52 yX4_append ∈ lw_all := lwm1 205 rfl rfl
theorem wk_217 : Cond.instanceMethod yX4_append ∈ lw_all := lwm1 206 rfl rfl
theorem wk_218 : Cond.selects RX4 yX4_append yX4_append ∈ lw_all := lwm1 207 rfl rfl
theorem wk_219 : Cond.code yX4_append cX4_append 3 (some .boolean) ∈ lw_all := lwm1 208 rfl rfl
theorem wk_220 : Cond.methodLink RL 26 yX6_wipe ∈ lw_all := lwm1 209 rfl rfl
theorem wk_221 : Cond.instanceMethod yX6_wipe ∈ lw_all := lwm1 210 rfl rfl
theorem wk_222 : Cond.selects RX6 yX6_wipe yX6_wipe ∈ lw_all := lwm1 211 rfl rfl
theorem wk_223 : Cond.code yX6_wipe cX6_wipe 2 (some .int) ∈ lw_all := lwm1 212 rfl rfl
theorem wk_224 : Cond.methodLink RL 31 yX6_code ∈ lw_all := lwm1 213 rfl rfl
theorem wk_225 : Cond.instanceMethod yX6_code ∈ lw_all := lwm1 214 rfl rfl
theorem wk_226 : Cond.selects RX6 yX6_code yX6_code ∈ lw_all := lwm1 215 rfl rfl
theorem wk_227 : Cond.code yX6_code cX6_code 4 (some .int) ∈ lw_all := lwm1 216 rfl rfl
theorem wk_228 : Cond.methodLink RX6 59 yX6_isProgram ∈ lw_all := lwm1 217 rfl rfl
theorem wk_229 : Cond.static yX6_isProgram ∈ lw_all := lwm1 218 rfl rfl
theorem wk_230 : Cond.code yX6_isProgram cX6_isProgram 1 (some .boolean) ∈ lw_all := lwm1 219 rfl rfl
theorem wk_231 : Cond.methodLink RX6 63 yX5_append ∈ lw_all := lwm1 220 rfl rfl
theorem wk_232 : Cond.instanceMethod yX5_append ∈ lw_all := lwm1 221 rfl rfl
theorem wk_233 : Cond.selects RX5 yX5_append yX5_append ∈ lw_all := lwm1 222 rfl rfl
theorem wk_234 : Cond.code yX5_append cX5_append 3 (some .int) ∈ lw_all := lwm1 223 rfl rfl
theorem wk_235 : Cond.methodLink RL 36 yX6_clear ∈ lw_all := lwm1 224 rfl rfl
theorem wk_236 : Cond.instanceMethod yX6_clear ∈ lw_all := lwm1 225 rfl rfl
theorem wk_237 : Cond.selects RX6 yX6_clear yX6_clear ∈ lw_all := lwm1 226 rfl rfl
theorem wk_238 : Cond.code yX6_clear cX6_clear 3 (some .int) ∈ lw_all := lwm1 227 rfl rfl
theorem wk_239 : Cond.methodLink RL 41 yX6_check ∈ lw_all := lwm1 228 rfl rfl
theorem wk_240 : Cond.instanceMethod yX6_check ∈ lw_all := lwm1 229 rfl rfl
theorem wk_241 : Cond.selects RX6 yX6_check yX6_check ∈ lw_all := lwm1 230 rfl rfl
theorem wk_242 : Cond.code yX6_check cX6_check 2 (some .int) ∈ lw_all := lwm1 231 rfl rfl
theorem wk_243 : Cond.methodLink RX6 66 yX0_firstWrong ∈ lw_all := lwm1 232 rfl rfl
theorem wk_244 : Cond.instanceMethod yX0_firstWrong ∈ lw_all := lwm1 233 rfl rfl
theorem wk_245 : Cond.selects RX0 yX0_firstWrong yX0_firstWrong ∈ lw_all := lwm1 234 rfl rfl
theorem wk_246 : Cond.code yX0_firstWrong cX0_firstWrong 3 (some .int) ∈ lw_all := lwm1 235 rfl rfl
theorem wk_247 : Cond.methodLink RX0 27 yX0_walk ∈ lw_all := lwm1 236 rfl rfl
theorem wk_248 : Cond.instanceMethod yX0_walk ∈ lw_all := lwm1 237 rfl rfl
theorem wk_249 : Cond.selects RX0 yX0_walk yX0_walk ∈ lw_all := lwm1 238 rfl rfl
theorem wk_250 : Cond.code yX0_walk cX0_walk 3 none ∈ lw_all := lwm1 239 rfl rfl
theorem wk_251 : Cond.methodLink RX0 35 yJ7_fill_53178 ∈ lw_all := lwm2 0 rfl rfl
theorem wk_252 : Cond.static yJ7_fill_53178 ∈ lw_all := lwm2 1 rfl rfl
theorem wk_253 : Cond.code yJ7_fill_53178 cJ7_fill_53178 4 none ∈ lw_all := lwm2 2 rfl rfl
theorem wk_254 : Cond.methodLink RX0 41 yX0_reach ∈ lw_all := lwm2 3 rfl rfl
theorem wk_255 : Cond.instanceMethod yX0_reach ∈ lw_all := lwm2 4 rfl rfl
theorem wk_256 : Cond.selects RX0 yX0_reach yX0_reach ∈ lw_all := lwm2 5 rfl rfl
theorem wk_257 : Cond.code yX0_reach cX0_reach 3 none ∈ lw_all := lwm2 6 rfl rfl
theorem wk_258 : Cond.methodLink RX0 75 yX0_hasHeight ∈ lw_all := lwm2 7 rfl rfl
theorem wk_259 : Cond.instanceMethod yX0_hasHeight ∈ lw_all := lwm2 8 rfl rfl
theorem wk_260 : Cond.selects RX0 yX0_hasHeight yX0_hasHeight ∈ lw_all := lwm2 9 rfl rfl
theorem wk_261 : Cond.code yX0_hasHeight cX0_hasHeight 3 (some .boolean) ∈ lw_all := lwm2 10 rfl rfl
theorem wk_262 : Cond.methodLink RX0 45 yX0_goOn ∈ lw_all := lwm2 11 rfl rfl
theorem wk_263 : Cond.instanceMethod yX0_goOn ∈ lw_all := lwm2 12 rfl rfl
theorem wk_264 : Cond.selects RX0 yX0_goOn yX0_goOn ∈ lw_all := lwm2 13 rfl rfl
theorem wk_265 : Cond.code yX0_goOn cX0_goOn 6 none ∈ lw_all := lwm2 14 rfl rfl
theorem wk_266 : Cond.methodLink RX0 49 yX0_isMisformed ∈ lw_all := lwm2 15 rfl rfl
theorem wk_267 : Cond.instanceMethod yX0_isMisformed ∈ lw_all := lwm2 16 rfl rfl
theorem wk_268 : Cond.selects RX0 yX0_isMisformed yX0_isMisformed ∈ lw_all := lwm2 17 rfl rfl
theorem wk_269 : Cond.code yX0_isMisformed cX0_isMisformed 5 (some .boolean) ∈ lw_all := lwm2 18 rfl rfl
theorem wk_270 : Cond.methodLink RX0 94 yX5_argumentCount ∈ lw_all := lwm2 19 rfl rfl
theorem wk_271 : Cond.instanceMethod yX5_argumentCount ∈ lw_all := lwm2 20 rfl rfl
theorem wk_272 : Cond.selects RX5 yX5_argumentCount yX5_argumentCount ∈ lw_all := lwm2 21 rfl rfl
theorem wk_273 : Cond.code yX5_argumentCount cX5_argumentCount 1 (some .int) ∈ lw_all := lwm2 22 rfl rfl
theorem wk_274 : Cond.methodLinkNest RX0 65 yX6_isJump RX6 ∈ lw_tbl := lwt2 23 rfl
theorem wk_275 : Cond.static yX6_isJump ∈ lw_all := lwm2 24 rfl rfl
theorem wk_276 : Cond.code yX6_isJump cX6_isJump 1 (some .boolean) ∈ lw_all := lwm2 25 rfl rfl
theorem wk_277 : Cond.methodLink RX0 98 yX5_has ∈ lw_all := lwm2 26 rfl rfl
theorem wk_278 : Cond.instanceMethod yX5_has ∈ lw_all := lwm2 27 rfl rfl
theorem wk_279 : Cond.selects RX5 yX5_has yX5_has ∈ lw_all := lwm2 28 rfl rfl
theorem wk_280 : Cond.code yX5_has cX5_has 2 (some .boolean) ∈ lw_all := lwm2 29 rfl rfl
theorem wk_281 : Cond.methodLink RX0 52 yX0_lacksNext ∈ lw_all := lwm2 30 rfl rfl
theorem wk_282 : Cond.instanceMethod yX0_lacksNext ∈ lw_all := lwm2 31 rfl rfl
theorem wk_283 : Cond.selects RX0 yX0_lacksNext yX0_lacksNext ∈ lw_all := lwm2 32 rfl rfl
theorem wk_284 : Cond.code yX0_lacksNext cX0_lacksNext 3 (some .boolean) ∈ lw_all := lwm2 33 rfl rfl
theorem wk_285 : Cond.methodLink RX0 72 yX0_hasNext ∈ lw_all := lwm2 34 rfl rfl
theorem wk_286 : Cond.static yX0_hasNext ∈ lw_all := lwm2 35 rfl rfl
theorem wk_287 : Cond.code yX0_hasNext cX0_hasNext 1 (some .boolean) ∈ lw_all := lwm2 36 rfl rfl
theorem wk_288 : Cond.methodLink RX0 55 yX0_fits ∈ lw_all := lwm2 37 rfl rfl
theorem wk_289 : Cond.instanceMethod yX0_fits ∈ lw_all := lwm2 38 rfl rfl
theorem wk_290 : Cond.selects RX0 yX0_fits yX0_fits ∈ lw_all := lwm2 39 rfl rfl
theorem wk_291 : Cond.code yX0_fits cX0_fits 6 (some .boolean) ∈ lw_all := lwm2 40 rfl rfl
theorem wk_292 : Cond.fieldLink RX0 91 "GrindField$Checker" "NEEDED" "[I" ∈ lw_all := lwm2 41 rfl rfl
theorem wk_294 : Cond.fieldLink RX0 62 "GrindField$Checker" "GROWTH" "[I" ∈ lw_all := lwm2 43 rfl rfl
theorem wk_296 : Cond.methodLink RX0 31 yX0_isWrong ∈ lw_all := lwm2 45 rfl rfl
theorem wk_297 : Cond.instanceMethod yX0_isWrong ∈ lw_all := lwm2 46 rfl rfl
theorem wk_298 : Cond.selects RX0 yX0_isWrong yX0_isWrong ∈ lw_all := lwm2 47 rfl rfl
theorem wk_299 : Cond.code yX0_isWrong cX0_isWrong 3 (some .boolean) ∈ lw_all := lwm2 48 rfl rfl
theorem wk_300 : Cond.methodLink RX0 79 yJ6_bitCount_0f7a4 ∈ lw_all := lwm2 49 rfl rfl
theorem wk_301 : Cond.static yJ6_bitCount_0f7a4 ∈ lw_all := lwm2 50 rfl rfl
theorem wk_302 : Cond.code yJ6_bitCount_0f7a4 cJ6_bitCount_0f7a4 1 (some .int) ∈ lw_all := lwm2 51 rfl rfl
theorem wk_303 : Cond.constant RJ6 265 1431655765 ∈ lw_all := lwm2 52 rfl rfl
theorem wk_304 : Cond.constant RJ6 266 858993459 ∈ lw_all := lwm2 53 rfl rfl
theorem wk_305 : Cond.constant RJ6 267 252645135 ∈ lw_all := lwm2 54 rfl rfl
theorem wk_306 : Cond.methodLink RX0 85 yX0_fitsEveryHeight ∈ lw_all := lwm2 55 rfl rfl
theorem wk_307 : Cond.instanceMethod yX0_fitsEveryHeight ∈ lw_all := lwm2 56 rfl rfl
theorem wk_308 : Cond.selects RX0 yX0_fitsEveryHeight yX0_fitsEveryHeight ∈ lw_all := lwm2 57 rfl rfl
theorem wk_309 : Cond.code yX0_fitsEveryHeight cX0_fitsEveryHeight 4 (some .boolean) ∈ lw_all := lwm2 58 rfl rfl
theorem wk_310 : Cond.methodLink RL 45 yX6_run ∈ lw_all := lwm2 59 rfl rfl
theorem wk_311 : Cond.instanceMethod yX6_run ∈ lw_all := lwm2 60 rfl rfl
theorem wk_312 : Cond.selects RX6 yX6_run yX6_run ∈ lw_all := lwm2 61 rfl rfl
theorem wk_313 : Cond.code yX6_run cX6_run 2 (some .int) ∈ lw_all := lwm2 62 rfl rfl
theorem wk_314 : Cond.methodLink RX6 70 yX6_isGood ∈ lw_all := lwm2 63 rfl rfl
theorem wk_316 : Cond.instanceMethod yX6_isGood ∈ lw_all := lwm2 65 rfl rfl
theorem wk_317 : Cond.code yX6_isGood cX6_isGood 2 (some .boolean) ∈ lw_all := lwm2 66 rfl rfl
theorem wk_318 : Cond.methodLink RX6 73 yX6_isGoodOrEmpty ∈ lw_all := lwm2 67 rfl rfl
theorem wk_320 : Cond.instanceMethod yX6_isGoodOrEmpty ∈ lw_all := lwm2 69 rfl rfl
theorem wk_321 : Cond.code yX6_isGoodOrEmpty cX6_isGoodOrEmpty 3 (some .boolean) ∈ lw_all := lwm2 70 rfl rfl
theorem wk_322 : Cond.methodLink RX6 76 yX1_perform ∈ lw_all := lwm2 71 rfl rfl
theorem wk_323 : Cond.instanceMethod yX1_perform ∈ lw_all := lwm2 72 rfl rfl
theorem wk_324 : Cond.selects RX1 yX1_perform yX1_perform ∈ lw_all := lwm2 73 rfl rfl
theorem wk_325 : Cond.code yX1_perform cX1_perform 7 (some .int) ∈ lw_all := lwm2 74 rfl rfl
theorem wk_326 : Cond.methodLink RX1 44 yX1_forget ∈ lw_all := lwm2 75 rfl rfl
theorem wk_327 : Cond.instanceMethod yX1_forget ∈ lw_all := lwm2 76 rfl rfl
theorem wk_328 : Cond.selects RX1 yX1_forget yX1_forget ∈ lw_all := lwm2 77 rfl rfl
theorem wk_329 : Cond.code yX1_forget cX1_forget 2 none ∈ lw_all := lwm2 78 rfl rfl
theorem wk_330 : Cond.methodLink RX1 83 yX3_forget ∈ lw_all := lwm2 79 rfl rfl
theorem wk_331 : Cond.instanceMethod yX3_forget ∈ lw_all := lwm2 80 rfl rfl
theorem wk_332 : Cond.selects RX3 yX3_forget yX3_forget ∈ lw_all := lwm2 81 rfl rfl
theorem wk_333 : Cond.code yX3_forget cX3_forget 1 none ∈ lw_all := lwm2 82 rfl rfl
theorem wk_334 : Cond.methodLink RX3 46 yJ7_fill_53178 ∈ lw_all := lwm2 83 rfl rfl
theorem wk_335 : Cond.methodLink RX1 85 yJ7_fill_53178 ∈ lw_all := lwm2 84 rfl rfl
theorem wk_336 : Cond.methodLink RX1 51 yX1_mapRecords ∈ lw_all := lwm2 85 rfl rfl
theorem wk_337 : Cond.instanceMethod yX1_mapRecords ∈ lw_all := lwm2 86 rfl rfl
theorem wk_338 : Cond.selects RX1 yX1_mapRecords yX1_mapRecords ∈ lw_all := lwm2 87 rfl rfl
theorem wk_339 : Cond.code yX1_mapRecords cX1_mapRecords 6 (some .int) ∈ lw_all := lwm2 88 rfl rfl
theorem wk_340 : Cond.methodLink RX1 97 yX3_call ∈ lw_all := lwm2 89 rfl rfl
theorem wk_341 : Cond.instanceMethod yX3_call ∈ lw_all := lwm2 90 rfl rfl
theorem wk_342 : Cond.selects RX3 yX3_call yX3_call ∈ lw_all := lwm2 91 rfl rfl
theorem wk_343 : Cond.code yX3_call cX3_call 9 (some .int) ∈ lw_all := lwm2 92 rfl rfl
theorem wk_344 : Cond.methodLink RX3 52 yX3_begin ∈ lw_all := lwm2 93 rfl rfl
theorem wk_345 : Cond.instanceMethod yX3_begin ∈ lw_all := lwm2 94 rfl rfl
theorem wk_346 : Cond.selects RX3 yX3_begin yX3_begin ∈ lw_all := lwm2 95 rfl rfl
theorem wk_347 : Cond.code yX3_begin cX3_begin 4 none ∈ lw_all := lwm2 96 rfl rfl
theorem wk_348 : Cond.methodLink RX3 56 yX5_has ∈ lw_all := lwm2 97 rfl rfl
theorem wk_349 : Cond.methodLink RX3 71 yX3_pop ∈ lw_all := lwm2 98 rfl rfl
theorem wk_350 : Cond.instanceMethod yX3_pop ∈ lw_all := lwm2 99 rfl rfl
theorem wk_351 : Cond.selects RX3 yX3_pop yX3_pop ∈ lw_all := lwm2 100 rfl rfl
theorem wk_352 : Cond.code yX3_pop cX3_pop 1 (some .int) ∈ lw_all := lwm2 101 rfl rfl
theorem wk_353 : Cond.methodLinkNest RX3 75 yX6_isJump RX6 ∈ lw_tbl := lwt2 102 rfl
theorem wk_354 : Cond.methodLink RX3 78 yX3_jump ∈ lw_all := lwm2 103 rfl rfl
theorem wk_355 : Cond.instanceMethod yX3_jump ∈ lw_all := lwm2 104 rfl rfl
theorem wk_356 : Cond.selects RX3 yX3_jump yX3_jump ∈ lw_all := lwm2 105 rfl rfl
theorem wk_357 : Cond.code yX3_jump cX3_jump 4 (some .int) ∈ lw_all := lwm2 106 rfl rfl
theorem wk_358 : Cond.methodLinkNest RX3 82 yX6_isCombination RX6 ∈ lw_tbl := lwt2 107 rfl
theorem wk_359 : Cond.static yX6_isCombination ∈ lw_all := lwm2 108 rfl rfl
theorem wk_360 : Cond.code yX6_isCombination cX6_isCombination 1 (some .boolean) ∈ lw_all := lwm2 109 rfl rfl
theorem wk_361 : Cond.methodLink RX3 85 yX3_combine ∈ lw_all := lwm2 110 rfl rfl
theorem wk_362 : Cond.instanceMethod yX3_combine ∈ lw_all := lwm2 111 rfl rfl
theorem wk_363 : Cond.selects RX3 yX3_combine yX3_combine ∈ lw_all := lwm2 112 rfl rfl
theorem wk_364 : Cond.code yX3_combine cX3_combine 4 none ∈ lw_all := lwm2 113 rfl rfl
theorem wk_365 : Cond.methodLink RX3 92 yX3_combined ∈ lw_all := lwm2 114 rfl rfl
theorem wk_366 : Cond.static yX3_combined ∈ lw_all := lwm2 115 rfl rfl
theorem wk_367 : Cond.code yX3_combined cX3_combined 3 (some .int) ∈ lw_all := lwm2 116 rfl rfl
theorem wk_368 : Cond.methodLink RX3 95 yX3_push ∈ lw_all := lwm2 117 rfl rfl
theorem wk_369 : Cond.instanceMethod yX3_push ∈ lw_all := lwm2 118 rfl rfl
theorem wk_370 : Cond.selects RX3 yX3_push yX3_push ∈ lw_all := lwm2 119 rfl rfl
theorem wk_371 : Cond.code yX3_push cX3_push 2 none ∈ lw_all := lwm2 120 rfl rfl
theorem wk_372 : Cond.methodLink RX3 88 yX3_move ∈ lw_all := lwm2 121 rfl rfl
theorem wk_373 : Cond.instanceMethod yX3_move ∈ lw_all := lwm2 122 rfl rfl
theorem wk_374 : Cond.selects RX3 yX3_move yX3_move ∈ lw_all := lwm2 123 rfl rfl
theorem wk_375 : Cond.code yX3_move cX3_move 6 none ∈ lw_all := lwm2 124 rfl rfl
theorem wk_376 : Cond.methodLink RX3 98 yX3_store ∈ lw_all := lwm2 125 rfl rfl
theorem wk_377 : Cond.instanceMethod yX3_store ∈ lw_all := lwm2 126 rfl rfl
theorem wk_378 : Cond.selects RX3 yX3_store yX3_store ∈ lw_all := lwm2 127 rfl rfl
theorem wk_379 : Cond.code yX3_store cX3_store 3 none ∈ lw_all := lwm2 128 rfl rfl
theorem wk_380 : Cond.methodLink RX3 101 yX3_emit ∈ lw_all := lwm2 129 rfl rfl
theorem wk_381 : Cond.instanceMethod yX3_emit ∈ lw_all := lwm2 130 rfl rfl
theorem wk_382 : Cond.selects RX3 yX3_emit yX3_emit ∈ lw_all := lwm2 131 rfl rfl
theorem wk_383 : Cond.code yX3_emit cX3_emit 3 none ∈ lw_all := lwm2 132 rfl rfl
theorem wk_384 : Cond.methodLink RX3 104 yX4_append ∈ lw_all := lwm2 133 rfl rfl
theorem wk_385 : Cond.methodLink RX1 61 yX1_joinSplits ∈ lw_all := lwm2 134 rfl rfl
theorem wk_386 : Cond.instanceMethod yX1_joinSplits ∈ lw_all := lwm2 135 rfl rfl
theorem wk_387 : Cond.selects RX1 yX1_joinSplits yX1_joinSplits ∈ lw_all := lwm2 136 rfl rfl
theorem wk_388 : Cond.code yX1_joinSplits cX1_joinSplits 5 (some .int) ∈ lw_all := lwm2 137 rfl rfl
theorem wk_389 : Cond.methodLink RX1 104 yX1_merge ∈ lw_all := lwm2 138 rfl rfl
theorem wk_390 : Cond.instanceMethod yX1_merge ∈ lw_all := lwm2 139 rfl rfl
theorem wk_391 : Cond.selects RX1 yX1_merge yX1_merge ∈ lw_all := lwm2 140 rfl rfl
theorem wk_392 : Cond.code yX1_merge cX1_merge 10 (some .boolean) ∈ lw_all := lwm2 141 rfl rfl
theorem wk_393 : Cond.methodLink RX1 112 yX2_placeOf ∈ lw_all := lwm2 142 rfl rfl
theorem wk_394 : Cond.instanceMethod yX2_placeOf ∈ lw_all := lwm2 143 rfl rfl
theorem wk_395 : Cond.selects RX2 yX2_placeOf yX2_placeOf ∈ lw_all := lwm2 144 rfl rfl
theorem wk_396 : Cond.code yX2_placeOf cX2_placeOf 4 (some .int) ∈ lw_all := lwm2 145 rfl rfl
theorem wk_397 : Cond.methodLink RX1 116 yX2_holds ∈ lw_all := lwm2 146 rfl rfl
theorem wk_398 : Cond.instanceMethod yX2_holds ∈ lw_all := lwm2 147 rfl rfl
theorem wk_399 : Cond.selects RX2 yX2_holds yX2_holds ∈ lw_all := lwm2 148 rfl rfl
theorem wk_400 : Cond.code yX2_holds cX2_holds 3 (some .boolean) ∈ lw_all := lwm2 149 rfl rfl
theorem wk_401 : Cond.methodLink RX1 120 yX2_insert ∈ lw_all := lwm2 150 rfl rfl
theorem wk_402 : Cond.instanceMethod yX2_insert ∈ lw_all := lwm2 151 rfl rfl
theorem wk_403 : Cond.selects RX2 yX2_insert yX2_insert ∈ lw_all := lwm2 152 rfl rfl
theorem wk_404 : Cond.code yX2_insert cX2_insert 4 none ∈ lw_all := lwm2 153 rfl rfl
theorem wk_405 : Cond.methodLink RX2 22 arraycopyName ∈ lw_all := lwm2 154 rfl rfl
theorem wk_406 : Cond.static arraycopyName ∈ lw_all := lwm2 155 rfl rfl
theorem wk_407 : Cond.native arraycopyName ∈ lw_all := lwm2 156 rfl rfl
theorem wk_408 : Cond.methodLink RX1 108 yX4_appendAll ∈ lw_all := lwm2 157 rfl rfl
theorem wk_409 : Cond.instanceMethod yX4_appendAll ∈ lw_all := lwm2 158 rfl rfl
theorem wk_410 : Cond.selects RX4 yX4_appendAll yX4_appendAll ∈ lw_all := lwm2 159 rfl rfl
theorem wk_411 : Cond.code yX4_appendAll cX4_appendAll 3 none ∈ lw_all := lwm2 160 rfl rfl
theorem wk_412 : Cond.methodLink RX4 25 yX4_append ∈ lw_all := lwm2 161 rfl rfl
theorem wk_413 : Cond.methodLink RX1 65 yX1_foldValues ∈ lw_all := lwm2 162 rfl rfl
theorem wk_414 : Cond.instanceMethod yX1_foldValues ∈ lw_all := lwm2 163 rfl rfl
theorem wk_415 : Cond.selects RX1 yX1_foldValues yX1_foldValues ∈ lw_all := lwm2 164 rfl rfl
theorem wk_416 : Cond.code yX1_foldValues cX1_foldValues 3 (some .int) ∈ lw_all := lwm2 165 rfl rfl
theorem wk_417 : Cond.methodLink RX1 69 yX1_endKeys ∈ lw_all := lwm2 166 rfl rfl
theorem wk_418 : Cond.instanceMethod yX1_endKeys ∈ lw_all := lwm2 167 rfl rfl
theorem wk_419 : Cond.selects RX1 yX1_endKeys yX1_endKeys ∈ lw_all := lwm2 168 rfl rfl
theorem wk_420 : Cond.code yX1_endKeys cX1_endKeys 5 (some .int) ∈ lw_all := lwm2 169 rfl rfl
theorem wk_421 : Cond.methodLink RX1 76 arraycopyName ∈ lw_all := lwm2 170 rfl rfl
theorem wk_422 : Cond.methodLink RL 49 yX6_result ∈ lw_all := lwm2 171 rfl rfl
theorem wk_423 : Cond.instanceMethod yX6_result ∈ lw_all := lwm2 172 rfl rfl
theorem wk_424 : Cond.selects RX6 yX6_result yX6_result ∈ lw_all := lwm2 173 rfl rfl
theorem wk_425 : Cond.code yX6_result cX6_result 3 (some .long) ∈ lw_all := lwm2 174 rfl rfl
theorem wk_426 : Cond.constantLong RX6 87 1099511627776 ∈ lw_all := lwm2 175 rfl rfl
theorem wk_427 : Cond.methodLink RL 54 yX6_valueOf ∈ lw_all := lwm2 176 rfl rfl
theorem wk_428 : Cond.instanceMethod yX6_valueOf ∈ lw_all := lwm2 177 rfl rfl
theorem wk_429 : Cond.selects RX6 yX6_valueOf yX6_valueOf ∈ lw_all := lwm2 178 rfl rfl
theorem wk_430 : Cond.code yX6_valueOf cX6_valueOf 3 (some .long) ∈ lw_all := lwm2 179 rfl rfl
theorem wk_431 : Cond.methodLink RX6 96 yX2_placeOf ∈ lw_all := lwm2 180 rfl rfl
theorem wk_432 : Cond.methodLink RX6 100 yX2_holds ∈ lw_all := lwm2 181 rfl rfl
theorem wk_433 : Cond.methodLink RL 59 yX6_count ∈ lw_all := lwm2 182 rfl rfl
theorem wk_434 : Cond.instanceMethod yX6_count ∈ lw_all := lwm2 183 rfl rfl
theorem wk_435 : Cond.selects RX6 yX6_count yX6_count ∈ lw_all := lwm2 184 rfl rfl
theorem wk_436 : Cond.code yX6_count cX6_count 2 (some .int) ∈ lw_all := lwm2 185 rfl rfl
theorem wk_437 : Cond.methodLink RL 9 yL_cell ∈ lw_all := lwm2 186 rfl rfl
theorem wk_438 : Cond.static yL_cell ∈ lw_all := lwm2 187 rfl rfl
theorem wk_439 : Cond.code yL_cell cL_cell 2 (some .int) ∈ lw_all := lwm2 188 rfl rfl
theorem wk_440 : Cond.classLink RL 18 RX7 ∈ lw_all := lwm2 189 rfl rfl
theorem wk_441 : Cond.instantiable RX7 21 ∈ lw_all := lwm2 190 rfl rfl
theorem wk_442 : Cond.methodLink RL 20 yX7_init ∈ lw_all := lwm2 191 rfl rfl
theorem wk_443 : Cond.instanceMethod yX7_init ∈ lw_all := lwm2 192 rfl rfl
theorem wk_444 : Cond.code yX7_init cX7_init 4 none ∈ lw_all := lwm2 193 rfl rfl
theorem wk_445 : Cond.methodLink RX7 1 Lib.objectInit ∈ lw_all := lwm2 194 rfl rfl
theorem wk_446 : Cond.classLink RX7 16 "[[I" ∈ lw_all := lwm2 195 rfl rfl
theorem wk_448 : Cond.fieldLink RX7 55 "GrindFieldModel" "size" "I" ∈ lw_all := lwm2 197 rfl rfl
theorem wk_449 : Cond.fieldLink RX7 9 "GrindFieldModel" "recordKey" "[I" ∈ lw_all := lwm2 198 rfl rfl
theorem wk_450 : Cond.fieldLink RX7 13 "GrindFieldModel" "recordValue" "[I" ∈ lw_all := lwm2 199 rfl rfl
theorem wk_451 : Cond.fieldLink RX7 58 "GrindFieldModel" "records" "I" ∈ lw_all := lwm2 200 rfl rfl
theorem wk_452 : Cond.fieldLink RX7 18 "GrindFieldModel" "op" "[[I" ∈ lw_all := lwm2 201 rfl rfl
theorem wk_453 : Cond.fieldLink RX7 21 "GrindFieldModel" "number" "[[I" ∈ lw_all := lwm2 202 rfl rfl
theorem wk_454 : Cond.fieldLink RX7 24 "GrindFieldModel" "length" "[I" ∈ lw_all := lwm2 203 rfl rfl
theorem wk_455 : Cond.fieldLink RX7 27 "GrindFieldModel" "key" "[I" ∈ lw_all := lwm2 204 rfl rfl
theorem wk_456 : Cond.fieldLink RX7 30 "GrindFieldModel" "value" "[I" ∈ lw_all := lwm2 205 rfl rfl
theorem wk_457 : Cond.fieldLink RX7 33 "GrindFieldModel" "split" "[I" ∈ lw_all := lwm2 206 rfl rfl
theorem wk_458 : Cond.fieldLink RX7 96 "GrindFieldModel" "pairs" "I" ∈ lw_all := lwm2 207 rfl rfl
theorem wk_459 : Cond.fieldLink RX7 36 "GrindFieldModel" "resultKey" "[I" ∈ lw_all := lwm2 208 rfl rfl
theorem wk_460 : Cond.fieldLink RX7 39 "GrindFieldModel" "resultValue" "[I" ∈ lw_all := lwm2 209 rfl rfl
theorem wk_461 : Cond.fieldLink RX7 110 "GrindFieldModel" "results" "I" ∈ lw_all := lwm2 210 rfl rfl
theorem wk_462 : Cond.fieldLink RX7 42 "GrindFieldModel" "error" "I" ∈ lw_all := lwm2 211 rfl rfl
theorem wk_463 : Cond.fieldLink RX7 46 "GrindFieldModel" "told" "[I" ∈ lw_all := lwm2 212 rfl rfl
theorem wk_464 : Cond.fieldLink RX7 49 "GrindFieldModel" "stack" "[I" ∈ lw_all := lwm2 213 rfl rfl
theorem wk_465 : Cond.fieldLink RX7 52 "GrindFieldModel" "local" "[I" ∈ lw_all := lwm2 214 rfl rfl
theorem wk_466 : Cond.fieldLink RX7 89 "GrindFieldModel" "steps" "I" ∈ lw_all := lwm2 215 rfl rfl
theorem wk_467 : Cond.fieldLink RX7 99 "GrindFieldModel" "result" "I" ∈ lw_all := lwm2 216 rfl rfl
theorem wk_468 : Cond.fieldLink RX7 92 "GrindFieldModel" "without" "Z" ∈ lw_all := lwm2 217 rfl rfl
theorem wk_512 : Cond.methodLink RL 25 yX7_record ∈ lw_all := lwm3 21 rfl rfl
theorem wk_513 : Cond.instanceMethod yX7_record ∈ lw_all := lwm3 22 rfl rfl
theorem wk_514 : Cond.selects RX7 yX7_record yX7_record ∈ lw_all := lwm3 23 rfl rfl
theorem wk_515 : Cond.code yX7_record cX7_record 3 (some .int) ∈ lw_all := lwm3 24 rfl rfl
theorem wk_516 : Cond.methodLink RL 30 yX7_wipe ∈ lw_all := lwm3 25 rfl rfl
theorem wk_517 : Cond.instanceMethod yX7_wipe ∈ lw_all := lwm3 26 rfl rfl
theorem wk_518 : Cond.selects RX7 yX7_wipe yX7_wipe ∈ lw_all := lwm3 27 rfl rfl
theorem wk_519 : Cond.code yX7_wipe cX7_wipe 2 (some .int) ∈ lw_all := lwm3 28 rfl rfl
theorem wk_520 : Cond.methodLink RL 35 yX7_code ∈ lw_all := lwm3 29 rfl rfl
theorem wk_521 : Cond.instanceMethod yX7_code ∈ lw_all := lwm3 30 rfl rfl
theorem wk_522 : Cond.selects RX7 yX7_code yX7_code ∈ lw_all := lwm3 31 rfl rfl
theorem wk_523 : Cond.code yX7_code cX7_code 4 (some .int) ∈ lw_all := lwm3 32 rfl rfl
theorem wk_524 : Cond.methodLink RX7 61 yX7_is ∈ lw_all := lwm3 33 rfl rfl
theorem wk_525 : Cond.static yX7_is ∈ lw_all := lwm3 34 rfl rfl
theorem wk_526 : Cond.code yX7_is cX7_is 1 (some .boolean) ∈ lw_all := lwm3 35 rfl rfl
theorem wk_527 : Cond.methodLink RL 40 yX7_clear ∈ lw_all := lwm3 36 rfl rfl
theorem wk_528 : Cond.instanceMethod yX7_clear ∈ lw_all := lwm3 37 rfl rfl
theorem wk_529 : Cond.selects RX7 yX7_clear yX7_clear ∈ lw_all := lwm3 38 rfl rfl
theorem wk_530 : Cond.code yX7_clear cX7_clear 3 (some .int) ∈ lw_all := lwm3 39 rfl rfl
theorem wk_531 : Cond.methodLink RL 44 yX7_check ∈ lw_all := lwm3 40 rfl rfl
theorem wk_532 : Cond.instanceMethod yX7_check ∈ lw_all := lwm3 41 rfl rfl
theorem wk_533 : Cond.selects RX7 yX7_check yX7_check ∈ lw_all := lwm3 42 rfl rfl
theorem wk_534 : Cond.code yX7_check cX7_check 2 (some .int) ∈ lw_all := lwm3 43 rfl rfl
theorem wk_535 : Cond.methodLink RX7 80 yX7_firstWrong ∈ lw_all := lwm3 44 rfl rfl
theorem wk_537 : Cond.instanceMethod yX7_firstWrong ∈ lw_all := lwm3 46 rfl rfl
theorem wk_538 : Cond.code yX7_firstWrong cX7_firstWrong 13 (some .int) ∈ lw_all := lwm3 47 rfl rfl
theorem wk_539 : Cond.methodLink RX7 68 yX7_isBad ∈ lw_all := lwm3 48 rfl rfl
theorem wk_541 : Cond.instanceMethod yX7_isBad ∈ lw_all := lwm3 50 rfl rfl
theorem wk_542 : Cond.code yX7_isBad cX7_isBad 5 (some .boolean) ∈ lw_all := lwm3 51 rfl rfl
theorem wk_543 : Cond.fieldLink RX7 65 "GrindFieldModel" "ARGUMENTS" "[I" ∈ lw_all := lwm3 52 rfl rfl
theorem wk_545 : Cond.methodLink RX7 72 yX7_grows ∈ lw_all := lwm3 54 rfl rfl
theorem wk_546 : Cond.static yX7_grows ∈ lw_all := lwm3 55 rfl rfl
theorem wk_547 : Cond.code yX7_grows cX7_grows 1 (some .int) ∈ lw_all := lwm3 56 rfl rfl
theorem wk_548 : Cond.methodLink RX7 76 yX7_needs ∈ lw_all := lwm3 57 rfl rfl
theorem wk_549 : Cond.static yX7_needs ∈ lw_all := lwm3 58 rfl rfl
theorem wk_550 : Cond.code yX7_needs cX7_needs 2 (some .int) ∈ lw_all := lwm3 59 rfl rfl
theorem wk_551 : Cond.methodLink RL 48 yX7_run ∈ lw_all := lwm3 60 rfl rfl
theorem wk_552 : Cond.instanceMethod yX7_run ∈ lw_all := lwm3 61 rfl rfl
theorem wk_553 : Cond.selects RX7 yX7_run yX7_run ∈ lw_all := lwm3 62 rfl rfl
theorem wk_554 : Cond.code yX7_run cX7_run 2 (some .int) ∈ lw_all := lwm3 63 rfl rfl
theorem wk_555 : Cond.methodLink RX7 126 yX7_good ∈ lw_all := lwm3 64 rfl rfl
theorem wk_557 : Cond.instanceMethod yX7_good ∈ lw_all := lwm3 66 rfl rfl
theorem wk_558 : Cond.code yX7_good cX7_good 3 (some .boolean) ∈ lw_all := lwm3 67 rfl rfl
theorem wk_559 : Cond.methodLink RX7 83 yJ7_fill_53178 ∈ lw_all := lwm3 68 rfl rfl
theorem wk_560 : Cond.methodLink RX7 130 yX7_done ∈ lw_all := lwm3 69 rfl rfl
theorem wk_562 : Cond.instanceMethod yX7_done ∈ lw_all := lwm3 71 rfl rfl
theorem wk_563 : Cond.code yX7_done cX7_done 1 (some .boolean) ∈ lw_all := lwm3 72 rfl rfl
theorem wk_564 : Cond.methodLink RX7 113 yX7_map ∈ lw_all := lwm3 73 rfl rfl
theorem wk_566 : Cond.instanceMethod yX7_map ∈ lw_all := lwm3 75 rfl rfl
theorem wk_567 : Cond.code yX7_map cX7_map 2 (some .boolean) ∈ lw_all := lwm3 76 rfl rfl
theorem wk_568 : Cond.methodLink RX7 106 yX7_call ∈ lw_all := lwm3 77 rfl rfl
theorem wk_570 : Cond.instanceMethod yX7_call ∈ lw_all := lwm3 79 rfl rfl
theorem wk_571 : Cond.code yX7_call cX7_call 12 (some .boolean) ∈ lw_all := lwm3 80 rfl rfl
theorem wk_572 : Cond.methodLink RX7 102 yX7_reckoned ∈ lw_all := lwm3 81 rfl rfl
theorem wk_573 : Cond.static yX7_reckoned ∈ lw_all := lwm3 82 rfl rfl
theorem wk_574 : Cond.code yX7_reckoned cX7_reckoned 3 (some .int) ∈ lw_all := lwm3 83 rfl rfl
theorem wk_575 : Cond.methodLink RX7 117 yX7_join ∈ lw_all := lwm3 84 rfl rfl
theorem wk_577 : Cond.instanceMethod yX7_join ∈ lw_all := lwm3 86 rfl rfl
theorem wk_578 : Cond.code yX7_join cX7_join 4 (some .boolean) ∈ lw_all := lwm3 87 rfl rfl
theorem wk_579 : Cond.methodLink RX7 120 yX7_fold ∈ lw_all := lwm3 88 rfl rfl
theorem wk_581 : Cond.instanceMethod yX7_fold ∈ lw_all := lwm3 90 rfl rfl
theorem wk_582 : Cond.code yX7_fold cX7_fold 4 (some .boolean) ∈ lw_all := lwm3 91 rfl rfl
theorem wk_583 : Cond.methodLink RX7 123 yX7_end ∈ lw_all := lwm3 92 rfl rfl
theorem wk_585 : Cond.instanceMethod yX7_end ∈ lw_all := lwm3 94 rfl rfl
theorem wk_586 : Cond.code yX7_end cX7_end 3 (some .boolean) ∈ lw_all := lwm3 95 rfl rfl
theorem wk_587 : Cond.methodLink RL 53 yX7_result ∈ lw_all := lwm3 96 rfl rfl
theorem wk_588 : Cond.instanceMethod yX7_result ∈ lw_all := lwm3 97 rfl rfl
theorem wk_589 : Cond.selects RX7 yX7_result yX7_result ∈ lw_all := lwm3 98 rfl rfl
theorem wk_590 : Cond.code yX7_result cX7_result 3 (some .long) ∈ lw_all := lwm3 99 rfl rfl
theorem wk_591 : Cond.constantLong RX7 133 1099511627776 ∈ lw_all := lwm3 100 rfl rfl
theorem wk_592 : Cond.methodLink RL 58 yX7_valueOf ∈ lw_all := lwm3 101 rfl rfl
theorem wk_593 : Cond.instanceMethod yX7_valueOf ∈ lw_all := lwm3 102 rfl rfl
theorem wk_594 : Cond.selects RX7 yX7_valueOf yX7_valueOf ∈ lw_all := lwm3 103 rfl rfl
theorem wk_595 : Cond.code yX7_valueOf cX7_valueOf 3 (some .long) ∈ lw_all := lwm3 104 rfl rfl
theorem wk_596 : Cond.methodLink RL 62 yX7_count ∈ lw_all := lwm3 105 rfl rfl
theorem wk_597 : Cond.instanceMethod yX7_count ∈ lw_all := lwm3 106 rfl rfl
theorem wk_598 : Cond.selects RX7 yX7_count yX7_count ∈ lw_all := lwm3 107 rfl rfl
theorem wk_599 : Cond.code yX7_count cX7_count 2 (some .int) ∈ lw_all := lwm3 108 rfl rfl
theorem wi_0 : ∀ w ∈ u_ws RX0 TX0 3, w ∈ lw_all := by decide +kernel
theorem wz_0 {y : MethodName} {b : ByteArray} {n : Nat} {r : Option FieldType} : ∀ w ∈ u_ws RX0 TX0 3, w ∈ zTs y b n r := fun w h => zTs_in (wi_0 w h)
theorem wi_1 : ∀ w ∈ u_ws RX1 TX1 6, w ∈ lw_all := by decide +kernel
theorem wz_1 {y : MethodName} {b : ByteArray} {n : Nat} {r : Option FieldType} : ∀ w ∈ u_ws RX1 TX1 6, w ∈ zTs y b n r := fun w h => zTs_in (wi_1 w h)
theorem wi_2 : ∀ w ∈ u_ws RX2 TX2 3, w ∈ lw_all := by decide +kernel
theorem wz_2 {y : MethodName} {b : ByteArray} {n : Nat} {r : Option FieldType} : ∀ w ∈ u_ws RX2 TX2 3, w ∈ zTs y b n r := fun w h => zTs_in (wi_2 w h)
theorem wi_3 : ∀ w ∈ u_ws RX3 TX3 8, w ∈ lw_all := by decide +kernel
theorem wz_3 {y : MethodName} {b : ByteArray} {n : Nat} {r : Option FieldType} : ∀ w ∈ u_ws RX3 TX3 8, w ∈ zTs y b n r := fun w h => zTs_in (wi_3 w h)
theorem wi_4 : ∀ w ∈ u_ws RX4 TX4 3, w ∈ lw_all := by decide +kernel
theorem wz_4 {y : MethodName} {b : ByteArray} {n : Nat} {r : Option FieldType} : ∀ w ∈ u_ws RX4 TX4 3, w ∈ zTs y b n r := fun w h => zTs_in (wi_4 w h)
theorem wi_5 : ∀ w ∈ u_ws RX5 TX5 4, w ∈ lw_all := by decide +kernel
theorem wz_5 {y : MethodName} {b : ByteArray} {n : Nat} {r : Option FieldType} : ∀ w ∈ u_ws RX5 TX5 4, w ∈ zTs y b n r := fun w h => zTs_in (wi_5 w h)
theorem wi_6 : ∀ w ∈ u_ws RX6 TX6 5, w ∈ lw_all := by decide +kernel
theorem wz_6 {y : MethodName} {b : ByteArray} {n : Nat} {r : Option FieldType} : ∀ w ∈ u_ws RX6 TX6 5, w ∈ zTs y b n r := fun w h => zTs_in (wi_6 w h)
theorem wi_7 : ∀ w ∈ u_ws RX7 TX7 21, w ∈ lw_all := by decide +kernel
theorem wz_7 {y : MethodName} {b : ByteArray} {n : Nat} {r : Option FieldType} : ∀ w ∈ u_ws RX7 TX7 21, w ∈ zTs y b n r := fun w h => zTs_in (wi_7 w h)
end
section
/-! the judgement Z: a state of one method, symbolic: place, locals, stack, world; and a rule an instruction -/
def zNeed (j : Nat) : Int32 := ([0, 0, 0, 1, 1, 2, 1, 2, 2, 2, 2, 2, 2, 2, 0, 1, 2, 1, 0] : List Int32).getD j 0
def zGrow (j : Nat) : Int32 := ([1, 1, 1, -1, 1, 0, -1, -1, -1, -1, -1, -1, -1, -1, 0, -1, -2, 0, 0] : List Int32).getD j 0
def zArgs (j : Nat) : Int32 := ([2, 3, 3, 2] : List Int32).getD j 0
/-- what stays: the classes' places, the array classes of int, Program and int[], the tables' addresses -/
abbrev zE : Type := va_G × ClassId × ClassId × ClassId × Nat × Nat × Nat
abbrev zcI (E : zE) : ClassId := E.2.1
abbrev zcP (E : zE) : ClassId := E.2.2.1
abbrev zcG (E : zE) : ClassId := E.2.2.2.1
abbrev ztN (E : zE) : Nat := E.2.2.2.2.1
abbrev ztG (E : zE) : Nat := E.2.2.2.2.2.1
abbrev ztA (E : zE) : Nat := E.2.2.2.2.2.2
abbrev zT (E : zE) : List (ClassId × FieldType) := [(zcI E, .int), (zcP E, .object "GrindField$Program"), (zcG E, .array .int)]
/-- an int array, an object, an array of references -/
abbrev zi (E : zE) (n : Nat) (f : Nat → Int32) : va_E := .inl (zcI E, n, .inl f)
abbrev zo (k : Nat) (fs : List Value) : va_E := .inr (k, fs)
abbrev zp (E : zE) (n : Nat) (f : Nat → Option Nat) : va_E := .inl (zcP E, n, .inr (.inr (.inr (.inr f))))
abbrev zg (E : zE) (n : Nat) (f : Nat → Option Nat) : va_E := .inl (zcG E, n, .inr (.inr (.inr (.inr f))))
/-- the links between nest mates, the arrays over Program and int[] -/
def zAOA (U : State) : Prop := (Cond.arrayOver (.array .int)).before #[] U = true
theorem zAOA.moved {u U : State} (hvm : u.vm.Alike U.vm) (h : zAOA u) : zAOA U := by
  have h1 : (Cond.arrayOver (.array .int)).before #[] (u.setVm U.vm) = true := (Cond.arrayOver_setVmC (args := #[]) hvm (.array .int)).trans h
  have h2 : (Cond.arrayOver (.array .int)).before #[] U = (Cond.arrayOver (.array .int)).before #[] (u.setVm U.vm) := by
    unfold Cond.before Cond.holds
    simp only [Cond.value]
    rfl
  exact h2.trans h1
def zN (U : State) : Prop := (va_Nw (.methodLinkNest RX6 40 yX0_init RX6) U ∧ va_Nw (.methodLinkNest RX1 11 yX3_init RX6) U ∧ va_Nw (.methodLinkNest RX1 24 yX2_init RX6) U ∧ va_Nw (.methodLinkNest RX0 65 yX6_isJump RX6) U ∧ va_Nw (.methodLinkNest RX3 75 yX6_isJump RX6) U ∧ va_Nw (.methodLinkNest RX3 82 yX6_isCombination RX6) U) ∧ va_AO "GrindField$Program" U ∧ zAOA U
theorem zN.step {u U : State} (hW : u.WarmedH U.vm) (h : zN u) : zN U := by
  obtain ⟨⟨h1, h2, h3, h4, h5, h6⟩, h7, h8⟩ := h
  exact ⟨⟨h1.warmM hW, h2.warmM hW, h3.warmM hW, h4.warmM hW, h5.warmM hW, h6.warmM hW⟩, h7.moved hW.alike, h8.moved hW.alike⟩
def zS (E : zE) (A : Nat → Prop) (U : State) : Prop := zN U ∧
  (va_Z "GrindField$Checker" "NEEDED" "[I" (.ref (ztN E)) A U U.heap ∧ va_T .int (ztN E) 19 (fun j => .int (zNeed j)) A U U.heap) ∧
  (va_Z "GrindField$Checker" "GROWTH" "[I" (.ref (ztG E)) A U U.heap ∧ va_T .int (ztG E) 19 (fun j => .int (zGrow j)) A U U.heap) ∧
  (va_Z "GrindFieldModel" "ARGUMENTS" "[I" (.ref (ztA E)) A U U.heap ∧ va_T .int (ztA E) 4 (fun j => .int (zArgs j)) A U U.heap)
theorem zS.step {E : zE} {A B : Nat → Prop} {u U : State} (h : zS E A u) (hW : u.WarmedH U.vm) (hq : ∀ a : Nat, a < u.heap.size → ¬ A a → U.heap[a]? = u.heap[a]?) (hAB : ∀ q, B q → A q) : zS E B U := by
  obtain ⟨n0, ⟨a1, a2⟩, ⟨b1, b2⟩, ⟨c1, c2⟩⟩ := h
  have hvm := hW.alike
  exact ⟨n0.step hW, ⟨((a1.moved hvm).kept hq).narrow hAB, ((a2.moved hvm).kept hq).narrow hAB⟩, ⟨((b1.moved hvm).kept hq).narrow hAB, ((b2.moved hvm).kept hq).narrow hAB⟩, ⟨((c1.moved hvm).kept hq).narrow hAB, ((c2.moved hvm).kept hq).narrow hAB⟩⟩
/-- what a method's walk rests on, from its entry to its end -/
def zC (E : zE) (p : Program) (s : State) (m : MethodId) (args : Array Value) (meth : Method) (c : Code) (cc : ByteArray) (nL : Nat) (ret : Option FieldType) (own : String) (Ts : List Cond) (A : Nat → Prop) : Prop :=
  p.tables.exec = Jvm.exec ∧ c.code = cc ∧ meth.sig.returnType = ret ∧ c.maxLocals = nL ∧ s.vm.findClass own = some m.cls ∧ (∀ w ∈ Ts, w.before args s = true) ∧ meth.locks = false ∧ va_K E.1 vwCl (zT E) s ∧ (∀ q : Nat, s.heap.size ≤ q → A q) ∧ zS E A s
def Z (E : zE) (p : Program) (l : Launch) (e : Env) (R : Room) (s : State) (m : MethodId) (args : Array Value) (below : List Frame) (meth : Method) (c : Code) (Q : State → Prop) (A : Nat → Prop) (nL : Nat) (pc : Nat) (L : List (Nat × Value)) (st : List Value) (ws : va_W) (cells slots : Nat) : Prop :=
  ∀ (H : Heap) (locs : List Loc) (ls : Array Slot), va_P E.1 vwCl ws H → va_D A ws → va_S A s.heap H locs → lv_has ls nL L → W p l e R s m args below meth c H locs cells slots Q (F0 m pc ls st)
abbrev zPost (E : zE) (A : Nat → Prop) (w : va_W) (t : State) : Prop := va_P E.1 vwCl w t.heap ∧ va_K E.1 vwCl (zT E) t ∧ va_D A w
def zPre (E : zE) (av : List Value) (w0 : va_W) (sz : Nat) : Array Value → State → Prop :=
  va_Pc av (fun U => U.heap.size = sz ∧ va_P E.1 vwCl w0 U.heap ∧ va_K E.1 vwCl (zT E) U ∧ va_D (fun _ => True) w0 ∧ zS E (va_A w0 sz) U)
def zMi (l : Launch) (E : zE) (y : MethodName) (ws : List Cond) (rm : Room) (av : List Value) (w0 : va_W) (B : Int32 → va_W → Prop) (mc ms : Nat) : Prop :=
  ∀ sz : Nat, Met l y ws rm (zPre E av w0 sz) (va_Qi B (zPost E (va_A w0 sz)) (va_A w0 sz)) mc ms (va_A w0 sz)
def zMl (l : Launch) (E : zE) (y : MethodName) (ws : List Cond) (rm : Room) (av : List Value) (w0 : va_W) (B : Int64 → va_W → Prop) (mc ms : Nat) : Prop :=
  ∀ sz : Nat, Met l y ws rm (zPre E av w0 sz) (va_Ql B (zPost E (va_A w0 sz)) (va_A w0 sz)) mc ms (va_A w0 sz)
def zMv (l : Launch) (E : zE) (y : MethodName) (ws : List Cond) (rm : Room) (av : List Value) (w0 : va_W) (B : va_W → Prop) (mc ms : Nat) : Prop :=
  ∀ sz : Nat, Met l y ws rm (zPre E av w0 sz) (va_Qv B (zPost E (va_A w0 sz)) (va_A w0 sz)) mc ms (va_A w0 sz)
theorem zPre.blind {E : zE} {av : List Value} {w0 : va_W} {sz : Nat} : FrameBlind (zPre E av w0 sz) := fun a U g mk q => by
  obtain ⟨q0, q1, qP, qK, qD, qS⟩ := q
  exact ⟨q0, q1, qP, va_K.moved (u := U) (U := U.calling g mk a) (Vm.Alike.refl U.vm) qK, qD, qS.step (U := U.calling g mk a) (State.WarmedH.refl U) (fun _ _ _ => rfl) (fun _ h => h)⟩
theorem zPre.at {E : zE} {av : List Value} {w0 : va_W} {A : Nat → Prop} {s U : State} {H : Heap} {locs : List Loc} (hP : va_P E.1 vwCl w0 H) (hK : va_K E.1 vwCl (zT E) s) (hD : va_D (fun _ => True) w0) (hx : zS E A s) (hS : va_S A s.heap H locs) (hF : ∀ q, va_A w0 H.size q → A q) (hU : U.heap = H) (hW : s.WarmedH U.vm) : zPre E av w0 H.size av.toArray U := by
  refine ⟨rfl, by rw [hU], by rw [hU]; exact hP, va_K.moved hW.alike hK, hD, ?_⟩
  exact hx.step hW (fun a h1 h2 => by rw [hU]; exact hS.2.1 a h1 h2) hF
section ZK
variable {E : zE} {p : Program} {l : Launch} {e : Env} {R : Room} {s : State} {m : MethodId} {args : Array Value} {below : List Frame} {meth : Method} {c : Code} {Q : State → Prop}
variable {cc : ByteArray} {nL : Nat} {ret : Option FieldType} {own : String} {Ts : List Cond} {A : Nat → Prop}
variable {pc : Nat} {L : List (Nat × Value)} {st : List Value} {ws : va_W} {cells slots : Nat}

theorem z_iconst (q : Nat) (C0 : zC E p s m args meth c cc nL ret own Ts A) {n : Int} {v : Int32} (hd : decode cc pc = .ok (.iconst n, 1)) (hq : pc + 1 = q) (hv : Int32.ofInt n = v) (k : Z E p l e R s m args below meth c Q A nL q L (.int v :: st) ws cells slots) : Z E p l e R s m args below meth c Q A nL pc L (st) ws cells slots := by
  subst hq
  intro H locs ls hP hD hS hl
  have hx := C0.1
  have hb := C0.2.1
  exact lv_iconst hx hb hd hv (k H locs ls hP hD hS hl)
theorem z_bipush (q : Nat) (C0 : zC E p s m args meth c cc nL ret own Ts A) {n : Int} {v : Int32} (hd : decode cc pc = .ok (.bipush n, 2)) (hq : pc + 2 = q) (hv : (Int8.ofInt n).toInt32 = v) (k : Z E p l e R s m args below meth c Q A nL q L (.int v :: st) ws cells slots) : Z E p l e R s m args below meth c Q A nL pc L (st) ws cells slots := by
  subst hq
  intro H locs ls hP hD hS hl
  have hx := C0.1
  have hb := C0.2.1
  exact lv_bipush hx hb hd hv (k H locs ls hP hD hS hl)
theorem z_sipush (q : Nat) (C0 : zC E p s m args meth c cc nL ret own Ts A) {n : Int} {v : Int32} (hd : decode cc pc = .ok (.sipush n, 3)) (hq : pc + 3 = q) (hv : (Int16.ofInt n).toInt32 = v) (k : Z E p l e R s m args below meth c Q A nL q L (.int v :: st) ws cells slots) : Z E p l e R s m args below meth c Q A nL pc L (st) ws cells slots := by
  subst hq
  intro H locs ls hP hD hS hl
  have hx := C0.1
  have hb := C0.2.1
  exact lv_sipush hx hb hd hv (k H locs ls hP hD hS hl)
theorem z_ldc2 (q : Nat) (C0 : zC E p s m args meth c cc nL ret own Ts A) {v : Int64} {i : Nat} (hw : Cond.constantLong own i v ∈ Ts) (hd : decode cc pc = .ok (.ldc2_w i, 3)) (hq : pc + 3 = q) (k : Z E p l e R s m args below meth c Q A nL q L (.long v :: st) ws cells slots) : Z E p l e R s m args below meth c Q A nL pc L st ws cells slots := by
  subst hq
  intro H locs ls hP hD hS hl
  have hx := C0.1
  have hb := C0.2.1
  exact lv_ldc2 hx hb C0.2.2.2.2.1 (C0.2.2.2.2.2.1 _ hw) hd (k H locs ls hP hD hS hl)
theorem z_ldcw (q : Nat) (C0 : zC E p s m args meth c cc nL ret own Ts A) {v : Int32} {i : Nat} (hw : Cond.constant own i v ∈ Ts) (hd : decode cc pc = .ok (.ldc_w i, 3)) (hq : pc + 3 = q) (k : Z E p l e R s m args below meth c Q A nL q L (.int v :: st) ws cells slots) : Z E p l e R s m args below meth c Q A nL pc L st ws cells slots := by
  subst hq
  intro H locs ls hP hD hS hl
  have hx := C0.1
  have hb := C0.2.1
  exact lv_ldcw hx hb C0.2.2.2.2.1 (C0.2.2.2.2.2.1 _ hw) hd (k H locs ls hP hD hS hl)
theorem z_iload_n (q : Nat) (C0 : zC E p s m args meth c cc nL ret own Ts A) (j : Nat) {kk : Fin 4} {i : Nat} {x : Int32} (hd : decode cc pc = .ok (.iload_n kk, 1)) (hq : pc + 1 = q) (hi : (kk : Nat) = i) (hj : L[j]? = some (i, .int x)) (k : Z E p l e R s m args below meth c Q A nL q L (.int x :: st) ws cells slots) : Z E p l e R s m args below meth c Q A nL pc L st ws cells slots := by
  subst hq
  intro H locs ls hP hD hS hl
  have hx := C0.1
  have hb := C0.2.1
  exact lv_iload_n hx hb hd hi (lv_at hl j hj) (k H locs ls hP hD hS hl)
theorem z_iload (q : Nat) (C0 : zC E p s m args meth c cc nL ret own Ts A) (j : Nat) {i : Nat} {x : Int32} (hd : decode cc pc = .ok (.iload i, 2)) (hq : pc + 2 = q) (hj : L[j]? = some (i, .int x)) (k : Z E p l e R s m args below meth c Q A nL q L (.int x :: st) ws cells slots) : Z E p l e R s m args below meth c Q A nL pc L st ws cells slots := by
  subst hq
  intro H locs ls hP hD hS hl
  have hx := C0.1
  have hb := C0.2.1
  exact lv_iload hx hb hd (lv_at hl j hj) (k H locs ls hP hD hS hl)
theorem z_aload_n (q : Nat) (C0 : zC E p s m args meth c cc nL ret own Ts A) (j : Nat) {kk : Fin 4} {i : Nat} {x : Nat} (hd : decode cc pc = .ok (.aload_n kk, 1)) (hq : pc + 1 = q) (hi : (kk : Nat) = i) (hj : L[j]? = some (i, .ref x)) (k : Z E p l e R s m args below meth c Q A nL q L (.ref x :: st) ws cells slots) : Z E p l e R s m args below meth c Q A nL pc L st ws cells slots := by
  subst hq
  intro H locs ls hP hD hS hl
  have hx := C0.1
  have hb := C0.2.1
  exact lv_aload_n hx hb hd hi (lv_at hl j hj) (k H locs ls hP hD hS hl)
theorem z_aload (q : Nat) (C0 : zC E p s m args meth c cc nL ret own Ts A) (j : Nat) {i : Nat} {x : Nat} (hd : decode cc pc = .ok (.aload i, 2)) (hq : pc + 2 = q) (hj : L[j]? = some (i, .ref x)) (k : Z E p l e R s m args below meth c Q A nL q L (.ref x :: st) ws cells slots) : Z E p l e R s m args below meth c Q A nL pc L st ws cells slots := by
  subst hq
  intro H locs ls hP hD hS hl
  have hx := C0.1
  have hb := C0.2.1
  exact lv_aload hx hb hd (lv_at hl j hj) (k H locs ls hP hD hS hl)
theorem z_istore_n (q : Nat) (C0 : zC E p s m args meth c cc nL ret own Ts A) (ks : List Nat) (L1 : List (Nat × Value)) {kk : Fin 4} {i : Nat} {x : Int32} (hd : decode cc pc = .ok (.istore_n kk, 1)) (hq : pc + 1 = q) (hi : (kk : Nat) = i) (hn : i < nL) (hL : lv_pick ((i, Value.int x) :: L.filter (fun q => !(q.1 == i) && !(q.1 + 1 == i && q.2.category == 2))) ks = L1) (k : Z E p l e R s m args below meth c Q A nL q L1 st ws cells slots) : Z E p l e R s m args below meth c Q A nL pc L (.int x :: st) ws cells slots := by
  subst hq
  intro H locs ls hP hD hS hl
  have hx := C0.1
  have hb := C0.2.1
  exact lv_istore_n hx hb hd hi hl hn rfl (fun ls1 h1 => k H locs ls1 hP hD hS (lv_sub h1 ks hL))
theorem z_istore (q : Nat) (C0 : zC E p s m args meth c cc nL ret own Ts A) (ks : List Nat) (L1 : List (Nat × Value)) {i : Nat} {x : Int32} (hd : decode cc pc = .ok (.istore i, 2)) (hq : pc + 2 = q) (hn : i < nL) (hL : lv_pick ((i, Value.int x) :: L.filter (fun q => !(q.1 == i) && !(q.1 + 1 == i && q.2.category == 2))) ks = L1) (k : Z E p l e R s m args below meth c Q A nL q L1 st ws cells slots) : Z E p l e R s m args below meth c Q A nL pc L (.int x :: st) ws cells slots := by
  subst hq
  intro H locs ls hP hD hS hl
  have hx := C0.1
  have hb := C0.2.1
  exact lv_istore hx hb hd hl hn rfl (fun ls1 h1 => k H locs ls1 hP hD hS (lv_sub h1 ks hL))
theorem z_astore_n (q : Nat) (C0 : zC E p s m args meth c cc nL ret own Ts A) (ks : List Nat) (L1 : List (Nat × Value)) {kk : Fin 4} {i : Nat} {x : Nat} (hd : decode cc pc = .ok (.astore_n kk, 1)) (hq : pc + 1 = q) (hi : (kk : Nat) = i) (hn : i < nL) (hL : lv_pick ((i, Value.ref x) :: L.filter (fun q => !(q.1 == i) && !(q.1 + 1 == i && q.2.category == 2))) ks = L1) (k : Z E p l e R s m args below meth c Q A nL q L1 st ws cells slots) : Z E p l e R s m args below meth c Q A nL pc L (.ref x :: st) ws cells slots := by
  subst hq
  intro H locs ls hP hD hS hl
  have hx := C0.1
  have hb := C0.2.1
  exact lv_astore_n hx hb hd hi hl hn rfl (fun ls1 h1 => k H locs ls1 hP hD hS (lv_sub h1 ks hL))
theorem z_astore (q : Nat) (C0 : zC E p s m args meth c cc nL ret own Ts A) (ks : List Nat) (L1 : List (Nat × Value)) {i : Nat} {x : Nat} (hd : decode cc pc = .ok (.astore i, 2)) (hq : pc + 2 = q) (hn : i < nL) (hL : lv_pick ((i, Value.ref x) :: L.filter (fun q => !(q.1 == i) && !(q.1 + 1 == i && q.2.category == 2))) ks = L1) (k : Z E p l e R s m args below meth c Q A nL q L1 st ws cells slots) : Z E p l e R s m args below meth c Q A nL pc L (.ref x :: st) ws cells slots := by
  subst hq
  intro H locs ls hP hD hS hl
  have hx := C0.1
  have hb := C0.2.1
  exact lv_astore hx hb hd hl hn rfl (fun ls1 h1 => k H locs ls1 hP hD hS (lv_sub h1 ks hL))
theorem z_iinc (q : Nat) (C0 : zC E p s m args meth c cc nL ret own Ts A) (j : Nat) (ks : List Nat) (L1 : List (Nat × Value)) {i : Nat} {n : Int} {x v : Int32} (hd : decode cc pc = .ok (.iinc i n, 3)) (hq : pc + 3 = q) (hj : L[j]? = some (i, .int x)) (hv : x + Int32.ofInt n = v) (hn : i < nL) (hL : lv_pick ((i, Value.int v) :: L.filter (fun q => !(q.1 == i) && !(q.1 + 1 == i && q.2.category == 2))) ks = L1) (k : Z E p l e R s m args below meth c Q A nL q L1 st ws cells slots) : Z E p l e R s m args below meth c Q A nL pc L st ws cells slots := by
  subst hq
  intro H locs ls hP hD hS hl
  have hx := C0.1
  have hb := C0.2.1
  exact lv_iinc hx hb hd hl hj hv hn rfl (fun ls1 h1 => k H locs ls1 hP hD hS (lv_sub h1 ks hL))
theorem z_iadd (q : Nat) (C0 : zC E p s m args meth c cc nL ret own Ts A) {x y v : Int32} (hd : decode cc pc = .ok (.iadd, 1)) (hq : pc + 1 = q) (hv : x + y = v) (k : Z E p l e R s m args below meth c Q A nL q L (.int v :: st) ws cells slots) : Z E p l e R s m args below meth c Q A nL pc L (.int y :: .int x :: st) ws cells slots := by
  subst hq
  intro H locs ls hP hD hS hl
  have hx := C0.1
  have hb := C0.2.1
  subst hv
  exact lv_iadd hx hb hd (k H locs ls hP hD hS hl)
theorem z_isub (q : Nat) (C0 : zC E p s m args meth c cc nL ret own Ts A) {x y v : Int32} (hd : decode cc pc = .ok (.isub, 1)) (hq : pc + 1 = q) (hv : x - y = v) (k : Z E p l e R s m args below meth c Q A nL q L (.int v :: st) ws cells slots) : Z E p l e R s m args below meth c Q A nL pc L (.int y :: .int x :: st) ws cells slots := by
  subst hq
  intro H locs ls hP hD hS hl
  have hx := C0.1
  have hb := C0.2.1
  subst hv
  exact lv_isub hx hb hd (k H locs ls hP hD hS hl)
theorem z_imul (q : Nat) (C0 : zC E p s m args meth c cc nL ret own Ts A) {x y v : Int32} (hd : decode cc pc = .ok (.imul, 1)) (hq : pc + 1 = q) (hv : x * y = v) (k : Z E p l e R s m args below meth c Q A nL q L (.int v :: st) ws cells slots) : Z E p l e R s m args below meth c Q A nL pc L (.int y :: .int x :: st) ws cells slots := by
  subst hq
  intro H locs ls hP hD hS hl
  have hx := C0.1
  have hb := C0.2.1
  subst hv
  exact lv_imul hx hb hd (k H locs ls hP hD hS hl)
theorem z_iand (q : Nat) (C0 : zC E p s m args meth c cc nL ret own Ts A) {x y v : Int32} (hd : decode cc pc = .ok (.iand, 1)) (hq : pc + 1 = q) (hv : x &&& y = v) (k : Z E p l e R s m args below meth c Q A nL q L (.int v :: st) ws cells slots) : Z E p l e R s m args below meth c Q A nL pc L (.int y :: .int x :: st) ws cells slots := by
  subst hq
  intro H locs ls hP hD hS hl
  have hx := C0.1
  have hb := C0.2.1
  subst hv
  exact lv_iand hx hb hd (k H locs ls hP hD hS hl)
theorem z_ior (q : Nat) (C0 : zC E p s m args meth c cc nL ret own Ts A) {x y v : Int32} (hd : decode cc pc = .ok (.ior, 1)) (hq : pc + 1 = q) (hv : x ||| y = v) (k : Z E p l e R s m args below meth c Q A nL q L (.int v :: st) ws cells slots) : Z E p l e R s m args below meth c Q A nL pc L (.int y :: .int x :: st) ws cells slots := by
  subst hq
  intro H locs ls hP hD hS hl
  have hx := C0.1
  have hb := C0.2.1
  subst hv
  exact lv_ior hx hb hd (k H locs ls hP hD hS hl)
theorem z_ishl (q : Nat) (C0 : zC E p s m args meth c cc nL ret own Ts A) {x y v : Int32} (hd : decode cc pc = .ok (.ishl, 1)) (hq : pc + 1 = q) (hv : x <<< (y &&& 31) = v) (k : Z E p l e R s m args below meth c Q A nL q L (.int v :: st) ws cells slots) : Z E p l e R s m args below meth c Q A nL pc L (.int y :: .int x :: st) ws cells slots := by
  subst hq
  intro H locs ls hP hD hS hl
  have hx := C0.1
  have hb := C0.2.1
  subst hv
  exact lv_ishl hx hb hd (k H locs ls hP hD hS hl)
theorem z_ishr (q : Nat) (C0 : zC E p s m args meth c cc nL ret own Ts A) {x y v : Int32} (hd : decode cc pc = .ok (.ishr, 1)) (hq : pc + 1 = q) (hv : x >>> (y &&& 31) = v) (k : Z E p l e R s m args below meth c Q A nL q L (.int v :: st) ws cells slots) : Z E p l e R s m args below meth c Q A nL pc L (.int y :: .int x :: st) ws cells slots := by
  subst hq
  intro H locs ls hP hD hS hl
  have hx := C0.1
  have hb := C0.2.1
  subst hv
  exact lv_ishr hx hb hd (k H locs ls hP hD hS hl)
theorem z_idiv (q : Nat) (C0 : zC E p s m args meth c cc nL ret own Ts A) {x y v : Int32} (hd : decode cc pc = .ok (.idiv, 1)) (hq : pc + 1 = q) (hne : ¬ y = 0) (hv : x / y = v) (k : Z E p l e R s m args below meth c Q A nL q L (.int v :: st) ws cells slots) : Z E p l e R s m args below meth c Q A nL pc L (.int y :: .int x :: st) ws cells slots := by
  subst hq
  intro H locs ls hP hD hS hl
  have hx := C0.1
  have hb := C0.2.1
  subst hv
  exact lv_idiv hx hb hd hne (k H locs ls hP hD hS hl)
theorem z_irem (q : Nat) (C0 : zC E p s m args meth c cc nL ret own Ts A) {x y v : Int32} (hd : decode cc pc = .ok (.irem, 1)) (hq : pc + 1 = q) (hne : ¬ y = 0) (hv : x - x / y * y = v) (k : Z E p l e R s m args below meth c Q A nL q L (.int v :: st) ws cells slots) : Z E p l e R s m args below meth c Q A nL pc L (.int y :: .int x :: st) ws cells slots := by
  subst hq
  intro H locs ls hP hD hS hl
  have hx := C0.1
  have hb := C0.2.1
  subst hv
  exact lv_irem hx hb hd hne (k H locs ls hP hD hS hl)
theorem z_iushr (q : Nat) (C0 : zC E p s m args meth c cc nL ret own Ts A) {x y v : Int32} (hd : decode cc pc = .ok (.iushr, 1)) (hq : pc + 1 = q) (hv : (x.toUInt32 >>> (y.toUInt32 &&& Int32.toUInt32 31)).toInt32 = v) (k : Z E p l e R s m args below meth c Q A nL q L (.int v :: st) ws cells slots) : Z E p l e R s m args below meth c Q A nL pc L (.int y :: .int x :: st) ws cells slots := by
  subst hq
  intro H locs ls hP hD hS hl
  have hx := C0.1
  have hb := C0.2.1
  exact lv_iushr hx hb hd hv (k H locs ls hP hD hS hl)
theorem z_i2l (q : Nat) (C0 : zC E p s m args meth c cc nL ret own Ts A) {x : Int32} {v : Int64} (hd : decode cc pc = .ok (.i2l, 1)) (hq : pc + 1 = q) (hv : x.toInt64 = v) (k : Z E p l e R s m args below meth c Q A nL q L (.long v :: st) ws cells slots) : Z E p l e R s m args below meth c Q A nL pc L (.int x :: st) ws cells slots := by
  subst hq
  intro H locs ls hP hD hS hl
  have hx := C0.1
  have hb := C0.2.1
  exact lv_i2l hx hb hd hv (k H locs ls hP hD hS hl)
theorem z_lcmp (q : Nat) (C0 : zC E p s m args meth c cc nL ret own Ts A) {x y : Int64} (hd : decode cc pc = .ok (.lcmp, 1)) (hq : pc + 1 = q) (k : Z E p l e R s m args below meth c Q A nL q L (.int (lg_cmp x y) :: st) ws cells slots) : Z E p l e R s m args below meth c Q A nL pc L (.long y :: .long x :: st) ws cells slots := by
  subst hq
  intro H locs ls hP hD hS hl
  have hx := C0.1
  have hb := C0.2.1
  exact W.lcmp hx hb hd (k H locs ls hP hD hS hl)
theorem z_dup (q : Nat) (C0 : zC E p s m args meth c cc nL ret own Ts A) {va : Value} (hd : decode cc pc = .ok (.dup, 1)) (hq : pc + 1 = q) (hva : va.category = 1) (k : Z E p l e R s m args below meth c Q A nL q L (va :: va :: st) ws cells slots) : Z E p l e R s m args below meth c Q A nL pc L (va :: st) ws cells slots := by
  subst hq
  intro H locs ls hP hD hS hl
  have hx := C0.1
  have hb := C0.2.1
  exact lv_dup hx hb hd hva (k H locs ls hP hD hS hl)
theorem z_pop (q : Nat) (C0 : zC E p s m args meth c cc nL ret own Ts A) {va : Value} (hd : decode cc pc = .ok (.pop, 1)) (hq : pc + 1 = q) (hva : va.category = 1) (k : Z E p l e R s m args below meth c Q A nL q L st ws cells slots) : Z E p l e R s m args below meth c Q A nL pc L (va :: st) ws cells slots := by
  subst hq
  intro H locs ls hP hD hS hl
  have hx := C0.1
  have hb := C0.2.1
  exact lv_pop hx hb hd hva (k H locs ls hP hD hS hl)
theorem z_dup2 (q : Nat) (C0 : zC E p s m args meth c cc nL ret own Ts A) {va vb : Value} (hd : decode cc pc = .ok (.dup2, 1)) (hq : pc + 1 = q) (hva : va.category = 1) (hvb : vb.category = 1) (k : Z E p l e R s m args below meth c Q A nL q L (va :: vb :: va :: vb :: st) ws cells slots) : Z E p l e R s m args below meth c Q A nL pc L (va :: vb :: st) ws cells slots := by
  subst hq
  intro H locs ls hP hD hS hl
  have hx := C0.1
  have hb := C0.2.1
  exact lv_dup2_11 hx hb hd hva hvb (k H locs ls hP hD hS hl)
theorem z_goto (t : Nat) (C0 : zC E p s m args meth c cc nL ret own Ts A) {off : Int} (hd : decode cc pc = .ok (.goto off, 3)) (ht : (pc : Int) + off = (t : Int)) (k : Z E p l e R s m args below meth c Q A nL t L st ws cells slots) : Z E p l e R s m args below meth c Q A nL pc L st ws cells slots := fun H locs ls hP hD hS hl => lv_goto C0.1 C0.2.1 hd ht (k H locs ls hP hD hS hl)
theorem z_icmp_eq (q t : Nat) (C0 : zC E p s m args meth c cc nL ret own Ts A) {x y : Int32} {off : Int} (hd : decode cc pc = .ok (.if_icmp .eq off, 3)) (hq : pc + 3 = q) (ht : (pc : Int) + off = (t : Int)) (kt : x = y → Z E p l e R s m args below meth c Q A nL t L st ws cells slots) (kf : ¬ x = y → Z E p l e R s m args below meth c Q A nL q L st ws cells slots) : Z E p l e R s m args below meth c Q A nL pc L (.int y :: .int x :: st) ws cells slots := by
  subst hq
  intro H locs ls hP hD hS hl
  exact lv_icmp_eq C0.1 C0.2.1 hd ht (fun h => kt h H locs ls hP hD hS hl) (fun h => kf h H locs ls hP hD hS hl)
theorem z_if_eq (q t : Nat) (C0 : zC E p s m args meth c cc nL ret own Ts A) {x : Int32} {off : Int} (hd : decode cc pc = .ok (.ifCond .eq off, 3)) (hq : pc + 3 = q) (ht : (pc : Int) + off = (t : Int)) (kt : x = 0 → Z E p l e R s m args below meth c Q A nL t L st ws cells slots) (kf : ¬ x = 0 → Z E p l e R s m args below meth c Q A nL q L st ws cells slots) : Z E p l e R s m args below meth c Q A nL pc L (.int x :: st) ws cells slots := by
  subst hq
  intro H locs ls hP hD hS hl
  exact lv_if_eq C0.1 C0.2.1 hd ht (fun h => kt h H locs ls hP hD hS hl) (fun h => kf h H locs ls hP hD hS hl)
theorem z_icmp_ne (q t : Nat) (C0 : zC E p s m args meth c cc nL ret own Ts A) {x y : Int32} {off : Int} (hd : decode cc pc = .ok (.if_icmp .ne off, 3)) (hq : pc + 3 = q) (ht : (pc : Int) + off = (t : Int)) (kt : ¬ x = y → Z E p l e R s m args below meth c Q A nL t L st ws cells slots) (kf : x = y → Z E p l e R s m args below meth c Q A nL q L st ws cells slots) : Z E p l e R s m args below meth c Q A nL pc L (.int y :: .int x :: st) ws cells slots := by
  subst hq
  intro H locs ls hP hD hS hl
  exact lv_icmp_ne C0.1 C0.2.1 hd ht (fun h => kt h H locs ls hP hD hS hl) (fun h => kf h H locs ls hP hD hS hl)
theorem z_if_ne (q t : Nat) (C0 : zC E p s m args meth c cc nL ret own Ts A) {x : Int32} {off : Int} (hd : decode cc pc = .ok (.ifCond .ne off, 3)) (hq : pc + 3 = q) (ht : (pc : Int) + off = (t : Int)) (kt : ¬ x = 0 → Z E p l e R s m args below meth c Q A nL t L st ws cells slots) (kf : x = 0 → Z E p l e R s m args below meth c Q A nL q L st ws cells slots) : Z E p l e R s m args below meth c Q A nL pc L (.int x :: st) ws cells slots := by
  subst hq
  intro H locs ls hP hD hS hl
  exact lv_if_ne C0.1 C0.2.1 hd ht (fun h => kt h H locs ls hP hD hS hl) (fun h => kf h H locs ls hP hD hS hl)
theorem z_icmp_lt (q t : Nat) (C0 : zC E p s m args meth c cc nL ret own Ts A) {x y : Int32} {off : Int} (hd : decode cc pc = .ok (.if_icmp .lt off, 3)) (hq : pc + 3 = q) (ht : (pc : Int) + off = (t : Int)) (kt : x < y → Z E p l e R s m args below meth c Q A nL t L st ws cells slots) (kf : ¬ x < y → Z E p l e R s m args below meth c Q A nL q L st ws cells slots) : Z E p l e R s m args below meth c Q A nL pc L (.int y :: .int x :: st) ws cells slots := by
  subst hq
  intro H locs ls hP hD hS hl
  exact lv_icmp_lt C0.1 C0.2.1 hd ht (fun h => kt h H locs ls hP hD hS hl) (fun h => kf h H locs ls hP hD hS hl)
theorem z_if_lt (q t : Nat) (C0 : zC E p s m args meth c cc nL ret own Ts A) {x : Int32} {off : Int} (hd : decode cc pc = .ok (.ifCond .lt off, 3)) (hq : pc + 3 = q) (ht : (pc : Int) + off = (t : Int)) (kt : x < 0 → Z E p l e R s m args below meth c Q A nL t L st ws cells slots) (kf : ¬ x < 0 → Z E p l e R s m args below meth c Q A nL q L st ws cells slots) : Z E p l e R s m args below meth c Q A nL pc L (.int x :: st) ws cells slots := by
  subst hq
  intro H locs ls hP hD hS hl
  exact lv_if_lt C0.1 C0.2.1 hd ht (fun h => kt h H locs ls hP hD hS hl) (fun h => kf h H locs ls hP hD hS hl)
theorem z_icmp_ge (q t : Nat) (C0 : zC E p s m args meth c cc nL ret own Ts A) {x y : Int32} {off : Int} (hd : decode cc pc = .ok (.if_icmp .ge off, 3)) (hq : pc + 3 = q) (ht : (pc : Int) + off = (t : Int)) (kt : y ≤ x → Z E p l e R s m args below meth c Q A nL t L st ws cells slots) (kf : ¬ y ≤ x → Z E p l e R s m args below meth c Q A nL q L st ws cells slots) : Z E p l e R s m args below meth c Q A nL pc L (.int y :: .int x :: st) ws cells slots := by
  subst hq
  intro H locs ls hP hD hS hl
  exact lv_icmp_ge C0.1 C0.2.1 hd ht (fun h => kt h H locs ls hP hD hS hl) (fun h => kf h H locs ls hP hD hS hl)
theorem z_if_ge (q t : Nat) (C0 : zC E p s m args meth c cc nL ret own Ts A) {x : Int32} {off : Int} (hd : decode cc pc = .ok (.ifCond .ge off, 3)) (hq : pc + 3 = q) (ht : (pc : Int) + off = (t : Int)) (kt : 0 ≤ x → Z E p l e R s m args below meth c Q A nL t L st ws cells slots) (kf : ¬ 0 ≤ x → Z E p l e R s m args below meth c Q A nL q L st ws cells slots) : Z E p l e R s m args below meth c Q A nL pc L (.int x :: st) ws cells slots := by
  subst hq
  intro H locs ls hP hD hS hl
  exact lv_if_ge C0.1 C0.2.1 hd ht (fun h => kt h H locs ls hP hD hS hl) (fun h => kf h H locs ls hP hD hS hl)
theorem z_icmp_gt (q t : Nat) (C0 : zC E p s m args meth c cc nL ret own Ts A) {x y : Int32} {off : Int} (hd : decode cc pc = .ok (.if_icmp .gt off, 3)) (hq : pc + 3 = q) (ht : (pc : Int) + off = (t : Int)) (kt : y < x → Z E p l e R s m args below meth c Q A nL t L st ws cells slots) (kf : ¬ y < x → Z E p l e R s m args below meth c Q A nL q L st ws cells slots) : Z E p l e R s m args below meth c Q A nL pc L (.int y :: .int x :: st) ws cells slots := by
  subst hq
  intro H locs ls hP hD hS hl
  exact lv_icmp_gt C0.1 C0.2.1 hd ht (fun h => kt h H locs ls hP hD hS hl) (fun h => kf h H locs ls hP hD hS hl)
theorem z_if_gt (q t : Nat) (C0 : zC E p s m args meth c cc nL ret own Ts A) {x : Int32} {off : Int} (hd : decode cc pc = .ok (.ifCond .gt off, 3)) (hq : pc + 3 = q) (ht : (pc : Int) + off = (t : Int)) (kt : 0 < x → Z E p l e R s m args below meth c Q A nL t L st ws cells slots) (kf : ¬ 0 < x → Z E p l e R s m args below meth c Q A nL q L st ws cells slots) : Z E p l e R s m args below meth c Q A nL pc L (.int x :: st) ws cells slots := by
  subst hq
  intro H locs ls hP hD hS hl
  exact lv_if_gt C0.1 C0.2.1 hd ht (fun h => kt h H locs ls hP hD hS hl) (fun h => kf h H locs ls hP hD hS hl)
theorem z_icmp_le (q t : Nat) (C0 : zC E p s m args meth c cc nL ret own Ts A) {x y : Int32} {off : Int} (hd : decode cc pc = .ok (.if_icmp .le off, 3)) (hq : pc + 3 = q) (ht : (pc : Int) + off = (t : Int)) (kt : x ≤ y → Z E p l e R s m args below meth c Q A nL t L st ws cells slots) (kf : ¬ x ≤ y → Z E p l e R s m args below meth c Q A nL q L st ws cells slots) : Z E p l e R s m args below meth c Q A nL pc L (.int y :: .int x :: st) ws cells slots := by
  subst hq
  intro H locs ls hP hD hS hl
  exact lv_icmp_le C0.1 C0.2.1 hd ht (fun h => kt h H locs ls hP hD hS hl) (fun h => kf h H locs ls hP hD hS hl)
theorem z_if_le (q t : Nat) (C0 : zC E p s m args meth c cc nL ret own Ts A) {x : Int32} {off : Int} (hd : decode cc pc = .ok (.ifCond .le off, 3)) (hq : pc + 3 = q) (ht : (pc : Int) + off = (t : Int)) (kt : x ≤ 0 → Z E p l e R s m args below meth c Q A nL t L st ws cells slots) (kf : ¬ x ≤ 0 → Z E p l e R s m args below meth c Q A nL q L st ws cells slots) : Z E p l e R s m args below meth c Q A nL pc L (.int x :: st) ws cells slots := by
  subst hq
  intro H locs ls hP hD hS hl
  exact lv_if_le C0.1 C0.2.1 hd ht (fun h => kt h H locs ls hP hD hS hl) (fun h => kf h H locs ls hP hD hS hl)
theorem z_icmp_eqN (q t : Nat) (C0 : zC E p s m args meth c cc nL ret own Ts A) {a b : Nat} {off : Int} (ha : a < 2 ^ 31) (hb : b < 2 ^ 31) (hd : decode cc pc = .ok (.if_icmp .eq off, 3)) (hq : pc + 3 = q) (ht : (pc : Int) + off = (t : Int)) (kt : a = b → Z E p l e R s m args below meth c Q A nL t L st ws cells slots) (kf : a ≠ b → Z E p l e R s m args below meth c Q A nL q L st ws cells slots) : Z E p l e R s m args below meth c Q A nL pc L (.int (nI b) :: .int (nI a) :: st) ws cells slots :=
  z_icmp_eq q t C0 hd hq ht (fun h => kt ((nI_eq ha hb).mp h)) (fun h => kf (fun z => h ((nI_eq ha hb).mpr z)))
theorem z_icmp_neN (q t : Nat) (C0 : zC E p s m args meth c cc nL ret own Ts A) {a b : Nat} {off : Int} (ha : a < 2 ^ 31) (hb : b < 2 ^ 31) (hd : decode cc pc = .ok (.if_icmp .ne off, 3)) (hq : pc + 3 = q) (ht : (pc : Int) + off = (t : Int)) (kt : a ≠ b → Z E p l e R s m args below meth c Q A nL t L st ws cells slots) (kf : a = b → Z E p l e R s m args below meth c Q A nL q L st ws cells slots) : Z E p l e R s m args below meth c Q A nL pc L (.int (nI b) :: .int (nI a) :: st) ws cells slots :=
  z_icmp_ne q t C0 hd hq ht (fun h => kt (fun z => h ((nI_eq ha hb).mpr z))) (fun h => kf ((nI_eq ha hb).mp h))
theorem z_icmp_ltN (q t : Nat) (C0 : zC E p s m args meth c cc nL ret own Ts A) {a b : Nat} {off : Int} (ha : a < 2 ^ 31) (hb : b < 2 ^ 31) (hd : decode cc pc = .ok (.if_icmp .lt off, 3)) (hq : pc + 3 = q) (ht : (pc : Int) + off = (t : Int)) (kt : a < b → Z E p l e R s m args below meth c Q A nL t L st ws cells slots) (kf : b ≤ a → Z E p l e R s m args below meth c Q A nL q L st ws cells slots) : Z E p l e R s m args below meth c Q A nL pc L (.int (nI b) :: .int (nI a) :: st) ws cells slots :=
  z_icmp_lt q t C0 hd hq ht (fun h => kt ((nI_ltI ha hb).mp h)) (fun h => kf (Nat.not_lt.mp fun z => h ((nI_ltI ha hb).mpr z)))
theorem z_icmp_geN (q t : Nat) (C0 : zC E p s m args meth c cc nL ret own Ts A) {a b : Nat} {off : Int} (ha : a < 2 ^ 31) (hb : b < 2 ^ 31) (hd : decode cc pc = .ok (.if_icmp .ge off, 3)) (hq : pc + 3 = q) (ht : (pc : Int) + off = (t : Int)) (kt : b ≤ a → Z E p l e R s m args below meth c Q A nL t L st ws cells slots) (kf : a < b → Z E p l e R s m args below meth c Q A nL q L st ws cells slots) : Z E p l e R s m args below meth c Q A nL pc L (.int (nI b) :: .int (nI a) :: st) ws cells slots :=
  z_icmp_ge q t C0 hd hq ht (fun h => kt ((nI_leI hb ha).mp h)) (fun h => kf (Nat.not_le.mp fun z => h ((nI_leI hb ha).mpr z)))
theorem z_icmp_gtN (q t : Nat) (C0 : zC E p s m args meth c cc nL ret own Ts A) {a b : Nat} {off : Int} (ha : a < 2 ^ 31) (hb : b < 2 ^ 31) (hd : decode cc pc = .ok (.if_icmp .gt off, 3)) (hq : pc + 3 = q) (ht : (pc : Int) + off = (t : Int)) (kt : b < a → Z E p l e R s m args below meth c Q A nL t L st ws cells slots) (kf : a ≤ b → Z E p l e R s m args below meth c Q A nL q L st ws cells slots) : Z E p l e R s m args below meth c Q A nL pc L (.int (nI b) :: .int (nI a) :: st) ws cells slots :=
  z_icmp_gt q t C0 hd hq ht (fun h => kt ((nI_ltI hb ha).mp h)) (fun h => kf (Nat.not_lt.mp fun z => h ((nI_ltI hb ha).mpr z)))
theorem z_icmp_leN (q t : Nat) (C0 : zC E p s m args meth c cc nL ret own Ts A) {a b : Nat} {off : Int} (ha : a < 2 ^ 31) (hb : b < 2 ^ 31) (hd : decode cc pc = .ok (.if_icmp .le off, 3)) (hq : pc + 3 = q) (ht : (pc : Int) + off = (t : Int)) (kt : a ≤ b → Z E p l e R s m args below meth c Q A nL t L st ws cells slots) (kf : b < a → Z E p l e R s m args below meth c Q A nL q L st ws cells slots) : Z E p l e R s m args below meth c Q A nL pc L (.int (nI b) :: .int (nI a) :: st) ws cells slots :=
  z_icmp_le q t C0 hd hq ht (fun h => kt ((nI_leI ha hb).mp h)) (fun h => kf (Nat.not_le.mp fun z => h ((nI_leI ha hb).mpr z)))
theorem z_if_eqN (q t : Nat) (C0 : zC E p s m args meth c cc nL ret own Ts A) {a : Nat} {off : Int} (ha : a < 2 ^ 31) (hd : decode cc pc = .ok (.ifCond .eq off, 3)) (hq : pc + 3 = q) (ht : (pc : Int) + off = (t : Int)) (kt : a = 0 → Z E p l e R s m args below meth c Q A nL t L st ws cells slots) (kf : a ≠ 0 → Z E p l e R s m args below meth c Q A nL q L st ws cells slots) : Z E p l e R s m args below meth c Q A nL pc L (.int (nI a) :: st) ws cells slots :=
  z_if_eq q t C0 hd hq ht (fun h => kt ((nI_eq ha (Nat.le_of_ble_eq_true rfl)).mp (h.trans nI_0.symm))) (fun h => kf (fun z => h (by rw [z]; exact nI_0)))
theorem z_if_neN (q t : Nat) (C0 : zC E p s m args meth c cc nL ret own Ts A) {a : Nat} {off : Int} (ha : a < 2 ^ 31) (hd : decode cc pc = .ok (.ifCond .ne off, 3)) (hq : pc + 3 = q) (ht : (pc : Int) + off = (t : Int)) (kt : a ≠ 0 → Z E p l e R s m args below meth c Q A nL t L st ws cells slots) (kf : a = 0 → Z E p l e R s m args below meth c Q A nL q L st ws cells slots) : Z E p l e R s m args below meth c Q A nL pc L (.int (nI a) :: st) ws cells slots :=
  z_if_ne q t C0 hd hq ht (fun h => kt (fun z => h (by rw [z]; exact nI_0))) (fun h => kf ((nI_eq ha (Nat.le_of_ble_eq_true rfl)).mp (h.trans nI_0.symm)))
theorem z_if_ltN (q : Nat) (C0 : zC E p s m args meth c cc nL ret own Ts A) {a : Nat} {off : Int} (t : Nat) (ha : a < 2 ^ 31) (hd : decode cc pc = .ok (.ifCond .lt off, 3)) (hq : pc + 3 = q) (ht : (pc : Int) + off = (t : Int)) (kf : Z E p l e R s m args below meth c Q A nL q L st ws cells slots) : Z E p l e R s m args below meth c Q A nL pc L (.int (nI a) :: st) ws cells slots :=
  z_if_lt q t C0 hd hq ht (fun h => absurd h (nI_pos ha)) (fun _ => kf)
theorem z_if_geN (t : Nat) (C0 : zC E p s m args meth c cc nL ret own Ts A) {a : Nat} {off : Int} (q : Nat) (ha : a < 2 ^ 31) (hd : decode cc pc = .ok (.ifCond .ge off, 3)) (hq : pc + 3 = q) (ht : (pc : Int) + off = (t : Int)) (kt : Z E p l e R s m args below meth c Q A nL t L st ws cells slots) : Z E p l e R s m args below meth c Q A nL pc L (.int (nI a) :: st) ws cells slots :=
  z_if_ge q t C0 hd hq ht (fun _ => kt) (fun h => absurd (nI_pos' ha) h)
theorem z_if_leN (q t : Nat) (C0 : zC E p s m args meth c cc nL ret own Ts A) {a : Nat} {off : Int} (ha : a < 2 ^ 31) (hd : decode cc pc = .ok (.ifCond .le off, 3)) (hq : pc + 3 = q) (ht : (pc : Int) + off = (t : Int)) (kt : a = 0 → Z E p l e R s m args below meth c Q A nL t L st ws cells slots) (kf : 0 < a → Z E p l e R s m args below meth c Q A nL q L st ws cells slots) : Z E p l e R s m args below meth c Q A nL pc L (.int (nI a) :: st) ws cells slots :=
  z_if_le q t C0 hd hq ht (fun h => kt (Nat.eq_zero_of_not_pos fun z => nI_nle z ha h)) (fun h => kf (Nat.pos_of_ne_zero fun z => h (by rw [z]; decide)))
theorem z_if_gtN (q t : Nat) (C0 : zC E p s m args meth c cc nL ret own Ts A) {a : Nat} {off : Int} (ha : a < 2 ^ 31) (hd : decode cc pc = .ok (.ifCond .gt off, 3)) (hq : pc + 3 = q) (ht : (pc : Int) + off = (t : Int)) (kt : 0 < a → Z E p l e R s m args below meth c Q A nL t L st ws cells slots) (kf : a = 0 → Z E p l e R s m args below meth c Q A nL q L st ws cells slots) : Z E p l e R s m args below meth c Q A nL pc L (.int (nI a) :: st) ws cells slots :=
  z_if_gt q t C0 hd hq ht (fun h => kt (Nat.pos_of_ne_zero fun z => absurd h (by rw [z]; decide))) (fun h => kf (Nat.eq_zero_of_not_pos fun z => h (by rw [Int32.lt_iff_toInt_lt, nI_toInt ha, Int32.toInt_zero]; omega)))
theorem z_switch (t : Nat) (C0 : zC E p s m args meth c cc nL ret own Ts A) {dflt lo hi : Int} {offs : Array Int} {len : Nat} {x : Int32} {off : Int} (hd : decode cc pc = .ok (.tableswitch dflt lo hi offs, len)) (h1 : ¬ x.toInt < lo) (h2 : ¬ hi < x.toInt) (ho : offs[(x.toInt - lo).toNat]? = some off) (ht : (pc : Int) + off = (t : Int)) (k : Z E p l e R s m args below meth c Q A nL t L st ws cells slots) : Z E p l e R s m args below meth c Q A nL pc L (.int x :: st) ws cells slots := fun H locs ls hP hD hS hl => lv_tableIn C0.1 C0.2.1 hd h1 h2 ho ht (k H locs ls hP hD hS hl)
theorem z_switchO (t : Nat) (C0 : zC E p s m args meth c cc nL ret own Ts A) {dflt lo hi : Int} {offs : Array Int} {len : Nat} {x : Int32} (hd : decode cc pc = .ok (.tableswitch dflt lo hi offs, len)) (h : x.toInt < lo ∨ hi < x.toInt) (ht : (pc : Int) + dflt = (t : Int)) (k : Z E p l e R s m args below meth c Q A nL t L st ws cells slots) : Z E p l e R s m args below meth c Q A nL pc L (.int x :: st) ws cells slots := fun H locs ls hP hD hS hl => lv_tableOut C0.1 C0.2.1 hd h ht (k H locs ls hP hD hS hl)
theorem z_iald (q : Nat) (C0 : zC E p s m args meth c cc nL ret own Ts A) (q0 : Nat) {a n : Nat} {f : Nat → Int32} {i v : Int32} (hd : decode cc pc = .ok (.iaload, 1)) (hq : pc + 1 = q) (ha : ws[q0]? = some (a, zi E n f)) (hin : vp_in i n) (hv : f i.toNatClampNeg = v) (k : Z E p l e R s m args below meth c Q A nL q L (.int v :: st) ws cells slots) : Z E p l e R s m args below meth c Q A nL pc L (.int i :: .ref a :: st) ws cells slots := by
  subst hq
  intro H locs ls hP hD hS hl
  have hx := C0.1
  have hb := C0.2.1
  subst hv
  exact va_iald hx hb C0.2.2.2.2.2.2.2.1 hP q0 0 ha rfl hin hd (k H locs ls hP hD hS hl)
theorem z_ialdN (q : Nat) (C0 : zC E p s m args meth c cc nL ret own Ts A) (q0 : Nat) {a n j : Nat} {f : Nat → Int32} {v : Int32} (hd : decode cc pc = .ok (.iaload, 1)) (hq : pc + 1 = q) (ha : ws[q0]? = some (a, zi E n f)) (hj : j < n) (hn : n < 2 ^ 31) (hv : f j = v) (k : Z E p l e R s m args below meth c Q A nL q L (.int v :: st) ws cells slots) : Z E p l e R s m args below meth c Q A nL pc L (.int (nI j) :: .ref a :: st) ws cells slots :=
  z_iald q C0 q0 hd hq ha (vp_in_nI hj hn) (by rw [nI_clamp (Nat.lt_trans hj hn)]; exact hv) k
theorem z_iast (q : Nat) (C0 : zC E p s m args meth c cc nL ret own Ts A) (q0 : Nat) (w1 : va_W) {a n : Nat} {f : Nat → Int32} {i x : Int32} (hd : decode cc pc = .ok (.iastore, 1)) (hq : pc + 1 = q) (ha : ws[q0]? = some (a, zi E n f)) (hin : vp_in i n) (hw : ws.set q0 (a, zi E n (upd f i.toNatClampNeg x)) = w1) (k : Z E p l e R s m args below meth c Q A nL q L st w1 cells slots) : Z E p l e R s m args below meth c Q A nL pc L (.int x :: .int i :: .ref a :: st) ws cells slots := by
  subst hq
  intro H locs ls hP hD hS hl
  have hx := C0.1
  have hb := C0.2.1
  subst hw
  exact va_iast hx hb C0.2.2.2.2.2.2.2.1 hP hD hS q0 0 ha rfl hin hd (fun H1 locs1 hP1 hD1 hS1 => k H1 locs1 ls hP1 hD1 hS1 hl)
theorem z_iastN (q : Nat) (C0 : zC E p s m args meth c cc nL ret own Ts A) (q0 : Nat) (w1 : va_W) {a n j : Nat} {f : Nat → Int32} {x : Int32} (hd : decode cc pc = .ok (.iastore, 1)) (hq : pc + 1 = q) (ha : ws[q0]? = some (a, zi E n f)) (hj : j < n) (hn : n < 2 ^ 31) (hw : ws.set q0 (a, zi E n (upd f j x)) = w1) (k : Z E p l e R s m args below meth c Q A nL q L st w1 cells slots) : Z E p l e R s m args below meth c Q A nL pc L (.int x :: .int (nI j) :: .ref a :: st) ws cells slots :=
  z_iast q C0 q0 w1 hd hq ha (vp_in_nI hj hn) (by rw [nI_clamp (Nat.lt_trans hj hn)]; exact hw) k
theorem z_alen (q : Nat) (C0 : zC E p s m args meth c cc nL ret own Ts A) (q0 : Nat) {a n : Nat} {f : Nat → Int32} (hd : decode cc pc = .ok (.arraylength, 1)) (hq : pc + 1 = q) (ha : ws[q0]? = some (a, zi E n f)) (k : Z E p l e R s m args below meth c Q A nL q L (.int (nI n) :: st) ws cells slots) : Z E p l e R s m args below meth c Q A nL pc L (.ref a :: st) ws cells slots := by
  subst hq
  intro H locs ls hP hD hS hl
  have hx := C0.1
  have hb := C0.2.1
  exact va_alen hx hb C0.2.2.2.2.2.2.2.1 hP q0 0 ha rfl (rfl : Int32.ofNat n = nI n) hd (k H locs ls hP hD hS hl)
theorem z_aald (q : Nat) (C0 : zC E p s m args meth c cc nL ret own Ts A) (q0 t0 : Nat) {a n j : Nat} {cA : ClassId} {ty : FieldType} {f : Nat → Option Nat} {v : Value} (hd : decode cc pc = .ok (.aaload, 1)) (hq : pc + 1 = q) (ha : ws[q0]? = some (a, .inl (cA, n, .inr (.inr (.inr (.inr f)))))) (ht : (zT E)[t0]? = some (cA, ty)) (hty : ty.isReference = true) (hj : j < n) (hn : n < 2 ^ 31) (hv : va_rf (f j) = v) (k : Z E p l e R s m args below meth c Q A nL q L (v :: st) ws cells slots) : Z E p l e R s m args below meth c Q A nL pc L (.int (nI j) :: .ref a :: st) ws cells slots := by
  subst hq
  intro H locs ls hP hD hS hl
  have hx := C0.1
  have hb := C0.2.1
  subst hv
  exact W.aald (v := va_rf (f j)) (ty := ty) hx hb (hP q0 _ ha) ((C0.2.2.2.2.2.2.2.1.2 t0 _ ht).1 n (fun j => va_rf (f j))) hty (fun q => by cases q) (by show ¬ (nI j < 0 ∨ (arrV _ _ _).slots.size ≤ _); rw [arrV_size]; exact vp_in_nI hj hn) (by show (arrV _ _ _).slots[_]? = _; rw [nI_clamp (Nat.lt_trans hj hn)]; rw [arrV_read _ _ hj]) rfl rfl hd (k H locs ls hP hD hS hl)
theorem z_get (q : Nat) (C0 : zC E p s m args meth c cc nL ret own Ts A) (q0 j : Nat) {a ci N i : Nat} {C : String} {T : u_T} {fs : List Value} {v : Value} (hin : ∀ w ∈ u_ws C T N, w ∈ Ts) (hc : vwCl[ci]? = some (C, T, N)) (hk : j < N) (hw : Cond.fieldLink own i (T j).1 (T j).2.1 (T j).2.2.1 ∈ Ts) (hd : decode cc pc = .ok (.getfield i, 3)) (hq : pc + 3 = q) (ha : ws[q0]? = some (a, zo ci fs)) (hv : fs[j]? = some v) (k : Z E p l e R s m args below meth c Q A nL q L (v :: st) ws cells slots) : Z E p l e R s m args below meth c Q A nL pc L (.ref a :: st) ws cells slots := by
  subst hq
  intro H locs ls hP hD hS hl
  have hx := C0.1
  have hb := C0.2.1
  exact va_get hx hb C0.2.2.2.2.2.1 hin C0.2.2.2.2.1 C0.2.2.2.2.2.2.2.1 hP q0 ha hc j hk (C0.2.2.2.2.2.1 _ hw) (fun _ h => h) hv hd (k H locs ls hP hD hS hl)
theorem z_put (q : Nat) (C0 : zC E p s m args meth c cc nL ret own Ts A) (q0 j : Nat) (w1 : va_W) {a ci N i : Nat} {C : String} {T : u_T} {fs : List Value} {v : Value} {ty : FieldType} (hin : ∀ w ∈ u_ws C T N, w ∈ Ts) (hc : vwCl[ci]? = some (C, T, N)) (hk : j < N) (hw : Cond.fieldLink own i (T j).1 (T j).2.1 (T j).2.2.1 ∈ Ts) (ty0 : Nat → FieldType) (hty : ∀ k, k < N → parseFieldDescriptor (T k).2.2.1 = some (ty0 k)) (hnm : ∀ a, a < N → ∀ b, b < N → a ≠ b → (T a).2.1 ≠ (T b).2.1) (hfin : (T j).2.2.2 = false) (hdd : parseFieldDescriptor (T j).2.2.1 = some ty) (hn : narrow ty v = v) (hfit : fits ty v = true) (hd : decode cc pc = .ok (.putfield i, 3)) (hq : pc + 3 = q) (ha : ws[q0]? = some (a, zo ci fs)) (hlen : j < fs.length) (hws : ws.set q0 (a, zo ci (fs.set j v)) = w1) (k : Z E p l e R s m args below meth c Q A nL q L st w1 cells slots) : Z E p l e R s m args below meth c Q A nL pc L (v :: .ref a :: st) ws cells slots := by
  subst hq
  intro H locs ls hP hD hS hl
  have hx := C0.1
  have hb := C0.2.1
  subst hws
  exact va_put hx hb C0.2.2.2.2.2.1 hin ty0 hty hnm C0.2.2.2.2.1 C0.2.2.2.2.2.2.2.1 hP hD hS q0 ha hc j hk (C0.2.2.2.2.2.1 _ hw) (fun _ h => h) hfin hdd hn hfit hlen hd (fun H1 locs1 hP1 hD1 hS1 => k H1 locs1 ls hP1 hD1 hS1 hl)
theorem z_putF (q : Nat) (C0 : zC E p s m args meth c cc nL ret own Ts A) (q0 j : Nat) (w1 : va_W) {a ci N i : Nat} {C : String} {T : u_T} {fs : List Value} {v : Value} {ty : FieldType} (hin : ∀ w ∈ u_ws C T N, w ∈ Ts) (hc : vwCl[ci]? = some (C, T, N)) (hk : j < N) (hw : Cond.fieldLink own i (T j).1 (T j).2.1 (T j).2.2.1 ∈ Ts) (ty0 : Nat → FieldType) (hty : ∀ k, k < N → parseFieldDescriptor (T k).2.2.1 = some (ty0 k)) (hnm : ∀ a, a < N → ∀ b, b < N → a ≠ b → (T a).2.1 ≠ (T b).2.1) (hfin : (T j).2.2.2 = true) (hin2 : meth.name = "<init>") (hdecl : (T j).1 = own) (hdd : parseFieldDescriptor (T j).2.2.1 = some ty) (hn : narrow ty v = v) (hfit : fits ty v = true) (hd : decode cc pc = .ok (.putfield i, 3)) (hq : pc + 3 = q) (ha : ws[q0]? = some (a, zo ci fs)) (hlen : j < fs.length) (hws : ws.set q0 (a, zo ci (fs.set j v)) = w1) (k : Z E p l e R s m args below meth c Q A nL q L st w1 cells slots) : Z E p l e R s m args below meth c Q A nL pc L (v :: .ref a :: st) ws cells slots := by
  subst hq
  intro H locs ls hP hD hS hl
  have hx := C0.1
  have hb := C0.2.1
  subst hws
  exact va_putF hx hb C0.2.2.2.2.2.1 hin ty0 hty hnm C0.2.2.2.2.1 C0.2.2.2.2.2.2.2.1 hP hD hS q0 ha hc j hk (C0.2.2.2.2.2.1 _ hw) (fun _ h => h) hfin hin2 hdecl hdd hn hfit hlen hd (fun H1 locs1 hP1 hD1 hS1 => k H1 locs1 ls hP1 hD1 hS1 hl)
theorem z_getsN (q : Nat) (C0 : zC E p s m args meth c cc nL ret own Ts A) {i : Nat} (hw : Cond.fieldLink own i "GrindField$Checker" "NEEDED" "[I" ∈ Ts) (hd : decode cc pc = .ok (.getstatic i, 3)) (hq : pc + 3 = q) (k : Z E p l e R s m args below meth c Q A nL q L (.ref (ztN E) :: st) ws cells slots) : Z E p l e R s m args below meth c Q A nL pc L st ws cells slots := by
  subst hq
  intro H locs ls hP hD hS hl
  have hx := C0.1
  have hb := C0.2.1
  exact va_gets hx hb C0.2.2.2.2.2.2.2.2.2.2.1.1 hS C0.2.2.2.2.1 (C0.2.2.2.2.2.1 _ hw) (fun _ h => h) hd (k H locs ls hP hD hS hl)
theorem z_tabN (q : Nat) (C0 : zC E p s m args meth c cc nL ret own Ts A) {j : Nat} {v : Int32} (hd : decode cc pc = .ok (.iaload, 1)) (hq : pc + 1 = q) (hj : j < 19) (hv : zNeed j = v) (k : Z E p l e R s m args below meth c Q A nL q L (.int v :: st) ws cells slots) : Z E p l e R s m args below meth c Q A nL pc L (.int (nI j) :: .ref (ztN E) :: st) ws cells slots := by
  subst hq
  intro H locs ls hP hD hS hl
  have hx := C0.1
  have hb := C0.2.1
  subst hv
  exact va_ti hx hb C0.2.2.2.2.2.2.2.2.2.2.1.2 hS (vp_in_nI hj (by omega)) (by rw [nI_clamp (by omega)]) hd (k H locs ls hP hD hS hl)
theorem z_getsG (q : Nat) (C0 : zC E p s m args meth c cc nL ret own Ts A) {i : Nat} (hw : Cond.fieldLink own i "GrindField$Checker" "GROWTH" "[I" ∈ Ts) (hd : decode cc pc = .ok (.getstatic i, 3)) (hq : pc + 3 = q) (k : Z E p l e R s m args below meth c Q A nL q L (.ref (ztG E) :: st) ws cells slots) : Z E p l e R s m args below meth c Q A nL pc L st ws cells slots := by
  subst hq
  intro H locs ls hP hD hS hl
  have hx := C0.1
  have hb := C0.2.1
  exact va_gets hx hb C0.2.2.2.2.2.2.2.2.2.2.2.1.1 hS C0.2.2.2.2.1 (C0.2.2.2.2.2.1 _ hw) (fun _ h => h) hd (k H locs ls hP hD hS hl)
theorem z_tabG (q : Nat) (C0 : zC E p s m args meth c cc nL ret own Ts A) {j : Nat} {v : Int32} (hd : decode cc pc = .ok (.iaload, 1)) (hq : pc + 1 = q) (hj : j < 19) (hv : zGrow j = v) (k : Z E p l e R s m args below meth c Q A nL q L (.int v :: st) ws cells slots) : Z E p l e R s m args below meth c Q A nL pc L (.int (nI j) :: .ref (ztG E) :: st) ws cells slots := by
  subst hq
  intro H locs ls hP hD hS hl
  have hx := C0.1
  have hb := C0.2.1
  subst hv
  exact va_ti hx hb C0.2.2.2.2.2.2.2.2.2.2.2.1.2 hS (vp_in_nI hj (by omega)) (by rw [nI_clamp (by omega)]) hd (k H locs ls hP hD hS hl)
theorem z_getsA (q : Nat) (C0 : zC E p s m args meth c cc nL ret own Ts A) {i : Nat} (hw : Cond.fieldLink own i "GrindFieldModel" "ARGUMENTS" "[I" ∈ Ts) (hd : decode cc pc = .ok (.getstatic i, 3)) (hq : pc + 3 = q) (k : Z E p l e R s m args below meth c Q A nL q L (.ref (ztA E) :: st) ws cells slots) : Z E p l e R s m args below meth c Q A nL pc L st ws cells slots := by
  subst hq
  intro H locs ls hP hD hS hl
  have hx := C0.1
  have hb := C0.2.1
  exact va_gets hx hb C0.2.2.2.2.2.2.2.2.2.2.2.2.1 hS C0.2.2.2.2.1 (C0.2.2.2.2.2.1 _ hw) (fun _ h => h) hd (k H locs ls hP hD hS hl)
theorem z_tabA (q : Nat) (C0 : zC E p s m args meth c cc nL ret own Ts A) {j : Nat} {v : Int32} (hd : decode cc pc = .ok (.iaload, 1)) (hq : pc + 1 = q) (hj : j < 4) (hv : zArgs j = v) (k : Z E p l e R s m args below meth c Q A nL q L (.int v :: st) ws cells slots) : Z E p l e R s m args below meth c Q A nL pc L (.int (nI j) :: .ref (ztA E) :: st) ws cells slots := by
  subst hq
  intro H locs ls hP hD hS hl
  have hx := C0.1
  have hb := C0.2.1
  subst hv
  exact va_ti hx hb C0.2.2.2.2.2.2.2.2.2.2.2.2.2 hS (vp_in_nI hj (by omega)) (by rw [nI_clamp (by omega)]) hd (k H locs ls hP hD hS hl)
theorem z_iret (C0 : zC E p s m args meth c cc nL ret own Ts A) {B : Int32 → va_W → Prop} {mc ms : Nat} {v : Int32} (hret : ret = some .int) (hd : decode cc pc = .ok (.ireturn, 1)) (hB : B v ws) (hc : cells ≤ mc) (hs : slots ≤ ms) : Z E p l e R s m args below meth c (MQ below (va_Qi B (zPost E A) A) args s mc ms A) A nL pc L [.int v] ws cells slots := by
  intro H locs ls hP hD hS hl
  refine W.widen hc hs ?_
  exact W.iret C0.1 C0.2.1 (C0.2.2.1.trans hret) (fun t ht hW => ⟨⟨v, ws, rfl, hB, by rw [ht]; exact hP, va_K.moved hW.alike C0.2.2.2.2.2.2.2.1, hD⟩, hS.F ht⟩) hS.2.2 hd C0.2.2.2.2.2.2.1
theorem z_zret (C0 : zC E p s m args meth c cc nL ret own Ts A) {B : Int32 → va_W → Prop} {mc ms : Nat} {v : Int32} (hret : ret = some .boolean) (hn : narrow .boolean (.int v) = .int v) (hd : decode cc pc = .ok (.ireturn, 1)) (hB : B v ws) (hc : cells ≤ mc) (hs : slots ≤ ms) : Z E p l e R s m args below meth c (MQ below (va_Qi B (zPost E A) A) args s mc ms A) A nL pc L [.int v] ws cells slots := by
  intro H locs ls hP hD hS hl
  refine W.widen hc hs ?_
  exact W.zret C0.1 C0.2.1 (C0.2.2.1.trans hret) hn (fun t ht hW => ⟨⟨v, ws, rfl, hB, by rw [ht]; exact hP, va_K.moved hW.alike C0.2.2.2.2.2.2.2.1, hD⟩, hS.F ht⟩) hS.2.2 hd C0.2.2.2.2.2.2.1
theorem z_lret (C0 : zC E p s m args meth c cc nL ret own Ts A) {B : Int64 → va_W → Prop} {mc ms : Nat} {v : Int64} (hret : ret = some .long) (hd : decode cc pc = .ok (.lreturn, 1)) (hB : B v ws) (hc : cells ≤ mc) (hs : slots ≤ ms) : Z E p l e R s m args below meth c (MQ below (va_Ql B (zPost E A) A) args s mc ms A) A nL pc L [.long v] ws cells slots := by
  intro H locs ls hP hD hS hl
  refine W.widen hc hs ?_
  exact W.lret C0.1 C0.2.1 (C0.2.2.1.trans hret) (fun t ht hW => ⟨⟨v, ws, rfl, hB, by rw [ht]; exact hP, va_K.moved hW.alike C0.2.2.2.2.2.2.2.1, hD⟩, hS.F ht⟩) hS.2.2 hd C0.2.2.2.2.2.2.1
theorem z_vret (C0 : zC E p s m args meth c cc nL ret own Ts A) {B : va_W → Prop} {mc ms : Nat} (hret : ret = none) (hd : decode cc pc = .ok (.return_, 1)) (hB : B ws) (hc : cells ≤ mc) (hs : slots ≤ ms) : Z E p l e R s m args below meth c (MQ below (va_Qv B (zPost E A) A) args s mc ms A) A nL pc L [] ws cells slots := by
  intro H locs ls hP hD hS hl
  refine W.widen hc hs ?_
  exact W.vret C0.1 C0.2.1 (C0.2.2.1.trans hret) (fun t ht hW => ⟨⟨ws, rfl, hB, by rw [ht]; exact hP, va_K.moved hW.alike C0.2.2.2.2.2.2.2.1, hD⟩, hS.F ht⟩) hS.2.2 hd C0.2.2.2.2.2.2.1
theorem z_nd {a b : List Nat} (h : va_nd (a ++ b) = true) : va_nd a = true ∧ va_nd b = true ∧ ∀ i ∈ b, i ∉ a := by
  induction a with
  | nil => exact ⟨rfl, h, fun i _ h => by cases h⟩
  | cons x a ih =>
    simp only [List.cons_append, va_nd, Bool.and_eq_true, decide_eq_true_eq] at h
    obtain ⟨h1, h2⟩ := h
    obtain ⟨i1, i2, i3⟩ := ih h2
    refine ⟨by simp only [va_nd, Bool.and_eq_true, decide_eq_true_eq]; exact ⟨fun q => h1 (List.mem_append_left _ q), i1⟩, i2, fun i hi hq => ?_⟩
    rcases List.mem_cons.mp hq with rfl | hq
    · exact h1 (List.mem_append_right _ hi)
    · exact i3 i hi hq
theorem z_sub : ∀ {is : List Nat} {ws v1 : va_W}, is.map (fun i => ws[i]?) = v1.map some → is.filterMap (fun i => ws[i]?) = v1
  | [], _, [], _ => rfl
  | [], _, x :: xs, h => by simp at h
  | j :: js, _, [], h => by simp at h
  | j :: js, ws, x :: xs, h => by
    simp only [List.map_cons, List.cons.injEq] at h
    rw [List.filterMap_cons, h.1]
    simp only [z_sub h.2]
/-- the picture in other words -/
theorem z_eq {L1 : List (Nat × Value)} {st1 : List Value} {w1 : va_W} (hL : L = L1) (hs : st = st1) (hw : ws = w1) (k : Z E p l e R s m args below meth c Q A nL pc L1 st1 w1 cells slots) : Z E p l e R s m args below meth c Q A nL pc L st ws cells slots := by
  subst hL; subst hs; subst hw; exact k
theorem z_eqs {st1 : List Value} (hs : st = st1) (k : Z E p l e R s m args below meth c Q A nL pc L st1 ws cells slots) : Z E p l e R s m args below meth c Q A nL pc L st ws cells slots := by
  subst hs; exact k
theorem z_eqw {w1 : va_W} (hw : ws = w1) (k : Z E p l e R s m args below meth c Q A nL pc L st w1 cells slots) : Z E p l e R s m args below meth c Q A nL pc L st ws cells slots := by
  subst hw; exact k
theorem z_eqL {L1 : List (Nat × Value)} (hL : L = L1) (k : Z E p l e R s m args below meth c Q A nL pc L1 st ws cells slots) : Z E p l e R s m args below meth c Q A nL pc L st ws cells slots := by
  subst hL; exact k
/-- locals in another order, or fewer -/
theorem z_loc (ks : List Nat) (L1 : List (Nat × Value)) (hL : lv_pick L ks = L1) (k : Z E p l e R s m args below meth c Q A nL pc L1 st ws cells slots) : Z E p l e R s m args below meth c Q A nL pc L st ws cells slots :=
  fun H locs ls hP hD hS hl => k H locs ls hP hD hS (lv_sub hl ks hL)
/-- cells in another order, or fewer -/
theorem z_perm (is : List Nat) (w1 : va_W) (hn : va_nd is = true) (h : is.map (fun i => ws[i]?) = w1.map some) (k : Z E p l e R s m args below meth c Q A nL pc L st w1 cells slots) : Z E p l e R s m args below meth c Q A nL pc L st ws cells slots :=
  fun H locs ls hP hD hS hl => k H locs ls (hP.sub is (z_sub h)) (hD.sub is hn h) hS hl
theorem z_widen {k1 n1 : Nat} (h1 : cells ≤ k1) (h2 : slots ≤ n1) (k : Z E p l e R s m args below meth c Q A nL pc L st ws k1 n1) : Z E p l e R s m args below meth c Q A nL pc L st ws cells slots :=
  fun H locs ls hP hD hS hl => W.widen h1 h2 (k H locs ls hP hD hS hl)
theorem z_callVi (q : Nat) (C0 : zC E p s m args meth c cc nL ret own Ts A) (isC isR : List Nat) (wr : va_W) (cells1 slots1 : Nat) {y : MethodName} {wsY ws2 : List Cond} {rm : Room} {wc : va_W} {mc ms : Nat} {bytes : ByteArray} {maxL i : Nat} {st0 : List Value} {C : String} {T : u_T} {N ci b n : Nat} (qr : Nat) {fs : List Value} {As : List Value} {rt : Option FieldType} {B : Int32 → va_W → Prop} (hM : zMi l E y wsY rm (.ref b :: As) wc B mc ms) (hT : GoodIn Ts (wsV own i C y wsY)) (hw : wsY = Cond.code y bytes maxL rt :: ws2) (hdy : y.cls = C ∧ y.cls ≠ "java/lang/invoke/MethodHandle" ∧ y.cls ≠ "java/lang/invoke/VarHandle" ∧ (parseMethodDescriptor y.desc).map (fun d => d.parameters.length) = some n) (hr : wc[qr]? = some (b, zo ci fs)) (hcl : vwCl[ci]? = some (C, T, N)) (hC : isC.map (fun i => ws[i]?) = wc.map some) (hR : isR.map (fun i => ws[i]?) = wr.map some) (hnd : va_nd (isC ++ isR) = true)
    (hstk : st0 = As.reverse ++ .ref b :: st) (hn : As.length = n) (hrm : (st.map fun v => v.category).sum ≤ 8) (hRm : rm.frames + 1 ≤ R.frames ∧ 8 + (maxL + 11) + rm.locals ≤ R.locals) (hrc : rm.cells = mc) (hrs : rm.slots = ms) (hf : cells + mc ≤ R.cells ∧ slots + ms ≤ R.slots) (hc1 : cells + mc ≤ cells1 ∧ slots + ms ≤ slots1) (hd : decode cc pc = .ok (.invokevirtual i, 3)) (hq : pc + 3 = q) (k : ∀ (r : Int32) (w1 : va_W), B r w1 → Z E p l e R s m args below meth c Q A nL q L (.int r :: st) (wr ++ w1) cells1 slots1) : Z E p l e R s m args below meth c Q A nL pc L st0 ws cells slots := by
  subst hq
  intro H locs ls hP hD hS hl
  have hx := C0.1
  have hb := C0.2.1
  obtain ⟨hn1, hn2, hdis⟩ := z_nd hnd
  have hPc := hP.sub (ws' := wc) isC (z_sub hC)
  have hDc := hD.sub (ws' := wc) isC hn1 hC
  have hFc := va_free (wc := wc) hD hS C0.2.2.2.2.2.2.2.2.1 isC hC
  refine va_calli (va_runV (As := As) (rest := st) (b := b) ⟨hx, hb, C0.2.2.2.1, C0.2.2.2.2.1, C0.2.2.2.2.2.1⟩ (hM H.size) (cwV n C0.2.2.2.2.2.1 hT hw hrc hrs hdy hRm) ⟨zPre.blind, va_recv C0.2.2.2.2.2.2.2.1 hPc hcl hr, fun U hU hW => zPre.at hPc C0.2.2.2.2.2.2.2.1 (hDc.weaken (fun _ _ _ _ => trivial)) C0.2.2.2.2.2.2.2.2.2 hS hFc hU hW⟩ rfl hn (hl.1) hstk (lv_room hrm) hd hf) hS (fun q _ h => hFc q h) hFc (fun r u t H1 locs1 ht hvm hw1 hB hz1 hk1 hS1 => ?_)
  obtain ⟨hP1, hK1, hD1⟩ := hB
  rw [ht] at hP1
  obtain ⟨hP2, hD2⟩ := va_join hP hD isC isR hC hR hn2 hdis hk1 hFc hP1 hD1
  exact W.widen hc1.1 hc1.2 (k r u hw1 H1 locs1 ls hP2 hD2 hS1 hl)
theorem z_callVl (q : Nat) (C0 : zC E p s m args meth c cc nL ret own Ts A) (isC isR : List Nat) (wr : va_W) (cells1 slots1 : Nat) {y : MethodName} {wsY ws2 : List Cond} {rm : Room} {wc : va_W} {mc ms : Nat} {bytes : ByteArray} {maxL i : Nat} {st0 : List Value} {C : String} {T : u_T} {N ci b n : Nat} (qr : Nat) {fs : List Value} {As : List Value} {rt : Option FieldType} {B : Int64 → va_W → Prop} (hM : zMl l E y wsY rm (.ref b :: As) wc B mc ms) (hT : GoodIn Ts (wsV own i C y wsY)) (hw : wsY = Cond.code y bytes maxL rt :: ws2) (hdy : y.cls = C ∧ y.cls ≠ "java/lang/invoke/MethodHandle" ∧ y.cls ≠ "java/lang/invoke/VarHandle" ∧ (parseMethodDescriptor y.desc).map (fun d => d.parameters.length) = some n) (hr : wc[qr]? = some (b, zo ci fs)) (hcl : vwCl[ci]? = some (C, T, N)) (hC : isC.map (fun i => ws[i]?) = wc.map some) (hR : isR.map (fun i => ws[i]?) = wr.map some) (hnd : va_nd (isC ++ isR) = true)
    (hstk : st0 = As.reverse ++ .ref b :: st) (hn : As.length = n) (hrm : (st.map fun v => v.category).sum ≤ 8) (hRm : rm.frames + 1 ≤ R.frames ∧ 8 + (maxL + 11) + rm.locals ≤ R.locals) (hrc : rm.cells = mc) (hrs : rm.slots = ms) (hf : cells + mc ≤ R.cells ∧ slots + ms ≤ R.slots) (hc1 : cells + mc ≤ cells1 ∧ slots + ms ≤ slots1) (hd : decode cc pc = .ok (.invokevirtual i, 3)) (hq : pc + 3 = q) (k : ∀ (r : Int64) (w1 : va_W), B r w1 → Z E p l e R s m args below meth c Q A nL q L (.long r :: st) (wr ++ w1) cells1 slots1) : Z E p l e R s m args below meth c Q A nL pc L st0 ws cells slots := by
  subst hq
  intro H locs ls hP hD hS hl
  have hx := C0.1
  have hb := C0.2.1
  obtain ⟨hn1, hn2, hdis⟩ := z_nd hnd
  have hPc := hP.sub (ws' := wc) isC (z_sub hC)
  have hDc := hD.sub (ws' := wc) isC hn1 hC
  have hFc := va_free (wc := wc) hD hS C0.2.2.2.2.2.2.2.2.1 isC hC
  refine va_calll (va_runV (As := As) (rest := st) (b := b) ⟨hx, hb, C0.2.2.2.1, C0.2.2.2.2.1, C0.2.2.2.2.2.1⟩ (hM H.size) (cwV n C0.2.2.2.2.2.1 hT hw hrc hrs hdy hRm) ⟨zPre.blind, va_recv C0.2.2.2.2.2.2.2.1 hPc hcl hr, fun U hU hW => zPre.at hPc C0.2.2.2.2.2.2.2.1 (hDc.weaken (fun _ _ _ _ => trivial)) C0.2.2.2.2.2.2.2.2.2 hS hFc hU hW⟩ rfl hn (hl.1) hstk (lv_room hrm) hd hf) hS (fun q _ h => hFc q h) hFc (fun r u t H1 locs1 ht hvm hw1 hB hz1 hk1 hS1 => ?_)
  obtain ⟨hP1, hK1, hD1⟩ := hB
  rw [ht] at hP1
  obtain ⟨hP2, hD2⟩ := va_join hP hD isC isR hC hR hn2 hdis hk1 hFc hP1 hD1
  exact W.widen hc1.1 hc1.2 (k r u hw1 H1 locs1 ls hP2 hD2 hS1 hl)
theorem z_callVv (q : Nat) (C0 : zC E p s m args meth c cc nL ret own Ts A) (isC isR : List Nat) (wr : va_W) (cells1 slots1 : Nat) {y : MethodName} {wsY ws2 : List Cond} {rm : Room} {wc : va_W} {mc ms : Nat} {bytes : ByteArray} {maxL i : Nat} {st0 : List Value} {C : String} {T : u_T} {N ci b n : Nat} (qr : Nat) {fs : List Value} {As : List Value} {rt : Option FieldType} {B : va_W → Prop} (hM : zMv l E y wsY rm (.ref b :: As) wc B mc ms) (hT : GoodIn Ts (wsV own i C y wsY)) (hw : wsY = Cond.code y bytes maxL rt :: ws2) (hdy : y.cls = C ∧ y.cls ≠ "java/lang/invoke/MethodHandle" ∧ y.cls ≠ "java/lang/invoke/VarHandle" ∧ (parseMethodDescriptor y.desc).map (fun d => d.parameters.length) = some n) (hr : wc[qr]? = some (b, zo ci fs)) (hcl : vwCl[ci]? = some (C, T, N)) (hC : isC.map (fun i => ws[i]?) = wc.map some) (hR : isR.map (fun i => ws[i]?) = wr.map some) (hnd : va_nd (isC ++ isR) = true)
    (hstk : st0 = As.reverse ++ .ref b :: st) (hn : As.length = n) (hrm : (st.map fun v => v.category).sum ≤ 8) (hRm : rm.frames + 1 ≤ R.frames ∧ 8 + (maxL + 11) + rm.locals ≤ R.locals) (hrc : rm.cells = mc) (hrs : rm.slots = ms) (hf : cells + mc ≤ R.cells ∧ slots + ms ≤ R.slots) (hc1 : cells + mc ≤ cells1 ∧ slots + ms ≤ slots1) (hd : decode cc pc = .ok (.invokevirtual i, 3)) (hq : pc + 3 = q) (k : ∀ (w1 : va_W), B w1 → Z E p l e R s m args below meth c Q A nL q L st (wr ++ w1) cells1 slots1) : Z E p l e R s m args below meth c Q A nL pc L st0 ws cells slots := by
  subst hq
  intro H locs ls hP hD hS hl
  have hx := C0.1
  have hb := C0.2.1
  obtain ⟨hn1, hn2, hdis⟩ := z_nd hnd
  have hPc := hP.sub (ws' := wc) isC (z_sub hC)
  have hDc := hD.sub (ws' := wc) isC hn1 hC
  have hFc := va_free (wc := wc) hD hS C0.2.2.2.2.2.2.2.2.1 isC hC
  refine va_callv (va_runV (As := As) (rest := st) (b := b) ⟨hx, hb, C0.2.2.2.1, C0.2.2.2.2.1, C0.2.2.2.2.2.1⟩ (hM H.size) (cwV n C0.2.2.2.2.2.1 hT hw hrc hrs hdy hRm) ⟨zPre.blind, va_recv C0.2.2.2.2.2.2.2.1 hPc hcl hr, fun U hU hW => zPre.at hPc C0.2.2.2.2.2.2.2.1 (hDc.weaken (fun _ _ _ _ => trivial)) C0.2.2.2.2.2.2.2.2.2 hS hFc hU hW⟩ rfl hn (hl.1) hstk (lv_room hrm) hd hf) hS (fun q _ h => hFc q h) hFc (fun u t H1 locs1 ht hvm hw1 hB hz1 hk1 hS1 => ?_)
  obtain ⟨hP1, hK1, hD1⟩ := hB
  rw [ht] at hP1
  obtain ⟨hP2, hD2⟩ := va_join hP hD isC isR hC hR hn2 hdis hk1 hFc hP1 hD1
  exact W.widen hc1.1 hc1.2 (k u hw1 H1 locs1 ls hP2 hD2 hS1 hl)
theorem z_callSi (q : Nat) (C0 : zC E p s m args meth c cc nL ret own Ts A) (isC isR : List Nat) (wr : va_W) (cells1 slots1 : Nat) {y : MethodName} {wsY ws2 : List Cond} {rm : Room} {wc : va_W} {mc ms : Nat} {bytes : ByteArray} {maxL i : Nat} {st0 : List Value} {n : Nat} {As : List Value} {rt : Option FieldType} {B : Int32 → va_W → Prop} (hM : zMi l E y wsY rm As wc B mc ms) (hT : GoodIn Ts (va_wsS own i y wsY)) (hw : wsY = Cond.code y bytes maxL rt :: ws2) (hdy : y.cls ≠ "java/lang/invoke/MethodHandle" ∧ y.cls ≠ "java/lang/invoke/VarHandle" ∧ (parseMethodDescriptor y.desc).map (fun d => d.parameters.length) = some n)  (hC : isC.map (fun i => ws[i]?) = wc.map some) (hR : isR.map (fun i => ws[i]?) = wr.map some) (hnd : va_nd (isC ++ isR) = true)
    (hstk : st0 = As.reverse ++ st) (hn : As.length = n) (hrm : (st.map fun v => v.category).sum ≤ 8) (hRm : rm.frames + 1 ≤ R.frames ∧ 8 + (maxL + 11) + rm.locals ≤ R.locals) (hrc : rm.cells = mc) (hrs : rm.slots = ms) (hf : cells + mc ≤ R.cells ∧ slots + ms ≤ R.slots) (hc1 : cells + mc ≤ cells1 ∧ slots + ms ≤ slots1) (hd : decode cc pc = .ok (.invokestatic i, 3)) (hq : pc + 3 = q) (k : ∀ (r : Int32) (w1 : va_W), B r w1 → Z E p l e R s m args below meth c Q A nL q L (.int r :: st) (wr ++ w1) cells1 slots1) : Z E p l e R s m args below meth c Q A nL pc L st0 ws cells slots := by
  subst hq
  intro H locs ls hP hD hS hl
  have hx := C0.1
  have hb := C0.2.1
  obtain ⟨hn1, hn2, hdis⟩ := z_nd hnd
  have hPc := hP.sub (ws' := wc) isC (z_sub hC)
  have hDc := hD.sub (ws' := wc) isC hn1 hC
  have hFc := va_free (wc := wc) hD hS C0.2.2.2.2.2.2.2.2.1 isC hC
  refine va_calli (va_runS (As := As) (rest := st) ⟨hx, hb, C0.2.2.2.1, C0.2.2.2.2.1, C0.2.2.2.2.2.1⟩ (hM H.size) (va_cwS n C0.2.2.2.2.2.1 hT hw hrc hrs hdy hRm) ⟨zPre.blind, fun U hU hW => zPre.at hPc C0.2.2.2.2.2.2.2.1 (hDc.weaken (fun _ _ _ _ => trivial)) C0.2.2.2.2.2.2.2.2.2 hS hFc hU hW⟩ rfl hn (hl.1) hstk (lv_room hrm) hd hf) hS (fun q _ h => hFc q h) hFc (fun r u t H1 locs1 ht hvm hw1 hB hz1 hk1 hS1 => ?_)
  obtain ⟨hP1, hK1, hD1⟩ := hB
  rw [ht] at hP1
  obtain ⟨hP2, hD2⟩ := va_join hP hD isC isR hC hR hn2 hdis hk1 hFc hP1 hD1
  exact W.widen hc1.1 hc1.2 (k r u hw1 H1 locs1 ls hP2 hD2 hS1 hl)
theorem z_callSl (q : Nat) (C0 : zC E p s m args meth c cc nL ret own Ts A) (isC isR : List Nat) (wr : va_W) (cells1 slots1 : Nat) {y : MethodName} {wsY ws2 : List Cond} {rm : Room} {wc : va_W} {mc ms : Nat} {bytes : ByteArray} {maxL i : Nat} {st0 : List Value} {n : Nat} {As : List Value} {rt : Option FieldType} {B : Int64 → va_W → Prop} (hM : zMl l E y wsY rm As wc B mc ms) (hT : GoodIn Ts (va_wsS own i y wsY)) (hw : wsY = Cond.code y bytes maxL rt :: ws2) (hdy : y.cls ≠ "java/lang/invoke/MethodHandle" ∧ y.cls ≠ "java/lang/invoke/VarHandle" ∧ (parseMethodDescriptor y.desc).map (fun d => d.parameters.length) = some n)  (hC : isC.map (fun i => ws[i]?) = wc.map some) (hR : isR.map (fun i => ws[i]?) = wr.map some) (hnd : va_nd (isC ++ isR) = true)
    (hstk : st0 = As.reverse ++ st) (hn : As.length = n) (hrm : (st.map fun v => v.category).sum ≤ 8) (hRm : rm.frames + 1 ≤ R.frames ∧ 8 + (maxL + 11) + rm.locals ≤ R.locals) (hrc : rm.cells = mc) (hrs : rm.slots = ms) (hf : cells + mc ≤ R.cells ∧ slots + ms ≤ R.slots) (hc1 : cells + mc ≤ cells1 ∧ slots + ms ≤ slots1) (hd : decode cc pc = .ok (.invokestatic i, 3)) (hq : pc + 3 = q) (k : ∀ (r : Int64) (w1 : va_W), B r w1 → Z E p l e R s m args below meth c Q A nL q L (.long r :: st) (wr ++ w1) cells1 slots1) : Z E p l e R s m args below meth c Q A nL pc L st0 ws cells slots := by
  subst hq
  intro H locs ls hP hD hS hl
  have hx := C0.1
  have hb := C0.2.1
  obtain ⟨hn1, hn2, hdis⟩ := z_nd hnd
  have hPc := hP.sub (ws' := wc) isC (z_sub hC)
  have hDc := hD.sub (ws' := wc) isC hn1 hC
  have hFc := va_free (wc := wc) hD hS C0.2.2.2.2.2.2.2.2.1 isC hC
  refine va_calll (va_runS (As := As) (rest := st) ⟨hx, hb, C0.2.2.2.1, C0.2.2.2.2.1, C0.2.2.2.2.2.1⟩ (hM H.size) (va_cwS n C0.2.2.2.2.2.1 hT hw hrc hrs hdy hRm) ⟨zPre.blind, fun U hU hW => zPre.at hPc C0.2.2.2.2.2.2.2.1 (hDc.weaken (fun _ _ _ _ => trivial)) C0.2.2.2.2.2.2.2.2.2 hS hFc hU hW⟩ rfl hn (hl.1) hstk (lv_room hrm) hd hf) hS (fun q _ h => hFc q h) hFc (fun r u t H1 locs1 ht hvm hw1 hB hz1 hk1 hS1 => ?_)
  obtain ⟨hP1, hK1, hD1⟩ := hB
  rw [ht] at hP1
  obtain ⟨hP2, hD2⟩ := va_join hP hD isC isR hC hR hn2 hdis hk1 hFc hP1 hD1
  exact W.widen hc1.1 hc1.2 (k r u hw1 H1 locs1 ls hP2 hD2 hS1 hl)
theorem z_callSv (q : Nat) (C0 : zC E p s m args meth c cc nL ret own Ts A) (isC isR : List Nat) (wr : va_W) (cells1 slots1 : Nat) {y : MethodName} {wsY ws2 : List Cond} {rm : Room} {wc : va_W} {mc ms : Nat} {bytes : ByteArray} {maxL i : Nat} {st0 : List Value} {n : Nat} {As : List Value} {rt : Option FieldType} {B : va_W → Prop} (hM : zMv l E y wsY rm As wc B mc ms) (hT : GoodIn Ts (va_wsS own i y wsY)) (hw : wsY = Cond.code y bytes maxL rt :: ws2) (hdy : y.cls ≠ "java/lang/invoke/MethodHandle" ∧ y.cls ≠ "java/lang/invoke/VarHandle" ∧ (parseMethodDescriptor y.desc).map (fun d => d.parameters.length) = some n)  (hC : isC.map (fun i => ws[i]?) = wc.map some) (hR : isR.map (fun i => ws[i]?) = wr.map some) (hnd : va_nd (isC ++ isR) = true)
    (hstk : st0 = As.reverse ++ st) (hn : As.length = n) (hrm : (st.map fun v => v.category).sum ≤ 8) (hRm : rm.frames + 1 ≤ R.frames ∧ 8 + (maxL + 11) + rm.locals ≤ R.locals) (hrc : rm.cells = mc) (hrs : rm.slots = ms) (hf : cells + mc ≤ R.cells ∧ slots + ms ≤ R.slots) (hc1 : cells + mc ≤ cells1 ∧ slots + ms ≤ slots1) (hd : decode cc pc = .ok (.invokestatic i, 3)) (hq : pc + 3 = q) (k : ∀ (w1 : va_W), B w1 → Z E p l e R s m args below meth c Q A nL q L st (wr ++ w1) cells1 slots1) : Z E p l e R s m args below meth c Q A nL pc L st0 ws cells slots := by
  subst hq
  intro H locs ls hP hD hS hl
  have hx := C0.1
  have hb := C0.2.1
  obtain ⟨hn1, hn2, hdis⟩ := z_nd hnd
  have hPc := hP.sub (ws' := wc) isC (z_sub hC)
  have hDc := hD.sub (ws' := wc) isC hn1 hC
  have hFc := va_free (wc := wc) hD hS C0.2.2.2.2.2.2.2.2.1 isC hC
  refine va_callv (va_runS (As := As) (rest := st) ⟨hx, hb, C0.2.2.2.1, C0.2.2.2.2.1, C0.2.2.2.2.2.1⟩ (hM H.size) (va_cwS n C0.2.2.2.2.2.1 hT hw hrc hrs hdy hRm) ⟨zPre.blind, fun U hU hW => zPre.at hPc C0.2.2.2.2.2.2.2.1 (hDc.weaken (fun _ _ _ _ => trivial)) C0.2.2.2.2.2.2.2.2.2 hS hFc hU hW⟩ rfl hn (hl.1) hstk (lv_room hrm) hd hf) hS (fun q _ h => hFc q h) hFc (fun u t H1 locs1 ht hvm hw1 hB hz1 hk1 hS1 => ?_)
  obtain ⟨hP1, hK1, hD1⟩ := hB
  rw [ht] at hP1
  obtain ⟨hP2, hD2⟩ := va_join hP hD isC isR hC hR hn2 hdis hk1 hFc hP1 hD1
  exact W.widen hc1.1 hc1.2 (k u hw1 H1 locs1 ls hP2 hD2 hS1 hl)
theorem z_callI (q : Nat) (C0 : zC E p s m args meth c cc nL ret own Ts A) (isC isR : List Nat) (wr : va_W) (cells1 slots1 : Nat) {y : MethodName} {wsY ws2 : List Cond} {rm : Room} {wc : va_W} {mc ms : Nat} {bytes : ByteArray} {maxL i : Nat} {st0 : List Value} {b n : Nat} {As : List Value} {B : va_W → Prop} (hM : zMv l E y wsY rm (.ref b :: As) wc B mc ms) (hT : GoodIn Ts wsY) (hw : wsY = Cond.code y bytes maxL none :: ws2) (hini : Cond.initialized y.cls ∈ Ts) (hlk : Cond.methodLink own i y ∈ Ts) (hinst : Cond.instanceMethod y ∈ Ts) (hyn : y.name = "<init>") (hdy : y.cls ≠ "java/lang/invoke/MethodHandle" ∧ y.cls ≠ "java/lang/invoke/VarHandle" ∧ (parseMethodDescriptor y.desc).map (fun d => d.parameters.length) = some n)  (hC : isC.map (fun i => ws[i]?) = wc.map some) (hR : isR.map (fun i => ws[i]?) = wr.map some) (hnd : va_nd (isC ++ isR) = true)
    (hstk : st0 = As.reverse ++ .ref b :: st) (hn : As.length = n) (hrm : (st.map fun v => v.category).sum ≤ 8) (hRm : rm.frames + 1 ≤ R.frames ∧ 8 + (maxL + 11) + rm.locals ≤ R.locals) (hrc : rm.cells = mc) (hrs : rm.slots = ms) (hf : cells + mc ≤ R.cells ∧ slots + ms ≤ R.slots) (hc1 : cells + mc ≤ cells1 ∧ slots + ms ≤ slots1) (hd : decode cc pc = .ok (.invokespecial i, 3)) (hq : pc + 3 = q) (k : ∀ (w1 : va_W), B w1 → Z E p l e R s m args below meth c Q A nL q L st (wr ++ w1) cells1 slots1) : Z E p l e R s m args below meth c Q A nL pc L st0 ws cells slots := by
  subst hq
  intro H locs ls hP hD hS hl
  have hx := C0.1
  have hb := C0.2.1
  obtain ⟨hn1, hn2, hdis⟩ := z_nd hnd
  have hPc := hP.sub (ws' := wc) isC (z_sub hC)
  have hDc := hD.sub (ws' := wc) isC hn1 hC
  have hFc := va_free (wc := wc) hD hS C0.2.2.2.2.2.2.2.2.1 isC hC
  refine va_callv (va_runI (As := As) (rest := st) (b := b) ⟨hx, hb, C0.2.2.2.1, C0.2.2.2.2.1, C0.2.2.2.2.2.1⟩ (hM H.size) (cwI n C0.2.2.2.2.2.1 hT hw hrc hrs (C0.2.2.2.2.2.1 _ hini) (C0.2.2.2.2.2.1 _ hlk) (C0.2.2.2.2.2.1 _ hinst) hyn hdy hRm) ⟨zPre.blind, fun U hU hW => zPre.at hPc C0.2.2.2.2.2.2.2.1 (hDc.weaken (fun _ _ _ _ => trivial)) C0.2.2.2.2.2.2.2.2.2 hS hFc hU hW⟩ rfl hn (hl.1) hstk (lv_room hrm) hd hf) hS (fun q _ h => hFc q h) hFc (fun u t H1 locs1 ht hvm hw1 hB hz1 hk1 hS1 => ?_)
  obtain ⟨hP1, hK1, hD1⟩ := hB
  rw [ht] at hP1
  obtain ⟨hP2, hD2⟩ := va_join hP hD isC isR hC hR hn2 hdis hk1 hFc hP1 hD1
  exact W.widen hc1.1 hc1.2 (k u hw1 H1 locs1 ls hP2 hD2 hS1 hl)
theorem z_callSNi (q : Nat) (C0 : zC E p s m args meth c cc nL ret own Ts A) (isC isR : List Nat) (wr : va_W) (cells1 slots1 : Nat) {y : MethodName} {wsY ws2 : List Cond} {rm : Room} {wc : va_W} {mc ms : Nat} {bytes : ByteArray} {maxL i : Nat} {st0 : List Value} {n : Nat} {host : String} {As : List Value} {rt : Option FieldType} {B : Int32 → va_W → Prop} (hM : zMi l E y wsY rm As wc B mc ms) (hT : GoodIn Ts wsY) (hw : wsY = Cond.code y bytes maxL rt :: ws2) (hnw : va_Nw (.methodLinkNest own i y host) s) (hini : Cond.initialized y.cls ∈ Ts) (hst : Cond.static y ∈ Ts) (hdy : y.cls ≠ "java/lang/invoke/MethodHandle" ∧ y.cls ≠ "java/lang/invoke/VarHandle" ∧ (parseMethodDescriptor y.desc).map (fun d => d.parameters.length) = some n)  (hC : isC.map (fun i => ws[i]?) = wc.map some) (hR : isR.map (fun i => ws[i]?) = wr.map some) (hnd : va_nd (isC ++ isR) = true)
    (hstk : st0 = As.reverse ++ st) (hn : As.length = n) (hrm : (st.map fun v => v.category).sum ≤ 8) (hRm : rm.frames + 1 ≤ R.frames ∧ 8 + (maxL + 11) + rm.locals ≤ R.locals) (hrc : rm.cells = mc) (hrs : rm.slots = ms) (hf : cells + mc ≤ R.cells ∧ slots + ms ≤ R.slots) (hc1 : cells + mc ≤ cells1 ∧ slots + ms ≤ slots1) (hd : decode cc pc = .ok (.invokestatic i, 3)) (hq : pc + 3 = q) (k : ∀ (r : Int32) (w1 : va_W), B r w1 → Z E p l e R s m args below meth c Q A nL q L (.int r :: st) (wr ++ w1) cells1 slots1) : Z E p l e R s m args below meth c Q A nL pc L st0 ws cells slots := by
  subst hq
  intro H locs ls hP hD hS hl
  have hx := C0.1
  have hb := C0.2.1
  obtain ⟨hn1, hn2, hdis⟩ := z_nd hnd
  have hPc := hP.sub (ws' := wc) isC (z_sub hC)
  have hDc := hD.sub (ws' := wc) isC hn1 hC
  have hFc := va_free (wc := wc) hD hS C0.2.2.2.2.2.2.2.2.1 isC hC
  refine va_calli (va_runSN (As := As) (rest := st) (host := host) ⟨hx, hb, C0.2.2.2.1, C0.2.2.2.2.1, C0.2.2.2.2.2.1⟩ (hM H.size) ⟨va_cnB n C0.2.2.2.2.2.1 hT hw hrc hrs hnw (C0.2.2.2.2.2.1 _ hini) hdy hRm, C0.2.2.2.2.2.1 _ hst, trivial⟩ ⟨zPre.blind, fun U hU hW => zPre.at hPc C0.2.2.2.2.2.2.2.1 (hDc.weaken (fun _ _ _ _ => trivial)) C0.2.2.2.2.2.2.2.2.2 hS hFc hU hW⟩ rfl hn (hl.1) hstk (lv_room hrm) hd hf) hS (fun q _ h => hFc q h) hFc (fun r u t H1 locs1 ht hvm hw1 hB hz1 hk1 hS1 => ?_)
  obtain ⟨hP1, hK1, hD1⟩ := hB
  rw [ht] at hP1
  obtain ⟨hP2, hD2⟩ := va_join hP hD isC isR hC hR hn2 hdis hk1 hFc hP1 hD1
  exact W.widen hc1.1 hc1.2 (k r u hw1 H1 locs1 ls hP2 hD2 hS1 hl)
theorem z_callIN (q : Nat) (C0 : zC E p s m args meth c cc nL ret own Ts A) (isC isR : List Nat) (wr : va_W) (cells1 slots1 : Nat) {y : MethodName} {wsY ws2 : List Cond} {rm : Room} {wc : va_W} {mc ms : Nat} {bytes : ByteArray} {maxL i : Nat} {st0 : List Value} {b n : Nat} {host : String} {As : List Value} {B : va_W → Prop} (hM : zMv l E y wsY rm (.ref b :: As) wc B mc ms) (hT : GoodIn Ts wsY) (hw : wsY = Cond.code y bytes maxL none :: ws2) (hnw : va_Nw (.methodLinkNest own i y host) s) (hini : Cond.initialized y.cls ∈ Ts) (hinst : Cond.instanceMethod y ∈ Ts) (hyn : y.name = "<init>") (hdy : y.cls ≠ "java/lang/invoke/MethodHandle" ∧ y.cls ≠ "java/lang/invoke/VarHandle" ∧ (parseMethodDescriptor y.desc).map (fun d => d.parameters.length) = some n)  (hC : isC.map (fun i => ws[i]?) = wc.map some) (hR : isR.map (fun i => ws[i]?) = wr.map some) (hnd : va_nd (isC ++ isR) = true)
    (hstk : st0 = As.reverse ++ .ref b :: st) (hn : As.length = n) (hrm : (st.map fun v => v.category).sum ≤ 8) (hRm : rm.frames + 1 ≤ R.frames ∧ 8 + (maxL + 11) + rm.locals ≤ R.locals) (hrc : rm.cells = mc) (hrs : rm.slots = ms) (hf : cells + mc ≤ R.cells ∧ slots + ms ≤ R.slots) (hc1 : cells + mc ≤ cells1 ∧ slots + ms ≤ slots1) (hd : decode cc pc = .ok (.invokespecial i, 3)) (hq : pc + 3 = q) (k : ∀ (w1 : va_W), B w1 → Z E p l e R s m args below meth c Q A nL q L st (wr ++ w1) cells1 slots1) : Z E p l e R s m args below meth c Q A nL pc L st0 ws cells slots := by
  subst hq
  intro H locs ls hP hD hS hl
  have hx := C0.1
  have hb := C0.2.1
  obtain ⟨hn1, hn2, hdis⟩ := z_nd hnd
  have hPc := hP.sub (ws' := wc) isC (z_sub hC)
  have hDc := hD.sub (ws' := wc) isC hn1 hC
  have hFc := va_free (wc := wc) hD hS C0.2.2.2.2.2.2.2.2.1 isC hC
  refine va_callv (va_runIN (As := As) (rest := st) (b := b) (host := host) ⟨hx, hb, C0.2.2.2.1, C0.2.2.2.2.1, C0.2.2.2.2.2.1⟩ (hM H.size) ⟨va_cnB n C0.2.2.2.2.2.1 hT hw hrc hrs hnw (C0.2.2.2.2.2.1 _ hini) hdy hRm, hyn, C0.2.2.2.2.2.1 _ hinst⟩ ⟨zPre.blind, fun U hU hW => zPre.at hPc C0.2.2.2.2.2.2.2.1 (hDc.weaken (fun _ _ _ _ => trivial)) C0.2.2.2.2.2.2.2.2.2 hS hFc hU hW⟩ rfl hn (hl.1) hstk (lv_room hrm) hd hf) hS (fun q _ h => hFc q h) hFc (fun u t H1 locs1 ht hvm hw1 hB hz1 hk1 hS1 => ?_)
  obtain ⟨hP1, hK1, hD1⟩ := hB
  rw [ht] at hP1
  obtain ⟨hP2, hD2⟩ := va_join hP hD isC isR hC hR hn2 hdis hk1 hFc hP1 hD1
  exact W.widen hc1.1 hc1.2 (k u hw1 H1 locs1 ls hP2 hD2 hS1 hl)
theorem z_objInit (q : Nat) (C0 : zC E p s m args meth c cc nL ret own Ts A) {i a : Nat} (hlk : Cond.methodLink own i Lib.objectInit ∈ Ts) (hinst : Cond.instanceMethod Lib.objectInit ∈ Ts) (hcode : Cond.code Lib.objectInit ⟨#[0xb1]⟩ 1 none ∈ Ts) (hd : decode cc pc = .ok (.invokespecial i, 3)) (hq : pc + 3 = q) (hrm : (st.map fun v => v.category).sum ≤ 8) (hfr : 1 ≤ R.frames) (hlo : 20 ≤ R.locals) (k : Z E p l e R s m args below meth c Q A nL q L st ws cells slots) : Z E p l e R s m args below meth c Q A nL pc L (.ref a :: st) ws cells slots := by
  subst hq
  intro H locs ls hP hD hS hl
  have h0 : 2 * (F0 m pc ls (.ref a :: st)).monitorRoom + (st.map fun v => v.category).sum ≤ 8 := lv_room hrm
  exact W.objInit C0.1 C0.2.1 C0.2.2.2.2.1 (C0.2.2.2.2.2.1 _ hlk) (C0.2.2.2.2.2.1 _ hinst) (C0.2.2.2.2.2.1 _ hcode) rfl (by rw [C0.2.2.2.1]; exact hl.1) rfl hd hfr (by omega) (k H locs ls hP hD hS hl)
theorem z_min (q : Nat) (C0 : zC E p s m args meth c cc nL ret own Ts A) {i : Nat} {x y v : Int32} (hlk : Cond.methodLink own i Lib.Math.min.name ∈ Ts) (hst : Cond.static Lib.Math.min.name ∈ Ts) (hini : Cond.initialized "java/lang/Math" ∈ Ts) (hcode : Cond.code Lib.Math.min.name Lib.Math.min.code 2 (some .int) ∈ Ts) (hd : decode cc pc = .ok (.invokestatic i, 3)) (hq : pc + 3 = q) (hrm : (st.map fun v => v.category).sum ≤ 8) (hfr : 1 ≤ R.frames) (hlo : 21 ≤ R.locals) (hce : cells ≤ R.cells ∧ slots ≤ R.slots) (hv : (if y < x then y else x) = v) (k : Z E p l e R s m args below meth c Q A nL q L (.int v :: st) ws cells slots) : Z E p l e R s m args below meth c Q A nL pc L (.int y :: .int x :: st) ws cells slots := by
  subst hq; subst hv
  intro H locs ls hP hD hS hl
  exact va_mmin C0.1 C0.2.1 (by rw [C0.2.2.2.1]; exact hl.1.symm) C0.2.2.2.2.1 (C0.2.2.2.2.2.1 _ hlk) (C0.2.2.2.2.2.1 _ hst) (C0.2.2.2.2.2.1 _ hini) (C0.2.2.2.2.2.1 _ hcode) hfr (by omega) hce.1 hce.2 hd (k H locs ls hP hD hS hl)
theorem z_max (q : Nat) (C0 : zC E p s m args meth c cc nL ret own Ts A) {i : Nat} {x y v : Int32} (hlk : Cond.methodLink own i Lib.Math.max.name ∈ Ts) (hst : Cond.static Lib.Math.max.name ∈ Ts) (hini : Cond.initialized "java/lang/Math" ∈ Ts) (hcode : Cond.code Lib.Math.max.name Lib.Math.max.code 2 (some .int) ∈ Ts) (hd : decode cc pc = .ok (.invokestatic i, 3)) (hq : pc + 3 = q) (hrm : (st.map fun v => v.category).sum ≤ 8) (hfr : 1 ≤ R.frames) (hlo : 21 ≤ R.locals) (hce : cells ≤ R.cells ∧ slots ≤ R.slots) (hv : (if x < y then y else x) = v) (k : Z E p l e R s m args below meth c Q A nL q L (.int v :: st) ws cells slots) : Z E p l e R s m args below meth c Q A nL pc L (.int y :: .int x :: st) ws cells slots := by
  subst hq; subst hv
  intro H locs ls hP hD hS hl
  exact va_mmax C0.1 C0.2.1 (by rw [C0.2.2.2.1]; exact hl.1.symm) C0.2.2.2.2.1 (C0.2.2.2.2.2.1 _ hlk) (C0.2.2.2.2.2.1 _ hst) (C0.2.2.2.2.2.1 _ hini) (C0.2.2.2.2.2.1 _ hcode) hfr (by omega) hce.1 hce.2 hd (k H locs ls hP hD hS hl)
theorem z_new (q : Nat) (C0 : zC E p s m args meth c cc nL ret own Ts A) (cells1 slots1 : Nat) {ci N i : Nat} {C : String} {T : u_T} {fs : List Value} (hin : ∀ w ∈ u_ws C T N, w ∈ Ts) (ty : Nat → FieldType) (hty : ∀ k, k < N → parseFieldDescriptor (T k).2.2.1 = some (ty k)) (hcl : Cond.classLink own i C ∈ Ts) (hinst : Cond.instantiable C N ∈ Ts) (hini : Cond.initialized C ∈ Ts) (hc : vwCl[ci]? = some (C, T, N)) (hfs : ∀ j, j < N → defaultValue (ty j) = vp_V fs j) (hf : cells + 1 ≤ R.cells ∧ slots + N ≤ R.slots) (hc1 : cells + 1 = cells1 ∧ slots + N = slots1) (hd : decode cc pc = .ok (.new i, 3)) (hq : pc + 3 = q) (k : ∀ a : Nat, Z E p l e R s m args below meth c Q A nL q L (.ref a :: st) (ws ++ [(a, zo ci fs)]) cells1 slots1) : Z E p l e R s m args below meth c Q A nL pc L st ws cells slots := by
  subst hq
  obtain ⟨rfl, rfl⟩ := hc1
  intro H locs ls hP hD hS hl
  exact va_new C0.1 C0.2.1 C0.2.2.2.2.2.1 hin ty hty C0.2.2.2.2.1 (C0.2.2.2.2.2.1 _ hcl) (C0.2.2.2.2.2.1 _ hinst) (C0.2.2.2.2.2.1 _ hini) C0.2.2.2.2.2.2.2.1 hP hD hS C0.2.2.2.2.2.2.2.2.1 hc hfs hf.1 hf.2 hd (fun a H1 hP1 hD1 hS1 => k a H1 locs ls hP1 hD1 hS1 hl)
theorem z_newi (q : Nat) (C0 : zC E p s m args meth c cc nL ret own Ts A) (cells1 slots1 : Nat) {n : Nat} (harr : Cond.arrayClass .int ∈ Ts) (hn : n ≤ 134217728) (hf : cells + 1 ≤ R.cells ∧ slots + n ≤ R.slots) (hc1 : cells + 1 = cells1 ∧ slots + n = slots1) (hd : decode cc pc = .ok (.newarray .int, 2)) (hq : pc + 2 = q) (k : ∀ a : Nat, Z E p l e R s m args below meth c Q A nL q L (.ref a :: st) (ws ++ [(a, zi E n (fun _ => 0))]) cells1 slots1) : Z E p l e R s m args below meth c Q A nL pc L (.int (nI n) :: st) ws cells slots := by
  subst hq
  obtain ⟨rfl, rfl⟩ := hc1
  intro H locs ls hP hD hS hl
  have hn31 : n < 2 ^ 31 := by omega
  have hb4 : n * componentBytes FieldType.int ≤ 536870912 := by show n * 4 ≤ 536870912; omega
  refine va_newaK (atype := .int) C0.1 C0.2.1 (C0.2.2.2.2.2.1 _ harr) rfl hd rfl (nI_pos hn31) (nI_clamp hn31) hb4 hf.1 hf.2 rfl (fun H1 cA h1 h2 h3 h4 h5 => ?_)
  have hcc : cA = zcI E := by
    have h7 : s.vm.findClass ("[" ++ (FieldType.int).toString) = some (zcI E) := (C0.2.2.2.2.2.2.2.1.2 0 (zcI E, .int) rfl).2
    exact Option.some.inj (h5.symm.trans h7)
  subst hcc
  have hk : ∀ (k : Nat) (x : Nat × va_E), ws[k]? = some x → H1[x.1]? = H[x.1]? := fun k x hx => h3 x.1 ((hP k x hx).lt)
  refine k H.size H1 locs ls ?_ (hD.push hP rfl (C0.2.2.2.2.2.2.2.2.1 _ hS.1)) ⟨by rw [h2]; exact Nat.le_succ_of_le hS.1, fun a ha hna => ?_, hS.2.2⟩ hl
  · refine va_P.app (hP.kept hk) (fun j x hx => ?_)
    have hj : j < 1 := (List.getElem?_eq_some_iff.mp hx).1
    obtain rfl : j = 0 := by omega
    cases hx
    exact h1
  · rw [h3 a (Nat.lt_of_lt_of_le ha hS.1)]
    exact hS.2.1 a ha hna
end ZK
theorem zMi.of {l : Launch} {E : zE} {y : MethodName} {wsY ws2 : List Cond} {rm : Room} {av : List Value} {w0 : va_W} {B : Int32 → va_W → Prop} {mc ms : Nat} {cc : ByteArray} {nL : Nat} {ret : Option FieldType} (hy : plainName y.cls = true) (hw : wsY = Cond.code y cc nL ret :: ws2) (hn : (lg_sl av).length ≤ nL)
    (body : ∀ (p : Program) (e : Env) (s : State) (m : MethodId) (args : Array Value) (below : List Frame) (meth : Method) (c : Code) (A : Nat → Prop), zC E p s m args meth c cc nL ret y.cls wsY A → (y.name = "<init>" → meth.name = "<init>") → Z E p l e rm s m args below meth c (MQ below (va_Qi B (zPost E A) A) args s mc ms A) A nL 0 (lv_args 0 av) [] w0 0 0) : zMi l E y wsY rm av w0 B mc ms := by
  intro sz
  refine Met.ofW (cc := cc) (maxL := nL) (ret := ret) hy hw ?_
  intro p e s m args below meth c s₁ BL hml hv
  obtain ⟨rfl, hsz, hP, hK, hD0, hX⟩ := hv
  subst hsz
  have hts := atoms_spec (ws := wsY) BL.pre
  have hown : s.vm.findClass y.cls = some m.cls := findClass_of_methodNamed BL.named
  have hD := hD0.self (sz := s.heap.size)
  rw [lg_entry_eq]
  exact body p e s m _ below meth c _ ⟨BL.exec, BL.bytes, BL.returns, hml, hown, hts, BL.notSynchronized, hK, fun q h => Or.inr h, hX⟩ (fun h => by rw [← h]; exact (name_of_methodNamed BL.named BL.method).1) s.heap [] _ hP hD va_S.rf (lv_entry av hn)
theorem zMl.of {l : Launch} {E : zE} {y : MethodName} {wsY ws2 : List Cond} {rm : Room} {av : List Value} {w0 : va_W} {B : Int64 → va_W → Prop} {mc ms : Nat} {cc : ByteArray} {nL : Nat} {ret : Option FieldType} (hy : plainName y.cls = true) (hw : wsY = Cond.code y cc nL ret :: ws2) (hn : (lg_sl av).length ≤ nL)
    (body : ∀ (p : Program) (e : Env) (s : State) (m : MethodId) (args : Array Value) (below : List Frame) (meth : Method) (c : Code) (A : Nat → Prop), zC E p s m args meth c cc nL ret y.cls wsY A → (y.name = "<init>" → meth.name = "<init>") → Z E p l e rm s m args below meth c (MQ below (va_Ql B (zPost E A) A) args s mc ms A) A nL 0 (lv_args 0 av) [] w0 0 0) : zMl l E y wsY rm av w0 B mc ms := by
  intro sz
  refine Met.ofW (cc := cc) (maxL := nL) (ret := ret) hy hw ?_
  intro p e s m args below meth c s₁ BL hml hv
  obtain ⟨rfl, hsz, hP, hK, hD0, hX⟩ := hv
  subst hsz
  have hts := atoms_spec (ws := wsY) BL.pre
  have hown : s.vm.findClass y.cls = some m.cls := findClass_of_methodNamed BL.named
  have hD := hD0.self (sz := s.heap.size)
  rw [lg_entry_eq]
  exact body p e s m _ below meth c _ ⟨BL.exec, BL.bytes, BL.returns, hml, hown, hts, BL.notSynchronized, hK, fun q h => Or.inr h, hX⟩ (fun h => by rw [← h]; exact (name_of_methodNamed BL.named BL.method).1) s.heap [] _ hP hD va_S.rf (lv_entry av hn)
theorem zMv.of {l : Launch} {E : zE} {y : MethodName} {wsY ws2 : List Cond} {rm : Room} {av : List Value} {w0 : va_W} {B : va_W → Prop} {mc ms : Nat} {cc : ByteArray} {nL : Nat} {ret : Option FieldType} (hy : plainName y.cls = true) (hw : wsY = Cond.code y cc nL ret :: ws2) (hn : (lg_sl av).length ≤ nL)
    (body : ∀ (p : Program) (e : Env) (s : State) (m : MethodId) (args : Array Value) (below : List Frame) (meth : Method) (c : Code) (A : Nat → Prop), zC E p s m args meth c cc nL ret y.cls wsY A → (y.name = "<init>" → meth.name = "<init>") → Z E p l e rm s m args below meth c (MQ below (va_Qv B (zPost E A) A) args s mc ms A) A nL 0 (lv_args 0 av) [] w0 0 0) : zMv l E y wsY rm av w0 B mc ms := by
  intro sz
  refine Met.ofW (cc := cc) (maxL := nL) (ret := ret) hy hw ?_
  intro p e s m args below meth c s₁ BL hml hv
  obtain ⟨rfl, hsz, hP, hK, hD0, hX⟩ := hv
  subst hsz
  have hts := atoms_spec (ws := wsY) BL.pre
  have hown : s.vm.findClass y.cls = some m.cls := findClass_of_methodNamed BL.named
  have hD := hD0.self (sz := s.heap.size)
  rw [lg_entry_eq]
  exact body p e s m _ below meth c _ ⟨BL.exec, BL.bytes, BL.returns, hml, hown, hts, BL.notSynchronized, hK, fun q h => Or.inr h, hX⟩ (fun h => by rw [← h]; exact (name_of_methodNamed BL.named BL.method).1) s.heap [] _ hP hD va_S.rf (lv_entry av hn)
end
section
/-! booleans, rows of small numbers, and rules over them -/
noncomputable def zb (P : Prop) : Int32 := @ite _ P (Classical.propDecidable P) 1 0
theorem zb_t {P : Prop} (h : P) : zb P = 1 := by unfold zb; rw [if_pos h]
theorem zb_f {P : Prop} (h : ¬ P) : zb P = 0 := by unfold zb; rw [if_neg h]
theorem zb_tN {P : Prop} (h : P) : nI 1 = zb P := (zb_t h).symm
theorem zb_fN {P : Prop} (h : ¬ P) : nI 0 = zb P := (zb_f h).symm
theorem zb_c {P Q : Prop} (h : P ↔ Q) : zb P = zb Q := by
  by_cases hp : P
  · rw [zb_t hp, zb_t (h.mp hp)]
  · rw [zb_f hp, zb_f (fun q => hp (h.mpr q))]
theorem zb_eq1 {P : Prop} : zb P = 1 ↔ P := by
  by_cases hp : P
  · exact ⟨fun _ => hp, fun _ => zb_t hp⟩
  · rw [zb_f hp]; exact ⟨fun h => absurd h (by decide), fun h => absurd h hp⟩
theorem zb_eq0 {P : Prop} : zb P = 0 ↔ ¬ P := by
  by_cases hp : P
  · rw [zb_t hp]; exact ⟨fun h => absurd h (by decide), fun h => absurd hp h⟩
  · exact ⟨fun _ => hp, fun _ => zb_f hp⟩
theorem zb_nar (P : Prop) : narrow .boolean (.int (zb P)) = .int (zb P) := by
  by_cases hp : P
  · rw [zb_t hp]; rfl
  · rw [zb_f hp]; rfl
theorem zb_fit (P : Prop) : fits .boolean (.int (zb P)) = true := by
  by_cases hp : P
  · rw [zb_t hp]; rfl
  · rw [zb_f hp]; rfl
abbrev zn (f : Nat → Nat) : Nat → Int32 := fun j => nI (f j)
theorem z_upN (f : Nat → Nat) (k v : Nat) : upd (zn f) k (nI v) = zn (va_up f k v) := by
  funext j
  by_cases h : j = k
  · simp [upd, va_up, zn, h]
  · simp [upd, va_up, zn, h]
theorem z_incN (a c : Nat) : nI a + Int32.ofInt (c : Int) = nI (a + c) := by
  have h : Int32.ofInt (c : Int) = nI c := by simp [nI, Int32.ofInt, Int32.ofNat]
  rw [h, nI_add]
theorem z_subN {a b c : Nat} (h : c + b = a) : nI a - nI b = nI c := by
  rw [pk_sub (by omega)]; congr 1; omega
theorem z_decN {a : Nat} (h : 1 ≤ a) : nI a + Int32.ofInt (-1) = nI (a - 1) := by
  obtain ⟨b, rfl⟩ : ∃ b, a = b + 1 := ⟨a - 1, by omega⟩
  exact pk_m1 b
section ZK2
variable {E : zE} {p : Program} {l : Launch} {e : Env} {R : Room} {s : State} {m : MethodId} {args : Array Value} {below : List Frame} {meth : Method} {c : Code} {Q : State → Prop}
variable {cc : ByteArray} {nL : Nat} {ret : Option FieldType} {own : String} {Ts : List Cond} {A : Nat → Prop}
variable {pc : Nat} {L : List (Nat × Value)} {st : List Value} {ws : va_W} {cells slots : Nat}
theorem z_if_eqP (q t : Nat) (C0 : zC E p s m args meth c cc nL ret own Ts A) {B : Prop} {off : Int} (hd : decode cc pc = .ok (.ifCond .eq off, 3)) (hq : pc + 3 = q) (ht : (pc : Int) + off = (t : Int)) (kt : ¬ B → Z E p l e R s m args below meth c Q A nL t L st ws cells slots) (kf : B → Z E p l e R s m args below meth c Q A nL q L st ws cells slots) : Z E p l e R s m args below meth c Q A nL pc L (.int (zb B) :: st) ws cells slots :=
  z_if_eq q t C0 hd hq ht (fun h => kt (zb_eq0.mp h)) (fun h => kf (Classical.byContradiction fun z => h (zb_f z)))
theorem z_if_neP (q t : Nat) (C0 : zC E p s m args meth c cc nL ret own Ts A) {B : Prop} {off : Int} (hd : decode cc pc = .ok (.ifCond .ne off, 3)) (hq : pc + 3 = q) (ht : (pc : Int) + off = (t : Int)) (kt : B → Z E p l e R s m args below meth c Q A nL t L st ws cells slots) (kf : ¬ B → Z E p l e R s m args below meth c Q A nL q L st ws cells slots) : Z E p l e R s m args below meth c Q A nL pc L (.int (zb B) :: st) ws cells slots :=
  z_if_ne q t C0 hd hq ht (fun h => kt (Classical.byContradiction fun z => h (zb_f z))) (fun h => kf (zb_eq0.mp h))
theorem z_icmp_eqP (q t : Nat) (C0 : zC E p s m args meth c cc nL ret own Ts A) {B : Prop} {off : Int} (hd : decode cc pc = .ok (.if_icmp .eq off, 3)) (hq : pc + 3 = q) (ht : (pc : Int) + off = (t : Int)) (kt : B → Z E p l e R s m args below meth c Q A nL t L st ws cells slots) (kf : ¬ B → Z E p l e R s m args below meth c Q A nL q L st ws cells slots) : Z E p l e R s m args below meth c Q A nL pc L (.int (nI 1) :: .int (zb B) :: st) ws cells slots :=
  z_icmp_eq q t C0 hd hq ht (fun h => kt (zb_eq1.mp h)) (fun h => kf (fun z => h (zb_t z)))
theorem z_icmp_neP (q t : Nat) (C0 : zC E p s m args meth c cc nL ret own Ts A) {B : Prop} {off : Int} (hd : decode cc pc = .ok (.if_icmp .ne off, 3)) (hq : pc + 3 = q) (ht : (pc : Int) + off = (t : Int)) (kt : ¬ B → Z E p l e R s m args below meth c Q A nL t L st ws cells slots) (kf : B → Z E p l e R s m args below meth c Q A nL q L st ws cells slots) : Z E p l e R s m args below meth c Q A nL pc L (.int (nI 1) :: .int (zb B) :: st) ws cells slots :=
  z_icmp_ne q t C0 hd hq ht (fun h => kt (fun z => h (zb_t z))) (fun h => kf (zb_eq1.mp h))
theorem z_newiW (q : Nat) (C0 : zC E p s m args meth c cc nL ret own Ts A) (cells1 slots1 : Nat) {n : Nat} (harr : Cond.arrayClass .int ∈ Ts) (hn : n ≤ 134217728) (hf : cells + 1 ≤ R.cells ∧ slots + n ≤ R.slots) (hc1 : cells + 1 ≤ cells1 ∧ slots + n ≤ slots1) (hd : decode cc pc = .ok (.newarray .int, 2)) (hq : pc + 2 = q) (k : ∀ a : Nat, Z E p l e R s m args below meth c Q A nL q L (.ref a :: st) (ws ++ [(a, zi E n (fun _ => 0))]) cells1 slots1) : Z E p l e R s m args below meth c Q A nL pc L (.int (nI n) :: st) ws cells slots :=
  z_newi q C0 (cells + 1) (slots + n) harr hn hf ⟨rfl, rfl⟩ hd hq (fun a => z_widen hc1.1 hc1.2 (k a))
theorem z_ext (q0 : Nat) (w1 : va_W) {a n : Nat} {f g : Nat → Int32} (ha : ws[q0]? = some (a, zi E n f)) (hfg : ∀ j, j < n → f j = g j) (hw : ws.set q0 (a, zi E n g) = w1) (k : Z E p l e R s m args below meth c Q A nL pc L st w1 cells slots) : Z E p l e R s m args below meth c Q A nL pc L st ws cells slots := by
  subst hw
  intro H locs ls hP hD hS hl
  have he : ∀ cA : ClassId, vp_cell cA (n, .inl f) = vp_cell cA (n, .inl g) := by
    intro cA
    show arrV cA n (fun j => .int (f j)) = arrV cA n (fun j => .int (g j))
    unfold arrV
    congr 2
    funext j
    exact congrArg Value.int (hfg j.val j.isLt)
  refine k H locs ls ?_ (hD.set ha) hS hl
  refine hP.set hD ha ?_ (fun q _ => rfl)
  have h1 := hP q0 _ ha
  show H[a]? = some (vp_cell (zcI E) (n, .inl g))
  rw [← he]
  exact h1
theorem z_copy (q : Nat) (C0 : zC E p s m args meth c cc nL ret own Ts A) (q0 q1 : Nat) (w1 : va_W) {i a0 a1 n0 n1 sp dp n : Nat} {f g : Nat → Int32} (hlink : Cond.methodLink own i arraycopyName ∈ Ts) (hnat : Cond.native arraycopyName ∈ Ts) (hstat : Cond.static arraycopyName ∈ Ts) (hini : Cond.initialized "java/lang/System" ∈ Ts) (ha0 : ws[q0]? = some (a0, zi E n0 f)) (ha1 : ws[q1]? = some (a1, zi E n1 g)) (h4 : sp + n ≤ n0) (h5 : dp + n ≤ n1) (hb0 : n0 < 2 ^ 31) (hb1 : n1 < 2 ^ 31) (hfr : 1 ≤ R.frames) (hrm : (st.map fun v => v.category).sum ≤ 8) (hlo : 8 + (nativeFrameWords "java/lang/System" "arraycopy" 5 + 11) ≤ R.locals) (hd : decode cc pc = .ok (.invokestatic i, 3)) (hq : pc + 3 = q) (hw : ws.set q1 (a1, zi E n1 (va_cpy f g sp dp n)) = w1) (k : Z E p l e R s m args below meth c Q A nL q L st w1 cells slots) : Z E p l e R s m args below meth c Q A nL pc L (.int (nI n) :: .int (nI dp) :: .ref a1 :: .int (nI sp) :: .ref a0 :: st) ws cells slots := by
  subst hq; subst hw
  intro H locs ls hP hD hS hl
  have e1 : (nI sp).toNatClampNeg = sp := nI_clamp (by omega)
  have e2 : (nI dp).toNatClampNeg = dp := nI_clamp (by omega)
  have e3 : (nI n).toNatClampNeg = n := nI_clamp (by omega)
  refine va_copyi C0.1 C0.2.1 (by rw [C0.2.2.2.1]; exact hl.1.symm) C0.2.2.2.2.1 (C0.2.2.2.2.2.1 _ hlink) (C0.2.2.2.2.2.1 _ hnat) (C0.2.2.2.2.2.1 _ hstat) (C0.2.2.2.2.2.1 _ hini) C0.2.2.2.2.2.2.2.1 hP hD hS q0 q1 0 0 ha0 ha1 rfl rfl rfl (nI_pos (by omega)) (nI_pos (by omega)) (nI_pos (by omega)) (by rw [e1, e3]; exact h4) (by rw [e2, e3]; exact h5) (fun _ _ => rfl) hfr (by omega) hd ?_
  intro H1 locs1 hP1 hD1 hS1
  rw [e1, e2, e3] at hP1 hD1
  exact k H1 locs1 ls hP1 hD1 hS1 hl
end ZK2
end
section
theorem dJ6_bitCount_0f7a4_0 : decode cJ6_bitCount_0f7a4 0 = .ok (.iload_n 0, 1) := by decide +kernel
theorem dJ6_bitCount_0f7a4_1 : decode cJ6_bitCount_0f7a4 1 = .ok (.iload_n 0, 1) := by decide +kernel
theorem dJ6_bitCount_0f7a4_2 : decode cJ6_bitCount_0f7a4 2 = .ok (.iconst 1, 1) := by decide +kernel
theorem dJ6_bitCount_0f7a4_3 : decode cJ6_bitCount_0f7a4 3 = .ok (.iushr, 1) := by decide +kernel
theorem dJ6_bitCount_0f7a4_4 : decode cJ6_bitCount_0f7a4 4 = .ok (.ldc_w 265, 3) := by decide +kernel
theorem dJ6_bitCount_0f7a4_7 : decode cJ6_bitCount_0f7a4 7 = .ok (.iand, 1) := by decide +kernel
theorem dJ6_bitCount_0f7a4_8 : decode cJ6_bitCount_0f7a4 8 = .ok (.isub, 1) := by decide +kernel
theorem dJ6_bitCount_0f7a4_9 : decode cJ6_bitCount_0f7a4 9 = .ok (.istore_n 0, 1) := by decide +kernel
theorem dJ6_bitCount_0f7a4_10 : decode cJ6_bitCount_0f7a4 10 = .ok (.iload_n 0, 1) := by decide +kernel
theorem dJ6_bitCount_0f7a4_11 : decode cJ6_bitCount_0f7a4 11 = .ok (.ldc_w 266, 3) := by decide +kernel
theorem dJ6_bitCount_0f7a4_14 : decode cJ6_bitCount_0f7a4 14 = .ok (.iand, 1) := by decide +kernel
theorem dJ6_bitCount_0f7a4_15 : decode cJ6_bitCount_0f7a4 15 = .ok (.iload_n 0, 1) := by decide +kernel
theorem dJ6_bitCount_0f7a4_16 : decode cJ6_bitCount_0f7a4 16 = .ok (.iconst 2, 1) := by decide +kernel
theorem dJ6_bitCount_0f7a4_17 : decode cJ6_bitCount_0f7a4 17 = .ok (.iushr, 1) := by decide +kernel
theorem dJ6_bitCount_0f7a4_18 : decode cJ6_bitCount_0f7a4 18 = .ok (.ldc_w 266, 3) := by decide +kernel
theorem dJ6_bitCount_0f7a4_21 : decode cJ6_bitCount_0f7a4 21 = .ok (.iand, 1) := by decide +kernel
theorem dJ6_bitCount_0f7a4_22 : decode cJ6_bitCount_0f7a4 22 = .ok (.iadd, 1) := by decide +kernel
theorem dJ6_bitCount_0f7a4_23 : decode cJ6_bitCount_0f7a4 23 = .ok (.istore_n 0, 1) := by decide +kernel
theorem dJ6_bitCount_0f7a4_24 : decode cJ6_bitCount_0f7a4 24 = .ok (.iload_n 0, 1) := by decide +kernel
theorem dJ6_bitCount_0f7a4_25 : decode cJ6_bitCount_0f7a4 25 = .ok (.iload_n 0, 1) := by decide +kernel
theorem dJ6_bitCount_0f7a4_26 : decode cJ6_bitCount_0f7a4 26 = .ok (.iconst 4, 1) := by decide +kernel
theorem dJ6_bitCount_0f7a4_27 : decode cJ6_bitCount_0f7a4 27 = .ok (.iushr, 1) := by decide +kernel
theorem dJ6_bitCount_0f7a4_28 : decode cJ6_bitCount_0f7a4 28 = .ok (.iadd, 1) := by decide +kernel
theorem dJ6_bitCount_0f7a4_29 : decode cJ6_bitCount_0f7a4 29 = .ok (.ldc_w 267, 3) := by decide +kernel
theorem dJ6_bitCount_0f7a4_32 : decode cJ6_bitCount_0f7a4 32 = .ok (.iand, 1) := by decide +kernel
theorem dJ6_bitCount_0f7a4_33 : decode cJ6_bitCount_0f7a4 33 = .ok (.istore_n 0, 1) := by decide +kernel
theorem dJ6_bitCount_0f7a4_34 : decode cJ6_bitCount_0f7a4 34 = .ok (.iload_n 0, 1) := by decide +kernel
theorem dJ6_bitCount_0f7a4_35 : decode cJ6_bitCount_0f7a4 35 = .ok (.iload_n 0, 1) := by decide +kernel
theorem dJ6_bitCount_0f7a4_36 : decode cJ6_bitCount_0f7a4 36 = .ok (.bipush 8, 2) := by decide +kernel
theorem dJ6_bitCount_0f7a4_38 : decode cJ6_bitCount_0f7a4 38 = .ok (.iushr, 1) := by decide +kernel
theorem dJ6_bitCount_0f7a4_39 : decode cJ6_bitCount_0f7a4 39 = .ok (.iadd, 1) := by decide +kernel
theorem dJ6_bitCount_0f7a4_40 : decode cJ6_bitCount_0f7a4 40 = .ok (.istore_n 0, 1) := by decide +kernel
theorem dJ6_bitCount_0f7a4_41 : decode cJ6_bitCount_0f7a4 41 = .ok (.iload_n 0, 1) := by decide +kernel
theorem dJ6_bitCount_0f7a4_42 : decode cJ6_bitCount_0f7a4 42 = .ok (.iload_n 0, 1) := by decide +kernel
theorem dJ6_bitCount_0f7a4_43 : decode cJ6_bitCount_0f7a4 43 = .ok (.bipush 16, 2) := by decide +kernel
theorem dJ6_bitCount_0f7a4_45 : decode cJ6_bitCount_0f7a4 45 = .ok (.iushr, 1) := by decide +kernel
theorem dJ6_bitCount_0f7a4_46 : decode cJ6_bitCount_0f7a4 46 = .ok (.iadd, 1) := by decide +kernel
theorem dJ6_bitCount_0f7a4_47 : decode cJ6_bitCount_0f7a4 47 = .ok (.istore_n 0, 1) := by decide +kernel
theorem dJ6_bitCount_0f7a4_48 : decode cJ6_bitCount_0f7a4 48 = .ok (.iload_n 0, 1) := by decide +kernel
theorem dJ6_bitCount_0f7a4_49 : decode cJ6_bitCount_0f7a4 49 = .ok (.bipush 63, 2) := by decide +kernel
theorem dJ6_bitCount_0f7a4_51 : decode cJ6_bitCount_0f7a4 51 = .ok (.iand, 1) := by decide +kernel
theorem dJ6_bitCount_0f7a4_52 : decode cJ6_bitCount_0f7a4 52 = .ok (.ireturn, 1) := by decide +kernel
theorem dJ7_fill_53178_0 : decode cJ7_fill_53178 0 = .ok (.iconst 0, 1) := by decide +kernel
theorem dJ7_fill_53178_1 : decode cJ7_fill_53178 1 = .ok (.istore_n 2, 1) := by decide +kernel
theorem dJ7_fill_53178_2 : decode cJ7_fill_53178 2 = .ok (.aload_n 0, 1) := by decide +kernel
theorem dJ7_fill_53178_3 : decode cJ7_fill_53178 3 = .ok (.arraylength, 1) := by decide +kernel
theorem dJ7_fill_53178_4 : decode cJ7_fill_53178 4 = .ok (.istore_n 3, 1) := by decide +kernel
theorem dJ7_fill_53178_5 : decode cJ7_fill_53178 5 = .ok (.iload_n 2, 1) := by decide +kernel
theorem dJ7_fill_53178_6 : decode cJ7_fill_53178 6 = .ok (.iload_n 3, 1) := by decide +kernel
theorem dJ7_fill_53178_7 : decode cJ7_fill_53178 7 = .ok (.if_icmp .ge 13, 3) := by decide +kernel
theorem dJ7_fill_53178_10 : decode cJ7_fill_53178 10 = .ok (.aload_n 0, 1) := by decide +kernel
theorem dJ7_fill_53178_11 : decode cJ7_fill_53178 11 = .ok (.iload_n 2, 1) := by decide +kernel
theorem dJ7_fill_53178_12 : decode cJ7_fill_53178 12 = .ok (.iload_n 1, 1) := by decide +kernel
theorem dJ7_fill_53178_13 : decode cJ7_fill_53178 13 = .ok (.iastore, 1) := by decide +kernel
theorem dJ7_fill_53178_14 : decode cJ7_fill_53178 14 = .ok (.iinc 2 1, 3) := by decide +kernel
theorem dJ7_fill_53178_17 : decode cJ7_fill_53178 17 = .ok (.goto (-12), 3) := by decide +kernel
theorem dJ7_fill_53178_20 : decode cJ7_fill_53178 20 = .ok (.return_, 1) := by decide +kernel
theorem dX2_init_0 : decode cX2_init 0 = .ok (.aload_n 0, 1) := by decide +kernel
theorem dX2_init_1 : decode cX2_init 1 = .ok (.invokespecial 3, 3) := by decide +kernel
theorem dX2_init_4 : decode cX2_init 4 = .ok (.aload_n 0, 1) := by decide +kernel
theorem dX2_init_5 : decode cX2_init 5 = .ok (.sipush 600, 3) := by decide +kernel
theorem dX2_init_8 : decode cX2_init 8 = .ok (.newarray .int, 2) := by decide +kernel
theorem dX2_init_10 : decode cX2_init 10 = .ok (.putfield 9, 3) := by decide +kernel
theorem dX2_init_13 : decode cX2_init 13 = .ok (.aload_n 0, 1) := by decide +kernel
theorem dX2_init_14 : decode cX2_init 14 = .ok (.sipush 600, 3) := by decide +kernel
theorem dX2_init_17 : decode cX2_init 17 = .ok (.newarray .int, 2) := by decide +kernel
theorem dX2_init_19 : decode cX2_init 19 = .ok (.putfield 15, 3) := by decide +kernel
theorem dX2_init_22 : decode cX2_init 22 = .ok (.aload_n 0, 1) := by decide +kernel
theorem dX2_init_23 : decode cX2_init 23 = .ok (.iconst 0, 1) := by decide +kernel
theorem dX2_init_24 : decode cX2_init 24 = .ok (.putfield 18, 3) := by decide +kernel
theorem dX2_init_27 : decode cX2_init 27 = .ok (.return_, 1) := by decide +kernel
theorem dX2_placeOf_0 : decode cX2_placeOf 0 = .ok (.iconst 0, 1) := by decide +kernel
theorem dX2_placeOf_1 : decode cX2_placeOf 1 = .ok (.istore_n 2, 1) := by decide +kernel
theorem dX2_placeOf_2 : decode cX2_placeOf 2 = .ok (.sipush 512, 3) := by decide +kernel
theorem dX2_placeOf_5 : decode cX2_placeOf 5 = .ok (.istore_n 3, 1) := by decide +kernel
theorem dX2_placeOf_6 : decode cX2_placeOf 6 = .ok (.iload_n 3, 1) := by decide +kernel
theorem dX2_placeOf_7 : decode cX2_placeOf 7 = .ok (.ifCond .le 38, 3) := by decide +kernel
theorem dX2_placeOf_10 : decode cX2_placeOf 10 = .ok (.iload_n 2, 1) := by decide +kernel
theorem dX2_placeOf_11 : decode cX2_placeOf 11 = .ok (.iload_n 3, 1) := by decide +kernel
theorem dX2_placeOf_12 : decode cX2_placeOf 12 = .ok (.iadd, 1) := by decide +kernel
theorem dX2_placeOf_13 : decode cX2_placeOf 13 = .ok (.aload_n 0, 1) := by decide +kernel
theorem dX2_placeOf_14 : decode cX2_placeOf 14 = .ok (.getfield 18, 3) := by decide +kernel
theorem dX2_placeOf_17 : decode cX2_placeOf 17 = .ok (.if_icmp .gt 21, 3) := by decide +kernel
theorem dX2_placeOf_20 : decode cX2_placeOf 20 = .ok (.aload_n 0, 1) := by decide +kernel
theorem dX2_placeOf_21 : decode cX2_placeOf 21 = .ok (.getfield 9, 3) := by decide +kernel
theorem dX2_placeOf_24 : decode cX2_placeOf 24 = .ok (.iload_n 2, 1) := by decide +kernel
theorem dX2_placeOf_25 : decode cX2_placeOf 25 = .ok (.iload_n 3, 1) := by decide +kernel
theorem dX2_placeOf_26 : decode cX2_placeOf 26 = .ok (.iadd, 1) := by decide +kernel
theorem dX2_placeOf_27 : decode cX2_placeOf 27 = .ok (.iconst 1, 1) := by decide +kernel
theorem dX2_placeOf_28 : decode cX2_placeOf 28 = .ok (.isub, 1) := by decide +kernel
theorem dX2_placeOf_29 : decode cX2_placeOf 29 = .ok (.iaload, 1) := by decide +kernel
theorem dX2_placeOf_30 : decode cX2_placeOf 30 = .ok (.iload_n 1, 1) := by decide +kernel
theorem dX2_placeOf_31 : decode cX2_placeOf 31 = .ok (.if_icmp .ge 7, 3) := by decide +kernel
theorem dX2_placeOf_34 : decode cX2_placeOf 34 = .ok (.iload_n 2, 1) := by decide +kernel
theorem dX2_placeOf_35 : decode cX2_placeOf 35 = .ok (.iload_n 3, 1) := by decide +kernel
theorem dX2_placeOf_36 : decode cX2_placeOf 36 = .ok (.iadd, 1) := by decide +kernel
theorem dX2_placeOf_37 : decode cX2_placeOf 37 = .ok (.istore_n 2, 1) := by decide +kernel
theorem dX2_placeOf_38 : decode cX2_placeOf 38 = .ok (.iload_n 3, 1) := by decide +kernel
theorem dX2_placeOf_39 : decode cX2_placeOf 39 = .ok (.iconst 2, 1) := by decide +kernel
theorem dX2_placeOf_40 : decode cX2_placeOf 40 = .ok (.idiv, 1) := by decide +kernel
theorem dX2_placeOf_41 : decode cX2_placeOf 41 = .ok (.istore_n 3, 1) := by decide +kernel
theorem dX2_placeOf_42 : decode cX2_placeOf 42 = .ok (.goto (-36), 3) := by decide +kernel
theorem dX2_placeOf_45 : decode cX2_placeOf 45 = .ok (.iload_n 2, 1) := by decide +kernel
theorem dX2_placeOf_46 : decode cX2_placeOf 46 = .ok (.ireturn, 1) := by decide +kernel
theorem dX2_holds_0 : decode cX2_holds 0 = .ok (.iload_n 1, 1) := by decide +kernel
theorem dX2_holds_1 : decode cX2_holds 1 = .ok (.aload_n 0, 1) := by decide +kernel
theorem dX2_holds_2 : decode cX2_holds 2 = .ok (.getfield 18, 3) := by decide +kernel
theorem dX2_holds_5 : decode cX2_holds 5 = .ok (.if_icmp .ge 17, 3) := by decide +kernel
theorem dX2_holds_8 : decode cX2_holds 8 = .ok (.aload_n 0, 1) := by decide +kernel
theorem dX2_holds_9 : decode cX2_holds 9 = .ok (.getfield 9, 3) := by decide +kernel
theorem dX2_holds_12 : decode cX2_holds 12 = .ok (.iload_n 1, 1) := by decide +kernel
theorem dX2_holds_13 : decode cX2_holds 13 = .ok (.iaload, 1) := by decide +kernel
theorem dX2_holds_14 : decode cX2_holds 14 = .ok (.iload_n 2, 1) := by decide +kernel
theorem dX2_holds_15 : decode cX2_holds 15 = .ok (.if_icmp .ne 7, 3) := by decide +kernel
theorem dX2_holds_18 : decode cX2_holds 18 = .ok (.iconst 1, 1) := by decide +kernel
theorem dX2_holds_19 : decode cX2_holds 19 = .ok (.goto 4, 3) := by decide +kernel
theorem dX2_holds_22 : decode cX2_holds 22 = .ok (.iconst 0, 1) := by decide +kernel
theorem dX2_holds_23 : decode cX2_holds 23 = .ok (.ireturn, 1) := by decide +kernel
theorem dX2_insert_0 : decode cX2_insert 0 = .ok (.iload_n 1, 1) := by decide +kernel
theorem dX2_insert_1 : decode cX2_insert 1 = .ok (.aload_n 0, 1) := by decide +kernel
theorem dX2_insert_2 : decode cX2_insert 2 = .ok (.getfield 18, 3) := by decide +kernel
theorem dX2_insert_5 : decode cX2_insert 5 = .ok (.if_icmp .gt 13, 3) := by decide +kernel
theorem dX2_insert_8 : decode cX2_insert 8 = .ok (.aload_n 0, 1) := by decide +kernel
theorem dX2_insert_9 : decode cX2_insert 9 = .ok (.getfield 18, 3) := by decide +kernel
theorem dX2_insert_12 : decode cX2_insert 12 = .ok (.sipush 600, 3) := by decide +kernel
theorem dX2_insert_15 : decode cX2_insert 15 = .ok (.if_icmp .lt 4, 3) := by decide +kernel
theorem dX2_insert_18 : decode cX2_insert 18 = .ok (.return_, 1) := by decide +kernel
theorem dX2_insert_19 : decode cX2_insert 19 = .ok (.aload_n 0, 1) := by decide +kernel
theorem dX2_insert_20 : decode cX2_insert 20 = .ok (.getfield 9, 3) := by decide +kernel
theorem dX2_insert_23 : decode cX2_insert 23 = .ok (.iload_n 1, 1) := by decide +kernel
theorem dX2_insert_24 : decode cX2_insert 24 = .ok (.aload_n 0, 1) := by decide +kernel
theorem dX2_insert_25 : decode cX2_insert 25 = .ok (.getfield 9, 3) := by decide +kernel
theorem dX2_insert_28 : decode cX2_insert 28 = .ok (.iload_n 1, 1) := by decide +kernel
theorem dX2_insert_29 : decode cX2_insert 29 = .ok (.iconst 1, 1) := by decide +kernel
theorem dX2_insert_30 : decode cX2_insert 30 = .ok (.iadd, 1) := by decide +kernel
theorem dX2_insert_31 : decode cX2_insert 31 = .ok (.aload_n 0, 1) := by decide +kernel
theorem dX2_insert_32 : decode cX2_insert 32 = .ok (.getfield 18, 3) := by decide +kernel
theorem dX2_insert_35 : decode cX2_insert 35 = .ok (.iload_n 1, 1) := by decide +kernel
theorem dX2_insert_36 : decode cX2_insert 36 = .ok (.isub, 1) := by decide +kernel
theorem dX2_insert_37 : decode cX2_insert 37 = .ok (.invokestatic 22, 3) := by decide +kernel
theorem dX2_insert_40 : decode cX2_insert 40 = .ok (.aload_n 0, 1) := by decide +kernel
theorem dX2_insert_41 : decode cX2_insert 41 = .ok (.getfield 15, 3) := by decide +kernel
theorem dX2_insert_44 : decode cX2_insert 44 = .ok (.iload_n 1, 1) := by decide +kernel
theorem dX2_insert_45 : decode cX2_insert 45 = .ok (.aload_n 0, 1) := by decide +kernel
theorem dX2_insert_46 : decode cX2_insert 46 = .ok (.getfield 15, 3) := by decide +kernel
theorem dX2_insert_49 : decode cX2_insert 49 = .ok (.iload_n 1, 1) := by decide +kernel
theorem dX2_insert_50 : decode cX2_insert 50 = .ok (.iconst 1, 1) := by decide +kernel
theorem dX2_insert_51 : decode cX2_insert 51 = .ok (.iadd, 1) := by decide +kernel
theorem dX2_insert_52 : decode cX2_insert 52 = .ok (.aload_n 0, 1) := by decide +kernel
theorem dX2_insert_53 : decode cX2_insert 53 = .ok (.getfield 18, 3) := by decide +kernel
theorem dX2_insert_56 : decode cX2_insert 56 = .ok (.iload_n 1, 1) := by decide +kernel
theorem dX2_insert_57 : decode cX2_insert 57 = .ok (.isub, 1) := by decide +kernel
theorem dX2_insert_58 : decode cX2_insert 58 = .ok (.invokestatic 22, 3) := by decide +kernel
theorem dX2_insert_61 : decode cX2_insert 61 = .ok (.aload_n 0, 1) := by decide +kernel
theorem dX2_insert_62 : decode cX2_insert 62 = .ok (.getfield 9, 3) := by decide +kernel
theorem dX2_insert_65 : decode cX2_insert 65 = .ok (.iload_n 1, 1) := by decide +kernel
theorem dX2_insert_66 : decode cX2_insert 66 = .ok (.iload_n 2, 1) := by decide +kernel
theorem dX2_insert_67 : decode cX2_insert 67 = .ok (.iastore, 1) := by decide +kernel
theorem dX2_insert_68 : decode cX2_insert 68 = .ok (.aload_n 0, 1) := by decide +kernel
theorem dX2_insert_69 : decode cX2_insert 69 = .ok (.getfield 15, 3) := by decide +kernel
theorem dX2_insert_72 : decode cX2_insert 72 = .ok (.iload_n 1, 1) := by decide +kernel
theorem dX2_insert_73 : decode cX2_insert 73 = .ok (.iload_n 3, 1) := by decide +kernel
theorem dX2_insert_74 : decode cX2_insert 74 = .ok (.iastore, 1) := by decide +kernel
theorem dX2_insert_75 : decode cX2_insert 75 = .ok (.aload_n 0, 1) := by decide +kernel
theorem dX2_insert_76 : decode cX2_insert 76 = .ok (.dup, 1) := by decide +kernel
theorem dX2_insert_77 : decode cX2_insert 77 = .ok (.getfield 18, 3) := by decide +kernel
theorem dX2_insert_80 : decode cX2_insert 80 = .ok (.iconst 1, 1) := by decide +kernel
theorem dX2_insert_81 : decode cX2_insert 81 = .ok (.iadd, 1) := by decide +kernel
theorem dX2_insert_82 : decode cX2_insert 82 = .ok (.putfield 18, 3) := by decide +kernel
theorem dX2_insert_85 : decode cX2_insert 85 = .ok (.return_, 1) := by decide +kernel
theorem dX3_init_0 : decode cX3_init 0 = .ok (.aload_n 0, 1) := by decide +kernel
theorem dX3_init_1 : decode cX3_init 1 = .ok (.invokespecial 3, 3) := by decide +kernel
theorem dX3_init_4 : decode cX3_init 4 = .ok (.aload_n 0, 1) := by decide +kernel
theorem dX3_init_5 : decode cX3_init 5 = .ok (.iconst 3, 1) := by decide +kernel
theorem dX3_init_6 : decode cX3_init 6 = .ok (.newarray .int, 2) := by decide +kernel
theorem dX3_init_8 : decode cX3_init 8 = .ok (.putfield 9, 3) := by decide +kernel
theorem dX3_init_11 : decode cX3_init 11 = .ok (.aload_n 0, 1) := by decide +kernel
theorem dX3_init_12 : decode cX3_init 12 = .ok (.iconst 4, 1) := by decide +kernel
theorem dX3_init_13 : decode cX3_init 13 = .ok (.newarray .int, 2) := by decide +kernel
theorem dX3_init_15 : decode cX3_init 15 = .ok (.putfield 15, 3) := by decide +kernel
theorem dX3_init_18 : decode cX3_init 18 = .ok (.aload_n 0, 1) := by decide +kernel
theorem dX3_init_19 : decode cX3_init 19 = .ok (.bipush 8, 2) := by decide +kernel
theorem dX3_init_21 : decode cX3_init 21 = .ok (.newarray .int, 2) := by decide +kernel
theorem dX3_init_23 : decode cX3_init 23 = .ok (.putfield 18, 3) := by decide +kernel
theorem dX3_init_26 : decode cX3_init 26 = .ok (.aload_n 0, 1) := by decide +kernel
theorem dX3_init_27 : decode cX3_init 27 = .ok (.iconst 0, 1) := by decide +kernel
theorem dX3_init_28 : decode cX3_init 28 = .ok (.putfield 21, 3) := by decide +kernel
theorem dX3_init_31 : decode cX3_init 31 = .ok (.aload_n 0, 1) := by decide +kernel
theorem dX3_init_32 : decode cX3_init 32 = .ok (.iconst 0, 1) := by decide +kernel
theorem dX3_init_33 : decode cX3_init 33 = .ok (.putfield 25, 3) := by decide +kernel
theorem dX3_init_36 : decode cX3_init 36 = .ok (.aload_n 0, 1) := by decide +kernel
theorem dX3_init_37 : decode cX3_init 37 = .ok (.new 28, 3) := by decide +kernel
theorem dX3_init_40 : decode cX3_init 40 = .ok (.dup, 1) := by decide +kernel
theorem dX3_init_41 : decode cX3_init 41 = .ok (.sipush 600, 3) := by decide +kernel
theorem dX3_init_44 : decode cX3_init 44 = .ok (.invokespecial 30, 3) := by decide +kernel
theorem dX3_init_47 : decode cX3_init 47 = .ok (.putfield 33, 3) := by decide +kernel
theorem dX3_init_50 : decode cX3_init 50 = .ok (.aload_n 0, 1) := by decide +kernel
theorem dX3_init_51 : decode cX3_init 51 = .ok (.iconst 0, 1) := by decide +kernel
theorem dX3_init_52 : decode cX3_init 52 = .ok (.putfield 37, 3) := by decide +kernel
theorem dX3_init_55 : decode cX3_init 55 = .ok (.aload_n 0, 1) := by decide +kernel
theorem dX3_init_56 : decode cX3_init 56 = .ok (.iconst 4, 1) := by decide +kernel
theorem dX3_init_57 : decode cX3_init 57 = .ok (.newarray .int, 2) := by decide +kernel
theorem dX3_init_59 : decode cX3_init 59 = .ok (.putfield 40, 3) := by decide +kernel
theorem dX3_init_62 : decode cX3_init 62 = .ok (.return_, 1) := by decide +kernel
theorem dX3_forget_0 : decode cX3_forget 0 = .ok (.aload_n 0, 1) := by decide +kernel
theorem dX3_forget_1 : decode cX3_forget 1 = .ok (.getfield 33, 3) := by decide +kernel
theorem dX3_forget_4 : decode cX3_forget 4 = .ok (.iconst 0, 1) := by decide +kernel
theorem dX3_forget_5 : decode cX3_forget 5 = .ok (.putfield 43, 3) := by decide +kernel
theorem dX3_forget_8 : decode cX3_forget 8 = .ok (.aload_n 0, 1) := by decide +kernel
theorem dX3_forget_9 : decode cX3_forget 9 = .ok (.getfield 40, 3) := by decide +kernel
theorem dX3_forget_12 : decode cX3_forget 12 = .ok (.iconst 0, 1) := by decide +kernel
theorem dX3_forget_13 : decode cX3_forget 13 = .ok (.invokestatic 46, 3) := by decide +kernel
theorem dX3_forget_16 : decode cX3_forget 16 = .ok (.return_, 1) := by decide +kernel
theorem dX3_call_0 : decode cX3_call 0 = .ok (.aload_n 0, 1) := by decide +kernel
theorem dX3_call_1 : decode cX3_call 1 = .ok (.iload_n 2, 1) := by decide +kernel
theorem dX3_call_2 : decode cX3_call 2 = .ok (.iload_n 3, 1) := by decide +kernel
theorem dX3_call_3 : decode cX3_call 3 = .ok (.iload 4, 2) := by decide +kernel
theorem dX3_call_5 : decode cX3_call 5 = .ok (.invokevirtual 52, 3) := by decide +kernel
theorem dX3_call_8 : decode cX3_call 8 = .ok (.iconst 0, 1) := by decide +kernel
theorem dX3_call_9 : decode cX3_call 9 = .ok (.istore 5, 2) := by decide +kernel
theorem dX3_call_11 : decode cX3_call 11 = .ok (.iconst 1, 1) := by decide +kernel
theorem dX3_call_12 : decode cX3_call 12 = .ok (.istore 6, 2) := by decide +kernel
theorem dX3_call_14 : decode cX3_call 14 = .ok (.iload 6, 2) := by decide +kernel
theorem dX3_call_16 : decode cX3_call 16 = .ok (.sipush 300, 3) := by decide +kernel
theorem dX3_call_19 : decode cX3_call 19 = .ok (.if_icmp .gt 154, 3) := by decide +kernel
theorem dX3_call_22 : decode cX3_call 22 = .ok (.aload_n 1, 1) := by decide +kernel
theorem dX3_call_23 : decode cX3_call 23 = .ok (.iload 5, 2) := by decide +kernel
theorem dX3_call_25 : decode cX3_call 25 = .ok (.invokevirtual 56, 3) := by decide +kernel
theorem dX3_call_28 : decode cX3_call 28 = .ok (.ifCond .eq 145, 3) := by decide +kernel
theorem dX3_call_31 : decode cX3_call 31 = .ok (.aload_n 1, 1) := by decide +kernel
theorem dX3_call_32 : decode cX3_call 32 = .ok (.getfield 62, 3) := by decide +kernel
theorem dX3_call_35 : decode cX3_call 35 = .ok (.iload 5, 2) := by decide +kernel
theorem dX3_call_37 : decode cX3_call 37 = .ok (.iaload, 1) := by decide +kernel
theorem dX3_call_38 : decode cX3_call 38 = .ok (.istore 7, 2) := by decide +kernel
theorem dX3_call_40 : decode cX3_call 40 = .ok (.aload_n 1, 1) := by decide +kernel
theorem dX3_call_41 : decode cX3_call 41 = .ok (.getfield 65, 3) := by decide +kernel
theorem dX3_call_44 : decode cX3_call 44 = .ok (.iload 5, 2) := by decide +kernel
theorem dX3_call_46 : decode cX3_call 46 = .ok (.iaload, 1) := by decide +kernel
theorem dX3_call_47 : decode cX3_call 47 = .ok (.istore 8, 2) := by decide +kernel
theorem dX3_call_49 : decode cX3_call 49 = .ok (.iload 7, 2) := by decide +kernel
theorem dX3_call_51 : decode cX3_call 51 = .ok (.bipush 17, 2) := by decide +kernel
theorem dX3_call_53 : decode cX3_call 53 = .ok (.if_icmp .eq 10, 3) := by decide +kernel
theorem dX3_call_56 : decode cX3_call 56 = .ok (.iload 7, 2) := by decide +kernel
theorem dX3_call_58 : decode cX3_call 58 = .ok (.bipush 18, 2) := by decide +kernel
theorem dX3_call_60 : decode cX3_call 60 = .ok (.if_icmp .ne 38, 3) := by decide +kernel
theorem dX3_call_63 : decode cX3_call 63 = .ok (.aload_n 0, 1) := by decide +kernel
theorem dX3_call_64 : decode cX3_call 64 = .ok (.getfield 40, 3) := by decide +kernel
theorem dX3_call_67 : decode cX3_call 67 = .ok (.aload_n 1, 1) := by decide +kernel
theorem dX3_call_68 : decode cX3_call 68 = .ok (.getfield 68, 3) := by decide +kernel
theorem dX3_call_71 : decode cX3_call 71 = .ok (.dup2, 1) := by decide +kernel
theorem dX3_call_72 : decode cX3_call 72 = .ok (.iaload, 1) := by decide +kernel
theorem dX3_call_73 : decode cX3_call 73 = .ok (.iload 6, 2) := by decide +kernel
theorem dX3_call_75 : decode cX3_call 75 = .ok (.iadd, 1) := by decide +kernel
theorem dX3_call_76 : decode cX3_call 76 = .ok (.iastore, 1) := by decide +kernel
theorem dX3_call_77 : decode cX3_call 77 = .ok (.aload_n 0, 1) := by decide +kernel
theorem dX3_call_78 : decode cX3_call 78 = .ok (.aload_n 0, 1) := by decide +kernel
theorem dX3_call_79 : decode cX3_call 79 = .ok (.invokevirtual 71, 3) := by decide +kernel
theorem dX3_call_82 : decode cX3_call 82 = .ok (.putfield 25, 3) := by decide +kernel
theorem dX3_call_85 : decode cX3_call 85 = .ok (.iload 7, 2) := by decide +kernel
theorem dX3_call_87 : decode cX3_call 87 = .ok (.bipush 17, 2) := by decide +kernel
theorem dX3_call_89 : decode cX3_call 89 = .ok (.if_icmp .ne 7, 3) := by decide +kernel
theorem dX3_call_92 : decode cX3_call 92 = .ok (.iconst 1, 1) := by decide +kernel
theorem dX3_call_93 : decode cX3_call 93 = .ok (.goto 4, 3) := by decide +kernel
theorem dX3_call_96 : decode cX3_call 96 = .ok (.iconst 2, 1) := by decide +kernel
theorem dX3_call_97 : decode cX3_call 97 = .ok (.ireturn, 1) := by decide +kernel
theorem dX3_call_98 : decode cX3_call 98 = .ok (.iload 7, 2) := by decide +kernel
theorem dX3_call_100 : decode cX3_call 100 = .ok (.bipush 16, 2) := by decide +kernel
theorem dX3_call_102 : decode cX3_call 102 = .ok (.if_icmp .ne 14, 3) := by decide +kernel
theorem dX3_call_105 : decode cX3_call 105 = .ok (.aload_n 0, 1) := by decide +kernel
theorem dX3_call_106 : decode cX3_call 106 = .ok (.getfield 37, 3) := by decide +kernel
theorem dX3_call_109 : decode cX3_call 109 = .ok (.bipush 20, 2) := by decide +kernel
theorem dX3_call_111 : decode cX3_call 111 = .ok (.if_icmp .lt 5, 3) := by decide +kernel
theorem dX3_call_114 : decode cX3_call 114 = .ok (.iconst 0, 1) := by decide +kernel
theorem dX3_call_115 : decode cX3_call 115 = .ok (.ireturn, 1) := by decide +kernel
theorem dX3_call_116 : decode cX3_call 116 = .ok (.iload 7, 2) := by decide +kernel
theorem dX3_call_118 : decode cX3_call 118 = .ok (.invokestatic 75, 3) := by decide +kernel
theorem dX3_call_121 : decode cX3_call 121 = .ok (.ifCond .eq 18, 3) := by decide +kernel
theorem dX3_call_124 : decode cX3_call 124 = .ok (.aload_n 0, 1) := by decide +kernel
theorem dX3_call_125 : decode cX3_call 125 = .ok (.iload 7, 2) := by decide +kernel
theorem dX3_call_127 : decode cX3_call 127 = .ok (.iload 8, 2) := by decide +kernel
theorem dX3_call_129 : decode cX3_call 129 = .ok (.iload 5, 2) := by decide +kernel
theorem dX3_call_131 : decode cX3_call 131 = .ok (.invokevirtual 78, 3) := by decide +kernel
theorem dX3_call_134 : decode cX3_call 134 = .ok (.istore 5, 2) := by decide +kernel
theorem dX3_call_136 : decode cX3_call 136 = .ok (.goto 31, 3) := by decide +kernel
theorem dX3_call_139 : decode cX3_call 139 = .ok (.iload 7, 2) := by decide +kernel
theorem dX3_call_141 : decode cX3_call 141 = .ok (.invokestatic 82, 3) := by decide +kernel
theorem dX3_call_144 : decode cX3_call 144 = .ok (.ifCond .eq 12, 3) := by decide +kernel
theorem dX3_call_147 : decode cX3_call 147 = .ok (.aload_n 0, 1) := by decide +kernel
theorem dX3_call_148 : decode cX3_call 148 = .ok (.iload 7, 2) := by decide +kernel
theorem dX3_call_150 : decode cX3_call 150 = .ok (.invokevirtual 85, 3) := by decide +kernel
theorem dX3_call_153 : decode cX3_call 153 = .ok (.goto 11, 3) := by decide +kernel
theorem dX3_call_156 : decode cX3_call 156 = .ok (.aload_n 0, 1) := by decide +kernel
theorem dX3_call_157 : decode cX3_call 157 = .ok (.iload 7, 2) := by decide +kernel
theorem dX3_call_159 : decode cX3_call 159 = .ok (.iload 8, 2) := by decide +kernel
theorem dX3_call_161 : decode cX3_call 161 = .ok (.invokevirtual 88, 3) := by decide +kernel
theorem dX3_call_164 : decode cX3_call 164 = .ok (.iinc 5 1, 3) := by decide +kernel
theorem dX3_call_167 : decode cX3_call 167 = .ok (.iinc 6 1, 3) := by decide +kernel
theorem dX3_call_170 : decode cX3_call 170 = .ok (.goto (-156), 3) := by decide +kernel
theorem dX3_call_173 : decode cX3_call 173 = .ok (.iconst 0, 1) := by decide +kernel
theorem dX3_call_174 : decode cX3_call 174 = .ok (.ireturn, 1) := by decide +kernel
theorem dX3_begin_0 : decode cX3_begin 0 = .ok (.aload_n 0, 1) := by decide +kernel
theorem dX3_begin_1 : decode cX3_begin 1 = .ok (.getfield 9, 3) := by decide +kernel
theorem dX3_begin_4 : decode cX3_begin 4 = .ok (.iconst 0, 1) := by decide +kernel
theorem dX3_begin_5 : decode cX3_begin 5 = .ok (.iload_n 1, 1) := by decide +kernel
theorem dX3_begin_6 : decode cX3_begin 6 = .ok (.iastore, 1) := by decide +kernel
theorem dX3_begin_7 : decode cX3_begin 7 = .ok (.aload_n 0, 1) := by decide +kernel
theorem dX3_begin_8 : decode cX3_begin 8 = .ok (.getfield 9, 3) := by decide +kernel
theorem dX3_begin_11 : decode cX3_begin 11 = .ok (.iconst 1, 1) := by decide +kernel
theorem dX3_begin_12 : decode cX3_begin 12 = .ok (.iload_n 2, 1) := by decide +kernel
theorem dX3_begin_13 : decode cX3_begin 13 = .ok (.iastore, 1) := by decide +kernel
theorem dX3_begin_14 : decode cX3_begin 14 = .ok (.aload_n 0, 1) := by decide +kernel
theorem dX3_begin_15 : decode cX3_begin 15 = .ok (.getfield 9, 3) := by decide +kernel
theorem dX3_begin_18 : decode cX3_begin 18 = .ok (.iconst 2, 1) := by decide +kernel
theorem dX3_begin_19 : decode cX3_begin 19 = .ok (.iload_n 3, 1) := by decide +kernel
theorem dX3_begin_20 : decode cX3_begin 20 = .ok (.iastore, 1) := by decide +kernel
theorem dX3_begin_21 : decode cX3_begin 21 = .ok (.aload_n 0, 1) := by decide +kernel
theorem dX3_begin_22 : decode cX3_begin 22 = .ok (.getfield 15, 3) := by decide +kernel
theorem dX3_begin_25 : decode cX3_begin 25 = .ok (.iconst 0, 1) := by decide +kernel
theorem dX3_begin_26 : decode cX3_begin 26 = .ok (.invokestatic 46, 3) := by decide +kernel
theorem dX3_begin_29 : decode cX3_begin 29 = .ok (.aload_n 0, 1) := by decide +kernel
theorem dX3_begin_30 : decode cX3_begin 30 = .ok (.iconst 0, 1) := by decide +kernel
theorem dX3_begin_31 : decode cX3_begin 31 = .ok (.putfield 21, 3) := by decide +kernel
theorem dX3_begin_34 : decode cX3_begin 34 = .ok (.aload_n 0, 1) := by decide +kernel
theorem dX3_begin_35 : decode cX3_begin 35 = .ok (.iconst 0, 1) := by decide +kernel
theorem dX3_begin_36 : decode cX3_begin 36 = .ok (.putfield 37, 3) := by decide +kernel
theorem dX3_begin_39 : decode cX3_begin 39 = .ok (.return_, 1) := by decide +kernel
theorem dX3_jump_0 : decode cX3_jump 0 = .ok (.iload_n 1, 1) := by decide +kernel
theorem dX3_jump_1 : decode cX3_jump 1 = .ok (.bipush 15, 2) := by decide +kernel
theorem dX3_jump_3 : decode cX3_jump 3 = .ok (.if_icmp .ne 14, 3) := by decide +kernel
theorem dX3_jump_6 : decode cX3_jump 6 = .ok (.aload_n 0, 1) := by decide +kernel
theorem dX3_jump_7 : decode cX3_jump 7 = .ok (.invokevirtual 71, 3) := by decide +kernel
theorem dX3_jump_10 : decode cX3_jump 10 = .ok (.ifCond .eq 7, 3) := by decide +kernel
theorem dX3_jump_13 : decode cX3_jump 13 = .ok (.iload_n 3, 1) := by decide +kernel
theorem dX3_jump_14 : decode cX3_jump 14 = .ok (.iconst 1, 1) := by decide +kernel
theorem dX3_jump_15 : decode cX3_jump 15 = .ok (.iadd, 1) := by decide +kernel
theorem dX3_jump_16 : decode cX3_jump 16 = .ok (.ireturn, 1) := by decide +kernel
theorem dX3_jump_17 : decode cX3_jump 17 = .ok (.iload_n 2, 1) := by decide +kernel
theorem dX3_jump_18 : decode cX3_jump 18 = .ok (.ireturn, 1) := by decide +kernel
theorem dX3_combine_0 : decode cX3_combine 0 = .ok (.aload_n 0, 1) := by decide +kernel
theorem dX3_combine_1 : decode cX3_combine 1 = .ok (.invokevirtual 71, 3) := by decide +kernel
theorem dX3_combine_4 : decode cX3_combine 4 = .ok (.istore_n 2, 1) := by decide +kernel
theorem dX3_combine_5 : decode cX3_combine 5 = .ok (.aload_n 0, 1) := by decide +kernel
theorem dX3_combine_6 : decode cX3_combine 6 = .ok (.invokevirtual 71, 3) := by decide +kernel
theorem dX3_combine_9 : decode cX3_combine 9 = .ok (.istore_n 3, 1) := by decide +kernel
theorem dX3_combine_10 : decode cX3_combine 10 = .ok (.aload_n 0, 1) := by decide +kernel
theorem dX3_combine_11 : decode cX3_combine 11 = .ok (.iload_n 1, 1) := by decide +kernel
theorem dX3_combine_12 : decode cX3_combine 12 = .ok (.iload_n 3, 1) := by decide +kernel
theorem dX3_combine_13 : decode cX3_combine 13 = .ok (.iload_n 2, 1) := by decide +kernel
theorem dX3_combine_14 : decode cX3_combine 14 = .ok (.invokestatic 92, 3) := by decide +kernel
theorem dX3_combine_17 : decode cX3_combine 17 = .ok (.invokevirtual 95, 3) := by decide +kernel
theorem dX3_combine_20 : decode cX3_combine 20 = .ok (.return_, 1) := by decide +kernel
theorem dX3_combined_0 : decode cX3_combined 0 = .ok (.iload_n 0, 1) := by decide +kernel
theorem dX3_combined_1 : decode cX3_combined 1 = .ok (.tableswitch 86 7 12 #[39, 43, 47, 51, 63, 75], 39) := by decide +kernel
theorem dX3_combined_40 : decode cX3_combined 40 = .ok (.iload_n 1, 1) := by decide +kernel
theorem dX3_combined_41 : decode cX3_combined 41 = .ok (.iload_n 2, 1) := by decide +kernel
theorem dX3_combined_42 : decode cX3_combined 42 = .ok (.iadd, 1) := by decide +kernel
theorem dX3_combined_43 : decode cX3_combined 43 = .ok (.ireturn, 1) := by decide +kernel
theorem dX3_combined_44 : decode cX3_combined 44 = .ok (.iload_n 1, 1) := by decide +kernel
theorem dX3_combined_45 : decode cX3_combined 45 = .ok (.iload_n 2, 1) := by decide +kernel
theorem dX3_combined_46 : decode cX3_combined 46 = .ok (.isub, 1) := by decide +kernel
theorem dX3_combined_47 : decode cX3_combined 47 = .ok (.ireturn, 1) := by decide +kernel
theorem dX3_combined_48 : decode cX3_combined 48 = .ok (.iload_n 1, 1) := by decide +kernel
theorem dX3_combined_49 : decode cX3_combined 49 = .ok (.iload_n 2, 1) := by decide +kernel
theorem dX3_combined_50 : decode cX3_combined 50 = .ok (.imul, 1) := by decide +kernel
theorem dX3_combined_51 : decode cX3_combined 51 = .ok (.ireturn, 1) := by decide +kernel
theorem dX3_combined_52 : decode cX3_combined 52 = .ok (.iload_n 2, 1) := by decide +kernel
theorem dX3_combined_53 : decode cX3_combined 53 = .ok (.ifCond .ne 7, 3) := by decide +kernel
theorem dX3_combined_56 : decode cX3_combined 56 = .ok (.iconst 0, 1) := by decide +kernel
theorem dX3_combined_57 : decode cX3_combined 57 = .ok (.goto 6, 3) := by decide +kernel
theorem dX3_combined_60 : decode cX3_combined 60 = .ok (.iload_n 1, 1) := by decide +kernel
theorem dX3_combined_61 : decode cX3_combined 61 = .ok (.iload_n 2, 1) := by decide +kernel
theorem dX3_combined_62 : decode cX3_combined 62 = .ok (.idiv, 1) := by decide +kernel
theorem dX3_combined_63 : decode cX3_combined 63 = .ok (.ireturn, 1) := by decide +kernel
theorem dX3_combined_64 : decode cX3_combined 64 = .ok (.iload_n 2, 1) := by decide +kernel
theorem dX3_combined_65 : decode cX3_combined 65 = .ok (.ifCond .ne 7, 3) := by decide +kernel
theorem dX3_combined_68 : decode cX3_combined 68 = .ok (.iconst 0, 1) := by decide +kernel
theorem dX3_combined_69 : decode cX3_combined 69 = .ok (.goto 6, 3) := by decide +kernel
theorem dX3_combined_72 : decode cX3_combined 72 = .ok (.iload_n 1, 1) := by decide +kernel
theorem dX3_combined_73 : decode cX3_combined 73 = .ok (.iload_n 2, 1) := by decide +kernel
theorem dX3_combined_74 : decode cX3_combined 74 = .ok (.irem, 1) := by decide +kernel
theorem dX3_combined_75 : decode cX3_combined 75 = .ok (.ireturn, 1) := by decide +kernel
theorem dX3_combined_76 : decode cX3_combined 76 = .ok (.iload_n 1, 1) := by decide +kernel
theorem dX3_combined_77 : decode cX3_combined 77 = .ok (.iload_n 2, 1) := by decide +kernel
theorem dX3_combined_78 : decode cX3_combined 78 = .ok (.if_icmp .ge 7, 3) := by decide +kernel
theorem dX3_combined_81 : decode cX3_combined 81 = .ok (.iconst 1, 1) := by decide +kernel
theorem dX3_combined_82 : decode cX3_combined 82 = .ok (.goto 4, 3) := by decide +kernel
theorem dX3_combined_85 : decode cX3_combined 85 = .ok (.iconst 0, 1) := by decide +kernel
theorem dX3_combined_86 : decode cX3_combined 86 = .ok (.ireturn, 1) := by decide +kernel
theorem dX3_combined_87 : decode cX3_combined 87 = .ok (.iload_n 1, 1) := by decide +kernel
theorem dX3_combined_88 : decode cX3_combined 88 = .ok (.iload_n 2, 1) := by decide +kernel
theorem dX3_combined_89 : decode cX3_combined 89 = .ok (.if_icmp .ne 7, 3) := by decide +kernel
theorem dX3_combined_92 : decode cX3_combined 92 = .ok (.iconst 1, 1) := by decide +kernel
theorem dX3_combined_93 : decode cX3_combined 93 = .ok (.goto 4, 3) := by decide +kernel
theorem dX3_combined_96 : decode cX3_combined 96 = .ok (.iconst 0, 1) := by decide +kernel
theorem dX3_combined_97 : decode cX3_combined 97 = .ok (.ireturn, 1) := by decide +kernel
theorem dX3_move_0 : decode cX3_move 0 = .ok (.iload_n 1, 1) := by decide +kernel
theorem dX3_move_1 : decode cX3_move 1 = .ok (.tableswitch 168 0 6 #[43, 51, 77, 103, 115, 133, 160], 43) := by decide +kernel
theorem dX3_move_44 : decode cX3_move 44 = .ok (.aload_n 0, 1) := by decide +kernel
theorem dX3_move_45 : decode cX3_move 45 = .ok (.iload_n 2, 1) := by decide +kernel
theorem dX3_move_46 : decode cX3_move 46 = .ok (.invokevirtual 95, 3) := by decide +kernel
theorem dX3_move_49 : decode cX3_move 49 = .ok (.goto 124, 3) := by decide +kernel
theorem dX3_move_52 : decode cX3_move 52 = .ok (.aload_n 0, 1) := by decide +kernel
theorem dX3_move_53 : decode cX3_move 53 = .ok (.iload_n 2, 1) := by decide +kernel
theorem dX3_move_54 : decode cX3_move 54 = .ok (.ifCond .lt 17, 3) := by decide +kernel
theorem dX3_move_57 : decode cX3_move 57 = .ok (.iload_n 2, 1) := by decide +kernel
theorem dX3_move_58 : decode cX3_move 58 = .ok (.iconst 3, 1) := by decide +kernel
theorem dX3_move_59 : decode cX3_move 59 = .ok (.if_icmp .ge 12, 3) := by decide +kernel
theorem dX3_move_62 : decode cX3_move 62 = .ok (.aload_n 0, 1) := by decide +kernel
theorem dX3_move_63 : decode cX3_move 63 = .ok (.getfield 9, 3) := by decide +kernel
theorem dX3_move_66 : decode cX3_move 66 = .ok (.iload_n 2, 1) := by decide +kernel
theorem dX3_move_67 : decode cX3_move 67 = .ok (.iaload, 1) := by decide +kernel
theorem dX3_move_68 : decode cX3_move 68 = .ok (.goto 4, 3) := by decide +kernel
theorem dX3_move_71 : decode cX3_move 71 = .ok (.iconst 0, 1) := by decide +kernel
theorem dX3_move_72 : decode cX3_move 72 = .ok (.invokevirtual 95, 3) := by decide +kernel
theorem dX3_move_75 : decode cX3_move 75 = .ok (.goto 98, 3) := by decide +kernel
theorem dX3_move_78 : decode cX3_move 78 = .ok (.aload_n 0, 1) := by decide +kernel
theorem dX3_move_79 : decode cX3_move 79 = .ok (.iload_n 2, 1) := by decide +kernel
theorem dX3_move_80 : decode cX3_move 80 = .ok (.ifCond .lt 17, 3) := by decide +kernel
theorem dX3_move_83 : decode cX3_move 83 = .ok (.iload_n 2, 1) := by decide +kernel
theorem dX3_move_84 : decode cX3_move 84 = .ok (.iconst 4, 1) := by decide +kernel
theorem dX3_move_85 : decode cX3_move 85 = .ok (.if_icmp .ge 12, 3) := by decide +kernel
theorem dX3_move_88 : decode cX3_move 88 = .ok (.aload_n 0, 1) := by decide +kernel
theorem dX3_move_89 : decode cX3_move 89 = .ok (.getfield 15, 3) := by decide +kernel
theorem dX3_move_92 : decode cX3_move 92 = .ok (.iload_n 2, 1) := by decide +kernel
theorem dX3_move_93 : decode cX3_move 93 = .ok (.iaload, 1) := by decide +kernel
theorem dX3_move_94 : decode cX3_move 94 = .ok (.goto 4, 3) := by decide +kernel
theorem dX3_move_97 : decode cX3_move 97 = .ok (.iconst 0, 1) := by decide +kernel
theorem dX3_move_98 : decode cX3_move 98 = .ok (.invokevirtual 95, 3) := by decide +kernel
theorem dX3_move_101 : decode cX3_move 101 = .ok (.goto 72, 3) := by decide +kernel
theorem dX3_move_104 : decode cX3_move 104 = .ok (.aload_n 0, 1) := by decide +kernel
theorem dX3_move_105 : decode cX3_move 105 = .ok (.iload_n 2, 1) := by decide +kernel
theorem dX3_move_106 : decode cX3_move 106 = .ok (.aload_n 0, 1) := by decide +kernel
theorem dX3_move_107 : decode cX3_move 107 = .ok (.invokevirtual 71, 3) := by decide +kernel
theorem dX3_move_110 : decode cX3_move 110 = .ok (.invokevirtual 98, 3) := by decide +kernel
theorem dX3_move_113 : decode cX3_move 113 = .ok (.goto 60, 3) := by decide +kernel
theorem dX3_move_116 : decode cX3_move 116 = .ok (.aload_n 0, 1) := by decide +kernel
theorem dX3_move_117 : decode cX3_move 117 = .ok (.invokevirtual 71, 3) := by decide +kernel
theorem dX3_move_120 : decode cX3_move 120 = .ok (.istore_n 3, 1) := by decide +kernel
theorem dX3_move_121 : decode cX3_move 121 = .ok (.aload_n 0, 1) := by decide +kernel
theorem dX3_move_122 : decode cX3_move 122 = .ok (.iload_n 3, 1) := by decide +kernel
theorem dX3_move_123 : decode cX3_move 123 = .ok (.invokevirtual 95, 3) := by decide +kernel
theorem dX3_move_126 : decode cX3_move 126 = .ok (.aload_n 0, 1) := by decide +kernel
theorem dX3_move_127 : decode cX3_move 127 = .ok (.iload_n 3, 1) := by decide +kernel
theorem dX3_move_128 : decode cX3_move 128 = .ok (.invokevirtual 95, 3) := by decide +kernel
theorem dX3_move_131 : decode cX3_move 131 = .ok (.goto 42, 3) := by decide +kernel
theorem dX3_move_134 : decode cX3_move 134 = .ok (.aload_n 0, 1) := by decide +kernel
theorem dX3_move_135 : decode cX3_move 135 = .ok (.invokevirtual 71, 3) := by decide +kernel
theorem dX3_move_138 : decode cX3_move 138 = .ok (.istore 4, 2) := by decide +kernel
theorem dX3_move_140 : decode cX3_move 140 = .ok (.aload_n 0, 1) := by decide +kernel
theorem dX3_move_141 : decode cX3_move 141 = .ok (.invokevirtual 71, 3) := by decide +kernel
theorem dX3_move_144 : decode cX3_move 144 = .ok (.istore 5, 2) := by decide +kernel
theorem dX3_move_146 : decode cX3_move 146 = .ok (.aload_n 0, 1) := by decide +kernel
theorem dX3_move_147 : decode cX3_move 147 = .ok (.iload 4, 2) := by decide +kernel
theorem dX3_move_149 : decode cX3_move 149 = .ok (.invokevirtual 95, 3) := by decide +kernel
theorem dX3_move_152 : decode cX3_move 152 = .ok (.aload_n 0, 1) := by decide +kernel
theorem dX3_move_153 : decode cX3_move 153 = .ok (.iload 5, 2) := by decide +kernel
theorem dX3_move_155 : decode cX3_move 155 = .ok (.invokevirtual 95, 3) := by decide +kernel
theorem dX3_move_158 : decode cX3_move 158 = .ok (.goto 15, 3) := by decide +kernel
theorem dX3_move_161 : decode cX3_move 161 = .ok (.aload_n 0, 1) := by decide +kernel
theorem dX3_move_162 : decode cX3_move 162 = .ok (.invokevirtual 71, 3) := by decide +kernel
theorem dX3_move_165 : decode cX3_move 165 = .ok (.pop, 1) := by decide +kernel
theorem dX3_move_166 : decode cX3_move 166 = .ok (.goto 7, 3) := by decide +kernel
theorem dX3_move_169 : decode cX3_move 169 = .ok (.aload_n 0, 1) := by decide +kernel
theorem dX3_move_170 : decode cX3_move 170 = .ok (.invokevirtual 101, 3) := by decide +kernel
theorem dX3_move_173 : decode cX3_move 173 = .ok (.return_, 1) := by decide +kernel
theorem dX3_emit_0 : decode cX3_emit 0 = .ok (.aload_n 0, 1) := by decide +kernel
theorem dX3_emit_1 : decode cX3_emit 1 = .ok (.invokevirtual 71, 3) := by decide +kernel
theorem dX3_emit_4 : decode cX3_emit 4 = .ok (.istore_n 1, 1) := by decide +kernel
theorem dX3_emit_5 : decode cX3_emit 5 = .ok (.aload_n 0, 1) := by decide +kernel
theorem dX3_emit_6 : decode cX3_emit 6 = .ok (.invokevirtual 71, 3) := by decide +kernel
theorem dX3_emit_9 : decode cX3_emit 9 = .ok (.istore_n 2, 1) := by decide +kernel
theorem dX3_emit_10 : decode cX3_emit 10 = .ok (.aload_n 0, 1) := by decide +kernel
theorem dX3_emit_11 : decode cX3_emit 11 = .ok (.dup, 1) := by decide +kernel
theorem dX3_emit_12 : decode cX3_emit 12 = .ok (.getfield 37, 3) := by decide +kernel
theorem dX3_emit_15 : decode cX3_emit 15 = .ok (.iconst 1, 1) := by decide +kernel
theorem dX3_emit_16 : decode cX3_emit 16 = .ok (.iadd, 1) := by decide +kernel
theorem dX3_emit_17 : decode cX3_emit 17 = .ok (.putfield 37, 3) := by decide +kernel
theorem dX3_emit_20 : decode cX3_emit 20 = .ok (.aload_n 0, 1) := by decide +kernel
theorem dX3_emit_21 : decode cX3_emit 21 = .ok (.getfield 33, 3) := by decide +kernel
theorem dX3_emit_24 : decode cX3_emit 24 = .ok (.iload_n 2, 1) := by decide +kernel
theorem dX3_emit_25 : decode cX3_emit 25 = .ok (.iload_n 1, 1) := by decide +kernel
theorem dX3_emit_26 : decode cX3_emit 26 = .ok (.invokevirtual 104, 3) := by decide +kernel
theorem dX3_emit_29 : decode cX3_emit 29 = .ok (.pop, 1) := by decide +kernel
theorem dX3_emit_30 : decode cX3_emit 30 = .ok (.return_, 1) := by decide +kernel
theorem dX3_store_0 : decode cX3_store 0 = .ok (.iload_n 1, 1) := by decide +kernel
theorem dX3_store_1 : decode cX3_store 1 = .ok (.ifCond .lt 15, 3) := by decide +kernel
theorem dX3_store_4 : decode cX3_store 4 = .ok (.iload_n 1, 1) := by decide +kernel
theorem dX3_store_5 : decode cX3_store 5 = .ok (.iconst 4, 1) := by decide +kernel
theorem dX3_store_6 : decode cX3_store 6 = .ok (.if_icmp .ge 10, 3) := by decide +kernel
theorem dX3_store_9 : decode cX3_store 9 = .ok (.aload_n 0, 1) := by decide +kernel
theorem dX3_store_10 : decode cX3_store 10 = .ok (.getfield 15, 3) := by decide +kernel
theorem dX3_store_13 : decode cX3_store 13 = .ok (.iload_n 1, 1) := by decide +kernel
theorem dX3_store_14 : decode cX3_store 14 = .ok (.iload_n 2, 1) := by decide +kernel
theorem dX3_store_15 : decode cX3_store 15 = .ok (.iastore, 1) := by decide +kernel
theorem dX3_store_16 : decode cX3_store 16 = .ok (.return_, 1) := by decide +kernel
theorem dX3_push_0 : decode cX3_push 0 = .ok (.aload_n 0, 1) := by decide +kernel
theorem dX3_push_1 : decode cX3_push 1 = .ok (.getfield 21, 3) := by decide +kernel
theorem dX3_push_4 : decode cX3_push 4 = .ok (.bipush 8, 2) := by decide +kernel
theorem dX3_push_6 : decode cX3_push 6 = .ok (.if_icmp .ge 23, 3) := by decide +kernel
theorem dX3_push_9 : decode cX3_push 9 = .ok (.aload_n 0, 1) := by decide +kernel
theorem dX3_push_10 : decode cX3_push 10 = .ok (.getfield 18, 3) := by decide +kernel
theorem dX3_push_13 : decode cX3_push 13 = .ok (.aload_n 0, 1) := by decide +kernel
theorem dX3_push_14 : decode cX3_push 14 = .ok (.getfield 21, 3) := by decide +kernel
theorem dX3_push_17 : decode cX3_push 17 = .ok (.iload_n 1, 1) := by decide +kernel
theorem dX3_push_18 : decode cX3_push 18 = .ok (.iastore, 1) := by decide +kernel
theorem dX3_push_19 : decode cX3_push 19 = .ok (.aload_n 0, 1) := by decide +kernel
theorem dX3_push_20 : decode cX3_push 20 = .ok (.dup, 1) := by decide +kernel
theorem dX3_push_21 : decode cX3_push 21 = .ok (.getfield 21, 3) := by decide +kernel
theorem dX3_push_24 : decode cX3_push 24 = .ok (.iconst 1, 1) := by decide +kernel
theorem dX3_push_25 : decode cX3_push 25 = .ok (.iadd, 1) := by decide +kernel
theorem dX3_push_26 : decode cX3_push 26 = .ok (.putfield 21, 3) := by decide +kernel
theorem dX3_push_29 : decode cX3_push 29 = .ok (.return_, 1) := by decide +kernel
theorem dX3_pop_0 : decode cX3_pop 0 = .ok (.aload_n 0, 1) := by decide +kernel
theorem dX3_pop_1 : decode cX3_pop 1 = .ok (.getfield 21, 3) := by decide +kernel
theorem dX3_pop_4 : decode cX3_pop 4 = .ok (.ifCond .gt 5, 3) := by decide +kernel
theorem dX3_pop_7 : decode cX3_pop 7 = .ok (.iconst 0, 1) := by decide +kernel
theorem dX3_pop_8 : decode cX3_pop 8 = .ok (.ireturn, 1) := by decide +kernel
theorem dX3_pop_9 : decode cX3_pop 9 = .ok (.aload_n 0, 1) := by decide +kernel
theorem dX3_pop_10 : decode cX3_pop 10 = .ok (.dup, 1) := by decide +kernel
theorem dX3_pop_11 : decode cX3_pop 11 = .ok (.getfield 21, 3) := by decide +kernel
theorem dX3_pop_14 : decode cX3_pop 14 = .ok (.iconst 1, 1) := by decide +kernel
theorem dX3_pop_15 : decode cX3_pop 15 = .ok (.isub, 1) := by decide +kernel
theorem dX3_pop_16 : decode cX3_pop 16 = .ok (.putfield 21, 3) := by decide +kernel
theorem dX3_pop_19 : decode cX3_pop 19 = .ok (.aload_n 0, 1) := by decide +kernel
theorem dX3_pop_20 : decode cX3_pop 20 = .ok (.getfield 18, 3) := by decide +kernel
theorem dX3_pop_23 : decode cX3_pop 23 = .ok (.aload_n 0, 1) := by decide +kernel
theorem dX3_pop_24 : decode cX3_pop 24 = .ok (.getfield 21, 3) := by decide +kernel
theorem dX3_pop_27 : decode cX3_pop 27 = .ok (.iaload, 1) := by decide +kernel
theorem dX3_pop_28 : decode cX3_pop 28 = .ok (.ireturn, 1) := by decide +kernel
theorem dX4_init_0 : decode cX4_init 0 = .ok (.aload_n 0, 1) := by decide +kernel
theorem dX4_init_1 : decode cX4_init 1 = .ok (.invokespecial 1, 3) := by decide +kernel
theorem dX4_init_4 : decode cX4_init 4 = .ok (.aload_n 0, 1) := by decide +kernel
theorem dX4_init_5 : decode cX4_init 5 = .ok (.iload_n 1, 1) := by decide +kernel
theorem dX4_init_6 : decode cX4_init 6 = .ok (.newarray .int, 2) := by decide +kernel
theorem dX4_init_8 : decode cX4_init 8 = .ok (.putfield 7, 3) := by decide +kernel
theorem dX4_init_11 : decode cX4_init 11 = .ok (.aload_n 0, 1) := by decide +kernel
theorem dX4_init_12 : decode cX4_init 12 = .ok (.iload_n 1, 1) := by decide +kernel
theorem dX4_init_13 : decode cX4_init 13 = .ok (.newarray .int, 2) := by decide +kernel
theorem dX4_init_15 : decode cX4_init 15 = .ok (.putfield 13, 3) := by decide +kernel
theorem dX4_init_18 : decode cX4_init 18 = .ok (.aload_n 0, 1) := by decide +kernel
theorem dX4_init_19 : decode cX4_init 19 = .ok (.iconst 0, 1) := by decide +kernel
theorem dX4_init_20 : decode cX4_init 20 = .ok (.putfield 16, 3) := by decide +kernel
theorem dX4_init_23 : decode cX4_init 23 = .ok (.return_, 1) := by decide +kernel
theorem dX4_append_0 : decode cX4_append 0 = .ok (.aload_n 0, 1) := by decide +kernel
theorem dX4_append_1 : decode cX4_append 1 = .ok (.getfield 16, 3) := by decide +kernel
theorem dX4_append_4 : decode cX4_append 4 = .ok (.aload_n 0, 1) := by decide +kernel
theorem dX4_append_5 : decode cX4_append 5 = .ok (.getfield 7, 3) := by decide +kernel
theorem dX4_append_8 : decode cX4_append 8 = .ok (.arraylength, 1) := by decide +kernel
theorem dX4_append_9 : decode cX4_append 9 = .ok (.if_icmp .lt 5, 3) := by decide +kernel
theorem dX4_append_12 : decode cX4_append 12 = .ok (.iconst 0, 1) := by decide +kernel
theorem dX4_append_13 : decode cX4_append 13 = .ok (.ireturn, 1) := by decide +kernel
theorem dX4_append_14 : decode cX4_append 14 = .ok (.aload_n 0, 1) := by decide +kernel
theorem dX4_append_15 : decode cX4_append 15 = .ok (.getfield 7, 3) := by decide +kernel
theorem dX4_append_18 : decode cX4_append 18 = .ok (.aload_n 0, 1) := by decide +kernel
theorem dX4_append_19 : decode cX4_append 19 = .ok (.getfield 16, 3) := by decide +kernel
theorem dX4_append_22 : decode cX4_append 22 = .ok (.iload_n 1, 1) := by decide +kernel
theorem dX4_append_23 : decode cX4_append 23 = .ok (.iastore, 1) := by decide +kernel
theorem dX4_append_24 : decode cX4_append 24 = .ok (.aload_n 0, 1) := by decide +kernel
theorem dX4_append_25 : decode cX4_append 25 = .ok (.getfield 13, 3) := by decide +kernel
theorem dX4_append_28 : decode cX4_append 28 = .ok (.aload_n 0, 1) := by decide +kernel
theorem dX4_append_29 : decode cX4_append 29 = .ok (.getfield 16, 3) := by decide +kernel
theorem dX4_append_32 : decode cX4_append 32 = .ok (.iload_n 2, 1) := by decide +kernel
theorem dX4_append_33 : decode cX4_append 33 = .ok (.iastore, 1) := by decide +kernel
theorem dX4_append_34 : decode cX4_append 34 = .ok (.aload_n 0, 1) := by decide +kernel
theorem dX4_append_35 : decode cX4_append 35 = .ok (.dup, 1) := by decide +kernel
theorem dX4_append_36 : decode cX4_append 36 = .ok (.getfield 16, 3) := by decide +kernel
theorem dX4_append_39 : decode cX4_append 39 = .ok (.iconst 1, 1) := by decide +kernel
theorem dX4_append_40 : decode cX4_append 40 = .ok (.iadd, 1) := by decide +kernel
theorem dX4_append_41 : decode cX4_append 41 = .ok (.putfield 16, 3) := by decide +kernel
theorem dX4_append_44 : decode cX4_append 44 = .ok (.iconst 1, 1) := by decide +kernel
theorem dX4_append_45 : decode cX4_append 45 = .ok (.ireturn, 1) := by decide +kernel
theorem dX4_appendAll_0 : decode cX4_appendAll 0 = .ok (.iconst 0, 1) := by decide +kernel
theorem dX4_appendAll_1 : decode cX4_appendAll 1 = .ok (.istore_n 2, 1) := by decide +kernel
theorem dX4_appendAll_2 : decode cX4_appendAll 2 = .ok (.iload_n 2, 1) := by decide +kernel
theorem dX4_appendAll_3 : decode cX4_appendAll 3 = .ok (.aload_n 1, 1) := by decide +kernel
theorem dX4_appendAll_4 : decode cX4_appendAll 4 = .ok (.getfield 20, 3) := by decide +kernel
theorem dX4_appendAll_7 : decode cX4_appendAll 7 = .ok (.if_icmp .ge 26, 3) := by decide +kernel
theorem dX4_appendAll_10 : decode cX4_appendAll 10 = .ok (.aload_n 0, 1) := by decide +kernel
theorem dX4_appendAll_11 : decode cX4_appendAll 11 = .ok (.aload_n 1, 1) := by decide +kernel
theorem dX4_appendAll_12 : decode cX4_appendAll 12 = .ok (.getfield 23, 3) := by decide +kernel
theorem dX4_appendAll_15 : decode cX4_appendAll 15 = .ok (.iload_n 2, 1) := by decide +kernel
theorem dX4_appendAll_16 : decode cX4_appendAll 16 = .ok (.iaload, 1) := by decide +kernel
theorem dX4_appendAll_17 : decode cX4_appendAll 17 = .ok (.aload_n 1, 1) := by decide +kernel
theorem dX4_appendAll_18 : decode cX4_appendAll 18 = .ok (.getfield 24, 3) := by decide +kernel
theorem dX4_appendAll_21 : decode cX4_appendAll 21 = .ok (.iload_n 2, 1) := by decide +kernel
theorem dX4_appendAll_22 : decode cX4_appendAll 22 = .ok (.iaload, 1) := by decide +kernel
theorem dX4_appendAll_23 : decode cX4_appendAll 23 = .ok (.invokevirtual 25, 3) := by decide +kernel
theorem dX4_appendAll_26 : decode cX4_appendAll 26 = .ok (.pop, 1) := by decide +kernel
theorem dX4_appendAll_27 : decode cX4_appendAll 27 = .ok (.iinc 2 1, 3) := by decide +kernel
theorem dX4_appendAll_30 : decode cX4_appendAll 30 = .ok (.goto (-28), 3) := by decide +kernel
theorem dX4_appendAll_33 : decode cX4_appendAll 33 = .ok (.return_, 1) := by decide +kernel
theorem dX5_init_0 : decode cX5_init 0 = .ok (.aload_n 0, 1) := by decide +kernel
theorem dX5_init_1 : decode cX5_init 1 = .ok (.invokespecial 3, 3) := by decide +kernel
theorem dX5_init_4 : decode cX5_init 4 = .ok (.aload_n 0, 1) := by decide +kernel
theorem dX5_init_5 : decode cX5_init 5 = .ok (.bipush 64, 2) := by decide +kernel
theorem dX5_init_7 : decode cX5_init 7 = .ok (.newarray .int, 2) := by decide +kernel
theorem dX5_init_9 : decode cX5_init 9 = .ok (.putfield 9, 3) := by decide +kernel
theorem dX5_init_12 : decode cX5_init 12 = .ok (.aload_n 0, 1) := by decide +kernel
theorem dX5_init_13 : decode cX5_init 13 = .ok (.bipush 64, 2) := by decide +kernel
theorem dX5_init_15 : decode cX5_init 15 = .ok (.newarray .int, 2) := by decide +kernel
theorem dX5_init_17 : decode cX5_init 17 = .ok (.putfield 15, 3) := by decide +kernel
theorem dX5_init_20 : decode cX5_init 20 = .ok (.aload_n 0, 1) := by decide +kernel
theorem dX5_init_21 : decode cX5_init 21 = .ok (.iconst 0, 1) := by decide +kernel
theorem dX5_init_22 : decode cX5_init 22 = .ok (.putfield 18, 3) := by decide +kernel
theorem dX5_init_25 : decode cX5_init 25 = .ok (.aload_n 0, 1) := by decide +kernel
theorem dX5_init_26 : decode cX5_init 26 = .ok (.iload_n 1, 1) := by decide +kernel
theorem dX5_init_27 : decode cX5_init 27 = .ok (.putfield 22, 3) := by decide +kernel
theorem dX5_init_30 : decode cX5_init 30 = .ok (.return_, 1) := by decide +kernel
theorem dX5_append_0 : decode cX5_append 0 = .ok (.aload_n 0, 1) := by decide +kernel
theorem dX5_append_1 : decode cX5_append 1 = .ok (.getfield 18, 3) := by decide +kernel
theorem dX5_append_4 : decode cX5_append 4 = .ok (.bipush 64, 2) := by decide +kernel
theorem dX5_append_6 : decode cX5_append 6 = .ok (.if_icmp .lt 6, 3) := by decide +kernel
theorem dX5_append_9 : decode cX5_append 9 = .ok (.bipush (-3), 2) := by decide +kernel
theorem dX5_append_11 : decode cX5_append 11 = .ok (.ireturn, 1) := by decide +kernel
theorem dX5_append_12 : decode cX5_append 12 = .ok (.aload_n 0, 1) := by decide +kernel
theorem dX5_append_13 : decode cX5_append 13 = .ok (.getfield 9, 3) := by decide +kernel
theorem dX5_append_16 : decode cX5_append 16 = .ok (.aload_n 0, 1) := by decide +kernel
theorem dX5_append_17 : decode cX5_append 17 = .ok (.getfield 18, 3) := by decide +kernel
theorem dX5_append_20 : decode cX5_append 20 = .ok (.iload_n 1, 1) := by decide +kernel
theorem dX5_append_21 : decode cX5_append 21 = .ok (.iastore, 1) := by decide +kernel
theorem dX5_append_22 : decode cX5_append 22 = .ok (.aload_n 0, 1) := by decide +kernel
theorem dX5_append_23 : decode cX5_append 23 = .ok (.getfield 15, 3) := by decide +kernel
theorem dX5_append_26 : decode cX5_append 26 = .ok (.aload_n 0, 1) := by decide +kernel
theorem dX5_append_27 : decode cX5_append 27 = .ok (.getfield 18, 3) := by decide +kernel
theorem dX5_append_30 : decode cX5_append 30 = .ok (.iload_n 2, 1) := by decide +kernel
theorem dX5_append_31 : decode cX5_append 31 = .ok (.iastore, 1) := by decide +kernel
theorem dX5_append_32 : decode cX5_append 32 = .ok (.aload_n 0, 1) := by decide +kernel
theorem dX5_append_33 : decode cX5_append 33 = .ok (.dup, 1) := by decide +kernel
theorem dX5_append_34 : decode cX5_append 34 = .ok (.getfield 18, 3) := by decide +kernel
theorem dX5_append_37 : decode cX5_append 37 = .ok (.iconst 1, 1) := by decide +kernel
theorem dX5_append_38 : decode cX5_append 38 = .ok (.iadd, 1) := by decide +kernel
theorem dX5_append_39 : decode cX5_append 39 = .ok (.putfield 18, 3) := by decide +kernel
theorem dX5_append_42 : decode cX5_append 42 = .ok (.aload_n 0, 1) := by decide +kernel
theorem dX5_append_43 : decode cX5_append 43 = .ok (.getfield 18, 3) := by decide +kernel
theorem dX5_append_46 : decode cX5_append 46 = .ok (.iconst 1, 1) := by decide +kernel
theorem dX5_append_47 : decode cX5_append 47 = .ok (.isub, 1) := by decide +kernel
theorem dX5_append_48 : decode cX5_append 48 = .ok (.ireturn, 1) := by decide +kernel
theorem dX5_has_0 : decode cX5_has 0 = .ok (.iload_n 1, 1) := by decide +kernel
theorem dX5_has_1 : decode cX5_has 1 = .ok (.ifCond .lt 15, 3) := by decide +kernel
theorem dX5_has_4 : decode cX5_has 4 = .ok (.iload_n 1, 1) := by decide +kernel
theorem dX5_has_5 : decode cX5_has 5 = .ok (.aload_n 0, 1) := by decide +kernel
theorem dX5_has_6 : decode cX5_has 6 = .ok (.getfield 18, 3) := by decide +kernel
theorem dX5_has_9 : decode cX5_has 9 = .ok (.if_icmp .ge 7, 3) := by decide +kernel
theorem dX5_has_12 : decode cX5_has 12 = .ok (.iconst 1, 1) := by decide +kernel
theorem dX5_has_13 : decode cX5_has 13 = .ok (.goto 4, 3) := by decide +kernel
theorem dX5_has_16 : decode cX5_has 16 = .ok (.iconst 0, 1) := by decide +kernel
theorem dX5_has_17 : decode cX5_has 17 = .ok (.ireturn, 1) := by decide +kernel
theorem dX5_argumentCount_0 : decode cX5_argumentCount 0 = .ok (.aload_n 0, 1) := by decide +kernel
theorem dX5_argumentCount_1 : decode cX5_argumentCount 1 = .ok (.getfield 22, 3) := by decide +kernel
theorem dX5_argumentCount_4 : decode cX5_argumentCount 4 = .ok (.iconst 1, 1) := by decide +kernel
theorem dX5_argumentCount_5 : decode cX5_argumentCount 5 = .ok (.if_icmp .eq 11, 3) := by decide +kernel
theorem dX5_argumentCount_8 : decode cX5_argumentCount 8 = .ok (.aload_n 0, 1) := by decide +kernel
theorem dX5_argumentCount_9 : decode cX5_argumentCount 9 = .ok (.getfield 22, 3) := by decide +kernel
theorem dX5_argumentCount_12 : decode cX5_argumentCount 12 = .ok (.iconst 2, 1) := by decide +kernel
theorem dX5_argumentCount_13 : decode cX5_argumentCount 13 = .ok (.if_icmp .ne 7, 3) := by decide +kernel
theorem dX5_argumentCount_16 : decode cX5_argumentCount 16 = .ok (.iconst 3, 1) := by decide +kernel
theorem dX5_argumentCount_17 : decode cX5_argumentCount 17 = .ok (.goto 4, 3) := by decide +kernel
theorem dX5_argumentCount_20 : decode cX5_argumentCount 20 = .ok (.iconst 2, 1) := by decide +kernel
theorem dX5_argumentCount_21 : decode cX5_argumentCount 21 = .ok (.ireturn, 1) := by decide +kernel
end
section
theorem dX0_init_0 : decode cX0_init 0 = .ok (.aload_n 0, 1) := by decide +kernel
theorem dX0_init_1 : decode cX0_init 1 = .ok (.invokespecial 3, 3) := by decide +kernel
theorem dX0_init_4 : decode cX0_init 4 = .ok (.aload_n 0, 1) := by decide +kernel
theorem dX0_init_5 : decode cX0_init 5 = .ok (.bipush 64, 2) := by decide +kernel
theorem dX0_init_7 : decode cX0_init 7 = .ok (.newarray .int, 2) := by decide +kernel
theorem dX0_init_9 : decode cX0_init 9 = .ok (.putfield 9, 3) := by decide +kernel
theorem dX0_init_12 : decode cX0_init 12 = .ok (.aload_n 0, 1) := by decide +kernel
theorem dX0_init_13 : decode cX0_init 13 = .ok (.sipush 576, 3) := by decide +kernel
theorem dX0_init_16 : decode cX0_init 16 = .ok (.newarray .int, 2) := by decide +kernel
theorem dX0_init_18 : decode cX0_init 18 = .ok (.putfield 15, 3) := by decide +kernel
theorem dX0_init_21 : decode cX0_init 21 = .ok (.aload_n 0, 1) := by decide +kernel
theorem dX0_init_22 : decode cX0_init 22 = .ok (.iconst 0, 1) := by decide +kernel
theorem dX0_init_23 : decode cX0_init 23 = .ok (.putfield 18, 3) := by decide +kernel
theorem dX0_init_26 : decode cX0_init 26 = .ok (.return_, 1) := by decide +kernel
theorem dX0_firstWrong_0 : decode cX0_firstWrong 0 = .ok (.aload_n 1, 1) := by decide +kernel
theorem dX0_firstWrong_1 : decode cX0_firstWrong 1 = .ok (.getfield 22, 3) := by decide +kernel
theorem dX0_firstWrong_4 : decode cX0_firstWrong 4 = .ok (.ifCond .ne 6, 3) := by decide +kernel
theorem dX0_firstWrong_7 : decode cX0_firstWrong 7 = .ok (.bipush 64, 2) := by decide +kernel
theorem dX0_firstWrong_9 : decode cX0_firstWrong 9 = .ok (.ireturn, 1) := by decide +kernel
theorem dX0_firstWrong_10 : decode cX0_firstWrong 10 = .ok (.aload_n 0, 1) := by decide +kernel
theorem dX0_firstWrong_11 : decode cX0_firstWrong 11 = .ok (.aload_n 1, 1) := by decide +kernel
theorem dX0_firstWrong_12 : decode cX0_firstWrong 12 = .ok (.invokevirtual 27, 3) := by decide +kernel
theorem dX0_firstWrong_15 : decode cX0_firstWrong 15 = .ok (.iconst 0, 1) := by decide +kernel
theorem dX0_firstWrong_16 : decode cX0_firstWrong 16 = .ok (.istore_n 2, 1) := by decide +kernel
theorem dX0_firstWrong_17 : decode cX0_firstWrong 17 = .ok (.iload_n 2, 1) := by decide +kernel
theorem dX0_firstWrong_18 : decode cX0_firstWrong 18 = .ok (.aload_n 1, 1) := by decide +kernel
theorem dX0_firstWrong_19 : decode cX0_firstWrong 19 = .ok (.getfield 22, 3) := by decide +kernel
theorem dX0_firstWrong_22 : decode cX0_firstWrong 22 = .ok (.if_icmp .ge 20, 3) := by decide +kernel
theorem dX0_firstWrong_25 : decode cX0_firstWrong 25 = .ok (.aload_n 0, 1) := by decide +kernel
theorem dX0_firstWrong_26 : decode cX0_firstWrong 26 = .ok (.aload_n 1, 1) := by decide +kernel
theorem dX0_firstWrong_27 : decode cX0_firstWrong 27 = .ok (.iload_n 2, 1) := by decide +kernel
theorem dX0_firstWrong_28 : decode cX0_firstWrong 28 = .ok (.invokevirtual 31, 3) := by decide +kernel
theorem dX0_firstWrong_31 : decode cX0_firstWrong 31 = .ok (.ifCond .eq 5, 3) := by decide +kernel
theorem dX0_firstWrong_34 : decode cX0_firstWrong 34 = .ok (.iload_n 2, 1) := by decide +kernel
theorem dX0_firstWrong_35 : decode cX0_firstWrong 35 = .ok (.ireturn, 1) := by decide +kernel
theorem dX0_firstWrong_36 : decode cX0_firstWrong 36 = .ok (.iinc 2 1, 3) := by decide +kernel
theorem dX0_firstWrong_39 : decode cX0_firstWrong 39 = .ok (.goto (-22), 3) := by decide +kernel
theorem dX0_firstWrong_42 : decode cX0_firstWrong 42 = .ok (.bipush (-2), 2) := by decide +kernel
theorem dX0_firstWrong_44 : decode cX0_firstWrong 44 = .ok (.ireturn, 1) := by decide +kernel
theorem dX0_walk_0 : decode cX0_walk 0 = .ok (.aload_n 0, 1) := by decide +kernel
theorem dX0_walk_1 : decode cX0_walk 1 = .ok (.getfield 9, 3) := by decide +kernel
theorem dX0_walk_4 : decode cX0_walk 4 = .ok (.iconst 0, 1) := by decide +kernel
theorem dX0_walk_5 : decode cX0_walk 5 = .ok (.invokestatic 35, 3) := by decide +kernel
theorem dX0_walk_8 : decode cX0_walk 8 = .ok (.aload_n 0, 1) := by decide +kernel
theorem dX0_walk_9 : decode cX0_walk 9 = .ok (.iconst 0, 1) := by decide +kernel
theorem dX0_walk_10 : decode cX0_walk 10 = .ok (.putfield 18, 3) := by decide +kernel
theorem dX0_walk_13 : decode cX0_walk 13 = .ok (.aload_n 0, 1) := by decide +kernel
theorem dX0_walk_14 : decode cX0_walk 14 = .ok (.iconst 0, 1) := by decide +kernel
theorem dX0_walk_15 : decode cX0_walk 15 = .ok (.iconst 0, 1) := by decide +kernel
theorem dX0_walk_16 : decode cX0_walk 16 = .ok (.invokevirtual 41, 3) := by decide +kernel
theorem dX0_walk_19 : decode cX0_walk 19 = .ok (.iconst 0, 1) := by decide +kernel
theorem dX0_walk_20 : decode cX0_walk 20 = .ok (.istore_n 2, 1) := by decide +kernel
theorem dX0_walk_21 : decode cX0_walk 21 = .ok (.iload_n 2, 1) := by decide +kernel
theorem dX0_walk_22 : decode cX0_walk 22 = .ok (.aload_n 0, 1) := by decide +kernel
theorem dX0_walk_23 : decode cX0_walk 23 = .ok (.getfield 18, 3) := by decide +kernel
theorem dX0_walk_26 : decode cX0_walk 26 = .ok (.if_icmp .ge 41, 3) := by decide +kernel
theorem dX0_walk_29 : decode cX0_walk 29 = .ok (.iload_n 2, 1) := by decide +kernel
theorem dX0_walk_30 : decode cX0_walk 30 = .ok (.aload_n 0, 1) := by decide +kernel
theorem dX0_walk_31 : decode cX0_walk 31 = .ok (.getfield 15, 3) := by decide +kernel
theorem dX0_walk_34 : decode cX0_walk 34 = .ok (.arraylength, 1) := by decide +kernel
theorem dX0_walk_35 : decode cX0_walk 35 = .ok (.if_icmp .ge 32, 3) := by decide +kernel
theorem dX0_walk_38 : decode cX0_walk 38 = .ok (.aload_n 0, 1) := by decide +kernel
theorem dX0_walk_39 : decode cX0_walk 39 = .ok (.aload_n 1, 1) := by decide +kernel
theorem dX0_walk_40 : decode cX0_walk 40 = .ok (.aload_n 0, 1) := by decide +kernel
theorem dX0_walk_41 : decode cX0_walk 41 = .ok (.getfield 15, 3) := by decide +kernel
theorem dX0_walk_44 : decode cX0_walk 44 = .ok (.iload_n 2, 1) := by decide +kernel
theorem dX0_walk_45 : decode cX0_walk 45 = .ok (.iaload, 1) := by decide +kernel
theorem dX0_walk_46 : decode cX0_walk 46 = .ok (.bipush 9, 2) := by decide +kernel
theorem dX0_walk_48 : decode cX0_walk 48 = .ok (.idiv, 1) := by decide +kernel
theorem dX0_walk_49 : decode cX0_walk 49 = .ok (.aload_n 0, 1) := by decide +kernel
theorem dX0_walk_50 : decode cX0_walk 50 = .ok (.getfield 15, 3) := by decide +kernel
theorem dX0_walk_53 : decode cX0_walk 53 = .ok (.iload_n 2, 1) := by decide +kernel
theorem dX0_walk_54 : decode cX0_walk 54 = .ok (.iaload, 1) := by decide +kernel
theorem dX0_walk_55 : decode cX0_walk 55 = .ok (.bipush 9, 2) := by decide +kernel
theorem dX0_walk_57 : decode cX0_walk 57 = .ok (.irem, 1) := by decide +kernel
theorem dX0_walk_58 : decode cX0_walk 58 = .ok (.invokevirtual 45, 3) := by decide +kernel
theorem dX0_walk_61 : decode cX0_walk 61 = .ok (.iinc 2 1, 3) := by decide +kernel
theorem dX0_walk_64 : decode cX0_walk 64 = .ok (.goto (-43), 3) := by decide +kernel
theorem dX0_walk_67 : decode cX0_walk 67 = .ok (.return_, 1) := by decide +kernel
theorem dX0_goOn_0 : decode cX0_goOn 0 = .ok (.aload_n 0, 1) := by decide +kernel
theorem dX0_goOn_1 : decode cX0_goOn 1 = .ok (.aload_n 1, 1) := by decide +kernel
theorem dX0_goOn_2 : decode cX0_goOn 2 = .ok (.iload_n 2, 1) := by decide +kernel
theorem dX0_goOn_3 : decode cX0_goOn 3 = .ok (.invokevirtual 49, 3) := by decide +kernel
theorem dX0_goOn_6 : decode cX0_goOn 6 = .ok (.ifCond .ne 22, 3) := by decide +kernel
theorem dX0_goOn_9 : decode cX0_goOn 9 = .ok (.aload_n 0, 1) := by decide +kernel
theorem dX0_goOn_10 : decode cX0_goOn 10 = .ok (.aload_n 1, 1) := by decide +kernel
theorem dX0_goOn_11 : decode cX0_goOn 11 = .ok (.iload_n 2, 1) := by decide +kernel
theorem dX0_goOn_12 : decode cX0_goOn 12 = .ok (.invokevirtual 52, 3) := by decide +kernel
theorem dX0_goOn_15 : decode cX0_goOn 15 = .ok (.ifCond .ne 13, 3) := by decide +kernel
theorem dX0_goOn_18 : decode cX0_goOn 18 = .ok (.aload_n 0, 1) := by decide +kernel
theorem dX0_goOn_19 : decode cX0_goOn 19 = .ok (.aload_n 1, 1) := by decide +kernel
theorem dX0_goOn_20 : decode cX0_goOn 20 = .ok (.iload_n 2, 1) := by decide +kernel
theorem dX0_goOn_21 : decode cX0_goOn 21 = .ok (.iload_n 3, 1) := by decide +kernel
theorem dX0_goOn_22 : decode cX0_goOn 22 = .ok (.invokevirtual 55, 3) := by decide +kernel
theorem dX0_goOn_25 : decode cX0_goOn 25 = .ok (.ifCond .ne 4, 3) := by decide +kernel
theorem dX0_goOn_28 : decode cX0_goOn 28 = .ok (.return_, 1) := by decide +kernel
theorem dX0_goOn_29 : decode cX0_goOn 29 = .ok (.aload_n 1, 1) := by decide +kernel
theorem dX0_goOn_30 : decode cX0_goOn 30 = .ok (.getfield 59, 3) := by decide +kernel
theorem dX0_goOn_33 : decode cX0_goOn 33 = .ok (.iload_n 2, 1) := by decide +kernel
theorem dX0_goOn_34 : decode cX0_goOn 34 = .ok (.iaload, 1) := by decide +kernel
theorem dX0_goOn_35 : decode cX0_goOn 35 = .ok (.istore 4, 2) := by decide +kernel
theorem dX0_goOn_37 : decode cX0_goOn 37 = .ok (.iload_n 3, 1) := by decide +kernel
theorem dX0_goOn_38 : decode cX0_goOn 38 = .ok (.getstatic 62, 3) := by decide +kernel
theorem dX0_goOn_41 : decode cX0_goOn 41 = .ok (.iload 4, 2) := by decide +kernel
theorem dX0_goOn_43 : decode cX0_goOn 43 = .ok (.iaload, 1) := by decide +kernel
theorem dX0_goOn_44 : decode cX0_goOn 44 = .ok (.iadd, 1) := by decide +kernel
theorem dX0_goOn_45 : decode cX0_goOn 45 = .ok (.istore 5, 2) := by decide +kernel
theorem dX0_goOn_47 : decode cX0_goOn 47 = .ok (.iload 4, 2) := by decide +kernel
theorem dX0_goOn_49 : decode cX0_goOn 49 = .ok (.invokestatic 65, 3) := by decide +kernel
theorem dX0_goOn_52 : decode cX0_goOn 52 = .ok (.ifCond .eq 15, 3) := by decide +kernel
theorem dX0_goOn_55 : decode cX0_goOn 55 = .ok (.aload_n 0, 1) := by decide +kernel
theorem dX0_goOn_56 : decode cX0_goOn 56 = .ok (.aload_n 1, 1) := by decide +kernel
theorem dX0_goOn_57 : decode cX0_goOn 57 = .ok (.getfield 69, 3) := by decide +kernel
theorem dX0_goOn_60 : decode cX0_goOn 60 = .ok (.iload_n 2, 1) := by decide +kernel
theorem dX0_goOn_61 : decode cX0_goOn 61 = .ok (.iaload, 1) := by decide +kernel
theorem dX0_goOn_62 : decode cX0_goOn 62 = .ok (.iload 5, 2) := by decide +kernel
theorem dX0_goOn_64 : decode cX0_goOn 64 = .ok (.invokevirtual 41, 3) := by decide +kernel
theorem dX0_goOn_67 : decode cX0_goOn 67 = .ok (.iload 4, 2) := by decide +kernel
theorem dX0_goOn_69 : decode cX0_goOn 69 = .ok (.invokestatic 72, 3) := by decide +kernel
theorem dX0_goOn_72 : decode cX0_goOn 72 = .ok (.ifCond .eq 12, 3) := by decide +kernel
theorem dX0_goOn_75 : decode cX0_goOn 75 = .ok (.aload_n 0, 1) := by decide +kernel
theorem dX0_goOn_76 : decode cX0_goOn 76 = .ok (.iload_n 2, 1) := by decide +kernel
theorem dX0_goOn_77 : decode cX0_goOn 77 = .ok (.iconst 1, 1) := by decide +kernel
theorem dX0_goOn_78 : decode cX0_goOn 78 = .ok (.iadd, 1) := by decide +kernel
theorem dX0_goOn_79 : decode cX0_goOn 79 = .ok (.iload 5, 2) := by decide +kernel
theorem dX0_goOn_81 : decode cX0_goOn 81 = .ok (.invokevirtual 41, 3) := by decide +kernel
theorem dX0_goOn_84 : decode cX0_goOn 84 = .ok (.return_, 1) := by decide +kernel
theorem dX0_reach_0 : decode cX0_reach 0 = .ok (.iload_n 1, 1) := by decide +kernel
theorem dX0_reach_1 : decode cX0_reach 1 = .ok (.ifCond .lt 19, 3) := by decide +kernel
theorem dX0_reach_4 : decode cX0_reach 4 = .ok (.iload_n 1, 1) := by decide +kernel
theorem dX0_reach_5 : decode cX0_reach 5 = .ok (.bipush 64, 2) := by decide +kernel
theorem dX0_reach_7 : decode cX0_reach 7 = .ok (.if_icmp .ge 13, 3) := by decide +kernel
theorem dX0_reach_10 : decode cX0_reach 10 = .ok (.iload_n 2, 1) := by decide +kernel
theorem dX0_reach_11 : decode cX0_reach 11 = .ok (.ifCond .lt 9, 3) := by decide +kernel
theorem dX0_reach_14 : decode cX0_reach 14 = .ok (.iload_n 2, 1) := by decide +kernel
theorem dX0_reach_15 : decode cX0_reach 15 = .ok (.bipush 8, 2) := by decide +kernel
theorem dX0_reach_17 : decode cX0_reach 17 = .ok (.if_icmp .le 4, 3) := by decide +kernel
theorem dX0_reach_20 : decode cX0_reach 20 = .ok (.return_, 1) := by decide +kernel
theorem dX0_reach_21 : decode cX0_reach 21 = .ok (.aload_n 0, 1) := by decide +kernel
theorem dX0_reach_22 : decode cX0_reach 22 = .ok (.iload_n 1, 1) := by decide +kernel
theorem dX0_reach_23 : decode cX0_reach 23 = .ok (.iload_n 2, 1) := by decide +kernel
theorem dX0_reach_24 : decode cX0_reach 24 = .ok (.invokevirtual 75, 3) := by decide +kernel
theorem dX0_reach_27 : decode cX0_reach 27 = .ok (.ifCond .ne 15, 3) := by decide +kernel
theorem dX0_reach_30 : decode cX0_reach 30 = .ok (.aload_n 0, 1) := by decide +kernel
theorem dX0_reach_31 : decode cX0_reach 31 = .ok (.getfield 18, 3) := by decide +kernel
theorem dX0_reach_34 : decode cX0_reach 34 = .ok (.aload_n 0, 1) := by decide +kernel
theorem dX0_reach_35 : decode cX0_reach 35 = .ok (.getfield 15, 3) := by decide +kernel
theorem dX0_reach_38 : decode cX0_reach 38 = .ok (.arraylength, 1) := by decide +kernel
theorem dX0_reach_39 : decode cX0_reach 39 = .ok (.if_icmp .lt 4, 3) := by decide +kernel
theorem dX0_reach_42 : decode cX0_reach 42 = .ok (.return_, 1) := by decide +kernel
theorem dX0_reach_43 : decode cX0_reach 43 = .ok (.aload_n 0, 1) := by decide +kernel
theorem dX0_reach_44 : decode cX0_reach 44 = .ok (.getfield 9, 3) := by decide +kernel
theorem dX0_reach_47 : decode cX0_reach 47 = .ok (.iload_n 1, 1) := by decide +kernel
theorem dX0_reach_48 : decode cX0_reach 48 = .ok (.dup2, 1) := by decide +kernel
theorem dX0_reach_49 : decode cX0_reach 49 = .ok (.iaload, 1) := by decide +kernel
theorem dX0_reach_50 : decode cX0_reach 50 = .ok (.iconst 1, 1) := by decide +kernel
theorem dX0_reach_51 : decode cX0_reach 51 = .ok (.iload_n 2, 1) := by decide +kernel
theorem dX0_reach_52 : decode cX0_reach 52 = .ok (.ishl, 1) := by decide +kernel
theorem dX0_reach_53 : decode cX0_reach 53 = .ok (.ior, 1) := by decide +kernel
theorem dX0_reach_54 : decode cX0_reach 54 = .ok (.iastore, 1) := by decide +kernel
theorem dX0_reach_55 : decode cX0_reach 55 = .ok (.aload_n 0, 1) := by decide +kernel
theorem dX0_reach_56 : decode cX0_reach 56 = .ok (.getfield 15, 3) := by decide +kernel
theorem dX0_reach_59 : decode cX0_reach 59 = .ok (.aload_n 0, 1) := by decide +kernel
theorem dX0_reach_60 : decode cX0_reach 60 = .ok (.getfield 18, 3) := by decide +kernel
theorem dX0_reach_63 : decode cX0_reach 63 = .ok (.iload_n 1, 1) := by decide +kernel
theorem dX0_reach_64 : decode cX0_reach 64 = .ok (.bipush 9, 2) := by decide +kernel
theorem dX0_reach_66 : decode cX0_reach 66 = .ok (.imul, 1) := by decide +kernel
theorem dX0_reach_67 : decode cX0_reach 67 = .ok (.iload_n 2, 1) := by decide +kernel
theorem dX0_reach_68 : decode cX0_reach 68 = .ok (.iadd, 1) := by decide +kernel
theorem dX0_reach_69 : decode cX0_reach 69 = .ok (.iastore, 1) := by decide +kernel
theorem dX0_reach_70 : decode cX0_reach 70 = .ok (.aload_n 0, 1) := by decide +kernel
theorem dX0_reach_71 : decode cX0_reach 71 = .ok (.dup, 1) := by decide +kernel
theorem dX0_reach_72 : decode cX0_reach 72 = .ok (.getfield 18, 3) := by decide +kernel
theorem dX0_reach_75 : decode cX0_reach 75 = .ok (.iconst 1, 1) := by decide +kernel
theorem dX0_reach_76 : decode cX0_reach 76 = .ok (.iadd, 1) := by decide +kernel
theorem dX0_reach_77 : decode cX0_reach 77 = .ok (.putfield 18, 3) := by decide +kernel
theorem dX0_reach_80 : decode cX0_reach 80 = .ok (.return_, 1) := by decide +kernel
theorem dX0_hasHeight_0 : decode cX0_hasHeight 0 = .ok (.aload_n 0, 1) := by decide +kernel
theorem dX0_hasHeight_1 : decode cX0_hasHeight 1 = .ok (.getfield 9, 3) := by decide +kernel
theorem dX0_hasHeight_4 : decode cX0_hasHeight 4 = .ok (.iload_n 1, 1) := by decide +kernel
theorem dX0_hasHeight_5 : decode cX0_hasHeight 5 = .ok (.iaload, 1) := by decide +kernel
theorem dX0_hasHeight_6 : decode cX0_hasHeight 6 = .ok (.iload_n 2, 1) := by decide +kernel
theorem dX0_hasHeight_7 : decode cX0_hasHeight 7 = .ok (.ishr, 1) := by decide +kernel
theorem dX0_hasHeight_8 : decode cX0_hasHeight 8 = .ok (.iconst 1, 1) := by decide +kernel
theorem dX0_hasHeight_9 : decode cX0_hasHeight 9 = .ok (.iand, 1) := by decide +kernel
theorem dX0_hasHeight_10 : decode cX0_hasHeight 10 = .ok (.iconst 1, 1) := by decide +kernel
theorem dX0_hasHeight_11 : decode cX0_hasHeight 11 = .ok (.if_icmp .ne 7, 3) := by decide +kernel
theorem dX0_hasHeight_14 : decode cX0_hasHeight 14 = .ok (.iconst 1, 1) := by decide +kernel
theorem dX0_hasHeight_15 : decode cX0_hasHeight 15 = .ok (.goto 4, 3) := by decide +kernel
theorem dX0_hasHeight_18 : decode cX0_hasHeight 18 = .ok (.iconst 0, 1) := by decide +kernel
theorem dX0_hasHeight_19 : decode cX0_hasHeight 19 = .ok (.ireturn, 1) := by decide +kernel
theorem dX0_isWrong_0 : decode cX0_isWrong 0 = .ok (.aload_n 0, 1) := by decide +kernel
theorem dX0_isWrong_1 : decode cX0_isWrong 1 = .ok (.aload_n 1, 1) := by decide +kernel
theorem dX0_isWrong_2 : decode cX0_isWrong 2 = .ok (.iload_n 2, 1) := by decide +kernel
theorem dX0_isWrong_3 : decode cX0_isWrong 3 = .ok (.invokevirtual 49, 3) := by decide +kernel
theorem dX0_isWrong_6 : decode cX0_isWrong 6 = .ok (.ifCond .eq 5, 3) := by decide +kernel
theorem dX0_isWrong_9 : decode cX0_isWrong 9 = .ok (.iconst 1, 1) := by decide +kernel
theorem dX0_isWrong_10 : decode cX0_isWrong 10 = .ok (.ireturn, 1) := by decide +kernel
theorem dX0_isWrong_11 : decode cX0_isWrong 11 = .ok (.aload_n 0, 1) := by decide +kernel
theorem dX0_isWrong_12 : decode cX0_isWrong 12 = .ok (.getfield 9, 3) := by decide +kernel
theorem dX0_isWrong_15 : decode cX0_isWrong 15 = .ok (.iload_n 2, 1) := by decide +kernel
theorem dX0_isWrong_16 : decode cX0_isWrong 16 = .ok (.iaload, 1) := by decide +kernel
theorem dX0_isWrong_17 : decode cX0_isWrong 17 = .ok (.ifCond .ne 5, 3) := by decide +kernel
theorem dX0_isWrong_20 : decode cX0_isWrong 20 = .ok (.iconst 0, 1) := by decide +kernel
theorem dX0_isWrong_21 : decode cX0_isWrong 21 = .ok (.ireturn, 1) := by decide +kernel
theorem dX0_isWrong_22 : decode cX0_isWrong 22 = .ok (.aload_n 0, 1) := by decide +kernel
theorem dX0_isWrong_23 : decode cX0_isWrong 23 = .ok (.getfield 9, 3) := by decide +kernel
theorem dX0_isWrong_26 : decode cX0_isWrong 26 = .ok (.iload_n 2, 1) := by decide +kernel
theorem dX0_isWrong_27 : decode cX0_isWrong 27 = .ok (.iaload, 1) := by decide +kernel
theorem dX0_isWrong_28 : decode cX0_isWrong 28 = .ok (.invokestatic 79, 3) := by decide +kernel
theorem dX0_isWrong_31 : decode cX0_isWrong 31 = .ok (.iconst 1, 1) := by decide +kernel
theorem dX0_isWrong_32 : decode cX0_isWrong 32 = .ok (.if_icmp .gt 21, 3) := by decide +kernel
theorem dX0_isWrong_35 : decode cX0_isWrong 35 = .ok (.aload_n 0, 1) := by decide +kernel
theorem dX0_isWrong_36 : decode cX0_isWrong 36 = .ok (.aload_n 1, 1) := by decide +kernel
theorem dX0_isWrong_37 : decode cX0_isWrong 37 = .ok (.iload_n 2, 1) := by decide +kernel
theorem dX0_isWrong_38 : decode cX0_isWrong 38 = .ok (.invokevirtual 52, 3) := by decide +kernel
theorem dX0_isWrong_41 : decode cX0_isWrong 41 = .ok (.ifCond .ne 12, 3) := by decide +kernel
theorem dX0_isWrong_44 : decode cX0_isWrong 44 = .ok (.aload_n 0, 1) := by decide +kernel
theorem dX0_isWrong_45 : decode cX0_isWrong 45 = .ok (.aload_n 1, 1) := by decide +kernel
theorem dX0_isWrong_46 : decode cX0_isWrong 46 = .ok (.iload_n 2, 1) := by decide +kernel
theorem dX0_isWrong_47 : decode cX0_isWrong 47 = .ok (.invokevirtual 85, 3) := by decide +kernel
theorem dX0_isWrong_50 : decode cX0_isWrong 50 = .ok (.ifCond .ne 7, 3) := by decide +kernel
theorem dX0_isWrong_53 : decode cX0_isWrong 53 = .ok (.iconst 1, 1) := by decide +kernel
theorem dX0_isWrong_54 : decode cX0_isWrong 54 = .ok (.goto 4, 3) := by decide +kernel
theorem dX0_isWrong_57 : decode cX0_isWrong 57 = .ok (.iconst 0, 1) := by decide +kernel
theorem dX0_isWrong_58 : decode cX0_isWrong 58 = .ok (.ireturn, 1) := by decide +kernel
theorem dX0_fitsEveryHeight_0 : decode cX0_fitsEveryHeight 0 = .ok (.iconst 0, 1) := by decide +kernel
theorem dX0_fitsEveryHeight_1 : decode cX0_fitsEveryHeight 1 = .ok (.istore_n 3, 1) := by decide +kernel
theorem dX0_fitsEveryHeight_2 : decode cX0_fitsEveryHeight 2 = .ok (.iload_n 3, 1) := by decide +kernel
theorem dX0_fitsEveryHeight_3 : decode cX0_fitsEveryHeight 3 = .ok (.bipush 9, 2) := by decide +kernel
theorem dX0_fitsEveryHeight_5 : decode cX0_fitsEveryHeight 5 = .ok (.if_icmp .ge 30, 3) := by decide +kernel
theorem dX0_fitsEveryHeight_8 : decode cX0_fitsEveryHeight 8 = .ok (.aload_n 0, 1) := by decide +kernel
theorem dX0_fitsEveryHeight_9 : decode cX0_fitsEveryHeight 9 = .ok (.iload_n 2, 1) := by decide +kernel
theorem dX0_fitsEveryHeight_10 : decode cX0_fitsEveryHeight 10 = .ok (.iload_n 3, 1) := by decide +kernel
theorem dX0_fitsEveryHeight_11 : decode cX0_fitsEveryHeight 11 = .ok (.invokevirtual 75, 3) := by decide +kernel
theorem dX0_fitsEveryHeight_14 : decode cX0_fitsEveryHeight 14 = .ok (.ifCond .eq 15, 3) := by decide +kernel
theorem dX0_fitsEveryHeight_17 : decode cX0_fitsEveryHeight 17 = .ok (.aload_n 0, 1) := by decide +kernel
theorem dX0_fitsEveryHeight_18 : decode cX0_fitsEveryHeight 18 = .ok (.aload_n 1, 1) := by decide +kernel
theorem dX0_fitsEveryHeight_19 : decode cX0_fitsEveryHeight 19 = .ok (.iload_n 2, 1) := by decide +kernel
theorem dX0_fitsEveryHeight_20 : decode cX0_fitsEveryHeight 20 = .ok (.iload_n 3, 1) := by decide +kernel
theorem dX0_fitsEveryHeight_21 : decode cX0_fitsEveryHeight 21 = .ok (.invokevirtual 55, 3) := by decide +kernel
theorem dX0_fitsEveryHeight_24 : decode cX0_fitsEveryHeight 24 = .ok (.ifCond .ne 5, 3) := by decide +kernel
theorem dX0_fitsEveryHeight_27 : decode cX0_fitsEveryHeight 27 = .ok (.iconst 0, 1) := by decide +kernel
theorem dX0_fitsEveryHeight_28 : decode cX0_fitsEveryHeight 28 = .ok (.ireturn, 1) := by decide +kernel
theorem dX0_fitsEveryHeight_29 : decode cX0_fitsEveryHeight 29 = .ok (.iinc 3 1, 3) := by decide +kernel
theorem dX0_fitsEveryHeight_32 : decode cX0_fitsEveryHeight 32 = .ok (.goto (-30), 3) := by decide +kernel
theorem dX0_fitsEveryHeight_35 : decode cX0_fitsEveryHeight 35 = .ok (.iconst 1, 1) := by decide +kernel
theorem dX0_fitsEveryHeight_36 : decode cX0_fitsEveryHeight 36 = .ok (.ireturn, 1) := by decide +kernel
theorem dX0_fits_0 : decode cX0_fits 0 = .ok (.aload_n 1, 1) := by decide +kernel
theorem dX0_fits_1 : decode cX0_fits 1 = .ok (.getfield 59, 3) := by decide +kernel
theorem dX0_fits_4 : decode cX0_fits 4 = .ok (.iload_n 2, 1) := by decide +kernel
theorem dX0_fits_5 : decode cX0_fits 5 = .ok (.iaload, 1) := by decide +kernel
theorem dX0_fits_6 : decode cX0_fits 6 = .ok (.istore 4, 2) := by decide +kernel
theorem dX0_fits_8 : decode cX0_fits 8 = .ok (.iload 4, 2) := by decide +kernel
theorem dX0_fits_10 : decode cX0_fits 10 = .ok (.bipush 17, 2) := by decide +kernel
theorem dX0_fits_12 : decode cX0_fits 12 = .ok (.if_icmp .ne 14, 3) := by decide +kernel
theorem dX0_fits_15 : decode cX0_fits 15 = .ok (.aload_n 1, 1) := by decide +kernel
theorem dX0_fits_16 : decode cX0_fits 16 = .ok (.getfield 88, 3) := by decide +kernel
theorem dX0_fits_19 : decode cX0_fits 19 = .ok (.ifCond .ne 7, 3) := by decide +kernel
theorem dX0_fits_22 : decode cX0_fits 22 = .ok (.iconst 0, 1) := by decide +kernel
theorem dX0_fits_23 : decode cX0_fits 23 = .ok (.goto 9, 3) := by decide +kernel
theorem dX0_fits_26 : decode cX0_fits 26 = .ok (.getstatic 91, 3) := by decide +kernel
theorem dX0_fits_29 : decode cX0_fits 29 = .ok (.iload 4, 2) := by decide +kernel
theorem dX0_fits_31 : decode cX0_fits 31 = .ok (.iaload, 1) := by decide +kernel
theorem dX0_fits_32 : decode cX0_fits 32 = .ok (.istore 5, 2) := by decide +kernel
theorem dX0_fits_34 : decode cX0_fits 34 = .ok (.iload_n 3, 1) := by decide +kernel
theorem dX0_fits_35 : decode cX0_fits 35 = .ok (.iload 5, 2) := by decide +kernel
theorem dX0_fits_37 : decode cX0_fits 37 = .ok (.if_icmp .lt 20, 3) := by decide +kernel
theorem dX0_fits_40 : decode cX0_fits 40 = .ok (.iload_n 3, 1) := by decide +kernel
theorem dX0_fits_41 : decode cX0_fits 41 = .ok (.getstatic 62, 3) := by decide +kernel
theorem dX0_fits_44 : decode cX0_fits 44 = .ok (.iload 4, 2) := by decide +kernel
theorem dX0_fits_46 : decode cX0_fits 46 = .ok (.iaload, 1) := by decide +kernel
theorem dX0_fits_47 : decode cX0_fits 47 = .ok (.iadd, 1) := by decide +kernel
theorem dX0_fits_48 : decode cX0_fits 48 = .ok (.bipush 8, 2) := by decide +kernel
theorem dX0_fits_50 : decode cX0_fits 50 = .ok (.if_icmp .gt 7, 3) := by decide +kernel
theorem dX0_fits_53 : decode cX0_fits 53 = .ok (.iconst 1, 1) := by decide +kernel
theorem dX0_fits_54 : decode cX0_fits 54 = .ok (.goto 4, 3) := by decide +kernel
theorem dX0_fits_57 : decode cX0_fits 57 = .ok (.iconst 0, 1) := by decide +kernel
theorem dX0_fits_58 : decode cX0_fits 58 = .ok (.ireturn, 1) := by decide +kernel
theorem dX0_isMisformed_0 : decode cX0_isMisformed 0 = .ok (.aload_n 1, 1) := by decide +kernel
theorem dX0_isMisformed_1 : decode cX0_isMisformed 1 = .ok (.getfield 59, 3) := by decide +kernel
theorem dX0_isMisformed_4 : decode cX0_isMisformed 4 = .ok (.iload_n 2, 1) := by decide +kernel
theorem dX0_isMisformed_5 : decode cX0_isMisformed 5 = .ok (.iaload, 1) := by decide +kernel
theorem dX0_isMisformed_6 : decode cX0_isMisformed 6 = .ok (.istore_n 3, 1) := by decide +kernel
theorem dX0_isMisformed_7 : decode cX0_isMisformed 7 = .ok (.aload_n 1, 1) := by decide +kernel
theorem dX0_isMisformed_8 : decode cX0_isMisformed 8 = .ok (.getfield 69, 3) := by decide +kernel
theorem dX0_isMisformed_11 : decode cX0_isMisformed 11 = .ok (.iload_n 2, 1) := by decide +kernel
theorem dX0_isMisformed_12 : decode cX0_isMisformed 12 = .ok (.iaload, 1) := by decide +kernel
theorem dX0_isMisformed_13 : decode cX0_isMisformed 13 = .ok (.istore 4, 2) := by decide +kernel
theorem dX0_isMisformed_15 : decode cX0_isMisformed 15 = .ok (.iload_n 3, 1) := by decide +kernel
theorem dX0_isMisformed_16 : decode cX0_isMisformed 16 = .ok (.ifCond .lt 9, 3) := by decide +kernel
theorem dX0_isMisformed_19 : decode cX0_isMisformed 19 = .ok (.iload_n 3, 1) := by decide +kernel
theorem dX0_isMisformed_20 : decode cX0_isMisformed 20 = .ok (.bipush 18, 2) := by decide +kernel
theorem dX0_isMisformed_22 : decode cX0_isMisformed 22 = .ok (.if_icmp .le 5, 3) := by decide +kernel
theorem dX0_isMisformed_25 : decode cX0_isMisformed 25 = .ok (.iconst 1, 1) := by decide +kernel
theorem dX0_isMisformed_26 : decode cX0_isMisformed 26 = .ok (.ireturn, 1) := by decide +kernel
theorem dX0_isMisformed_27 : decode cX0_isMisformed 27 = .ok (.iload_n 3, 1) := by decide +kernel
theorem dX0_isMisformed_28 : decode cX0_isMisformed 28 = .ok (.bipush 16, 2) := by decide +kernel
theorem dX0_isMisformed_30 : decode cX0_isMisformed 30 = .ok (.if_icmp .ne 16, 3) := by decide +kernel
theorem dX0_isMisformed_33 : decode cX0_isMisformed 33 = .ok (.aload_n 1, 1) := by decide +kernel
theorem dX0_isMisformed_34 : decode cX0_isMisformed 34 = .ok (.getfield 88, 3) := by decide +kernel
theorem dX0_isMisformed_37 : decode cX0_isMisformed 37 = .ok (.ifCond .eq 7, 3) := by decide +kernel
theorem dX0_isMisformed_40 : decode cX0_isMisformed 40 = .ok (.iconst 1, 1) := by decide +kernel
theorem dX0_isMisformed_41 : decode cX0_isMisformed 41 = .ok (.goto 4, 3) := by decide +kernel
theorem dX0_isMisformed_44 : decode cX0_isMisformed 44 = .ok (.iconst 0, 1) := by decide +kernel
theorem dX0_isMisformed_45 : decode cX0_isMisformed 45 = .ok (.ireturn, 1) := by decide +kernel
theorem dX0_isMisformed_46 : decode cX0_isMisformed 46 = .ok (.iload_n 3, 1) := by decide +kernel
theorem dX0_isMisformed_47 : decode cX0_isMisformed 47 = .ok (.bipush 18, 2) := by decide +kernel
theorem dX0_isMisformed_49 : decode cX0_isMisformed 49 = .ok (.if_icmp .ne 17, 3) := by decide +kernel
theorem dX0_isMisformed_52 : decode cX0_isMisformed 52 = .ok (.aload_n 1, 1) := by decide +kernel
theorem dX0_isMisformed_53 : decode cX0_isMisformed 53 = .ok (.getfield 88, 3) := by decide +kernel
theorem dX0_isMisformed_56 : decode cX0_isMisformed 56 = .ok (.iconst 3, 1) := by decide +kernel
theorem dX0_isMisformed_57 : decode cX0_isMisformed 57 = .ok (.if_icmp .eq 7, 3) := by decide +kernel
theorem dX0_isMisformed_60 : decode cX0_isMisformed 60 = .ok (.iconst 1, 1) := by decide +kernel
theorem dX0_isMisformed_61 : decode cX0_isMisformed 61 = .ok (.goto 4, 3) := by decide +kernel
theorem dX0_isMisformed_64 : decode cX0_isMisformed 64 = .ok (.iconst 0, 1) := by decide +kernel
theorem dX0_isMisformed_65 : decode cX0_isMisformed 65 = .ok (.ireturn, 1) := by decide +kernel
theorem dX0_isMisformed_66 : decode cX0_isMisformed 66 = .ok (.iload_n 3, 1) := by decide +kernel
theorem dX0_isMisformed_67 : decode cX0_isMisformed 67 = .ok (.iconst 1, 1) := by decide +kernel
theorem dX0_isMisformed_68 : decode cX0_isMisformed 68 = .ok (.if_icmp .ne 23, 3) := by decide +kernel
theorem dX0_isMisformed_71 : decode cX0_isMisformed 71 = .ok (.iload 4, 2) := by decide +kernel
theorem dX0_isMisformed_73 : decode cX0_isMisformed 73 = .ok (.ifCond .lt 12, 3) := by decide +kernel
theorem dX0_isMisformed_76 : decode cX0_isMisformed 76 = .ok (.iload 4, 2) := by decide +kernel
theorem dX0_isMisformed_78 : decode cX0_isMisformed 78 = .ok (.aload_n 1, 1) := by decide +kernel
theorem dX0_isMisformed_79 : decode cX0_isMisformed 79 = .ok (.invokevirtual 94, 3) := by decide +kernel
theorem dX0_isMisformed_82 : decode cX0_isMisformed 82 = .ok (.if_icmp .lt 7, 3) := by decide +kernel
theorem dX0_isMisformed_85 : decode cX0_isMisformed 85 = .ok (.iconst 1, 1) := by decide +kernel
theorem dX0_isMisformed_86 : decode cX0_isMisformed 86 = .ok (.goto 4, 3) := by decide +kernel
theorem dX0_isMisformed_89 : decode cX0_isMisformed 89 = .ok (.iconst 0, 1) := by decide +kernel
theorem dX0_isMisformed_90 : decode cX0_isMisformed 90 = .ok (.ireturn, 1) := by decide +kernel
theorem dX0_isMisformed_91 : decode cX0_isMisformed 91 = .ok (.iload_n 3, 1) := by decide +kernel
theorem dX0_isMisformed_92 : decode cX0_isMisformed 92 = .ok (.iconst 2, 1) := by decide +kernel
theorem dX0_isMisformed_93 : decode cX0_isMisformed 93 = .ok (.if_icmp .eq 8, 3) := by decide +kernel
theorem dX0_isMisformed_96 : decode cX0_isMisformed 96 = .ok (.iload_n 3, 1) := by decide +kernel
theorem dX0_isMisformed_97 : decode cX0_isMisformed 97 = .ok (.iconst 3, 1) := by decide +kernel
theorem dX0_isMisformed_98 : decode cX0_isMisformed 98 = .ok (.if_icmp .ne 20, 3) := by decide +kernel
theorem dX0_isMisformed_101 : decode cX0_isMisformed 101 = .ok (.iload 4, 2) := by decide +kernel
theorem dX0_isMisformed_103 : decode cX0_isMisformed 103 = .ok (.ifCond .lt 9, 3) := by decide +kernel
theorem dX0_isMisformed_106 : decode cX0_isMisformed 106 = .ok (.iload 4, 2) := by decide +kernel
theorem dX0_isMisformed_108 : decode cX0_isMisformed 108 = .ok (.iconst 4, 1) := by decide +kernel
theorem dX0_isMisformed_109 : decode cX0_isMisformed 109 = .ok (.if_icmp .lt 7, 3) := by decide +kernel
theorem dX0_isMisformed_112 : decode cX0_isMisformed 112 = .ok (.iconst 1, 1) := by decide +kernel
theorem dX0_isMisformed_113 : decode cX0_isMisformed 113 = .ok (.goto 4, 3) := by decide +kernel
theorem dX0_isMisformed_116 : decode cX0_isMisformed 116 = .ok (.iconst 0, 1) := by decide +kernel
theorem dX0_isMisformed_117 : decode cX0_isMisformed 117 = .ok (.ireturn, 1) := by decide +kernel
theorem dX0_isMisformed_118 : decode cX0_isMisformed 118 = .ok (.iload_n 3, 1) := by decide +kernel
theorem dX0_isMisformed_119 : decode cX0_isMisformed 119 = .ok (.invokestatic 65, 3) := by decide +kernel
theorem dX0_isMisformed_122 : decode cX0_isMisformed 122 = .ok (.ifCond .eq 16, 3) := by decide +kernel
theorem dX0_isMisformed_125 : decode cX0_isMisformed 125 = .ok (.aload_n 1, 1) := by decide +kernel
theorem dX0_isMisformed_126 : decode cX0_isMisformed 126 = .ok (.iload 4, 2) := by decide +kernel
theorem dX0_isMisformed_128 : decode cX0_isMisformed 128 = .ok (.invokevirtual 98, 3) := by decide +kernel
theorem dX0_isMisformed_131 : decode cX0_isMisformed 131 = .ok (.ifCond .ne 7, 3) := by decide +kernel
theorem dX0_isMisformed_134 : decode cX0_isMisformed 134 = .ok (.iconst 1, 1) := by decide +kernel
theorem dX0_isMisformed_135 : decode cX0_isMisformed 135 = .ok (.goto 4, 3) := by decide +kernel
theorem dX0_isMisformed_138 : decode cX0_isMisformed 138 = .ok (.iconst 0, 1) := by decide +kernel
theorem dX0_isMisformed_139 : decode cX0_isMisformed 139 = .ok (.ireturn, 1) := by decide +kernel
theorem dX0_lacksNext_0 : decode cX0_lacksNext 0 = .ok (.aload_n 1, 1) := by decide +kernel
theorem dX0_lacksNext_1 : decode cX0_lacksNext 1 = .ok (.getfield 59, 3) := by decide +kernel
theorem dX0_lacksNext_4 : decode cX0_lacksNext 4 = .ok (.iload_n 2, 1) := by decide +kernel
theorem dX0_lacksNext_5 : decode cX0_lacksNext 5 = .ok (.iaload, 1) := by decide +kernel
theorem dX0_lacksNext_6 : decode cX0_lacksNext 6 = .ok (.invokestatic 72, 3) := by decide +kernel
theorem dX0_lacksNext_9 : decode cX0_lacksNext 9 = .ok (.ifCond .eq 17, 3) := by decide +kernel
theorem dX0_lacksNext_12 : decode cX0_lacksNext 12 = .ok (.aload_n 1, 1) := by decide +kernel
theorem dX0_lacksNext_13 : decode cX0_lacksNext 13 = .ok (.iload_n 2, 1) := by decide +kernel
theorem dX0_lacksNext_14 : decode cX0_lacksNext 14 = .ok (.iconst 1, 1) := by decide +kernel
theorem dX0_lacksNext_15 : decode cX0_lacksNext 15 = .ok (.iadd, 1) := by decide +kernel
theorem dX0_lacksNext_16 : decode cX0_lacksNext 16 = .ok (.invokevirtual 98, 3) := by decide +kernel
theorem dX0_lacksNext_19 : decode cX0_lacksNext 19 = .ok (.ifCond .ne 7, 3) := by decide +kernel
theorem dX0_lacksNext_22 : decode cX0_lacksNext 22 = .ok (.iconst 1, 1) := by decide +kernel
theorem dX0_lacksNext_23 : decode cX0_lacksNext 23 = .ok (.goto 4, 3) := by decide +kernel
theorem dX0_lacksNext_26 : decode cX0_lacksNext 26 = .ok (.iconst 0, 1) := by decide +kernel
theorem dX0_lacksNext_27 : decode cX0_lacksNext 27 = .ok (.ireturn, 1) := by decide +kernel
theorem dX0_hasNext_0 : decode cX0_hasNext 0 = .ok (.iload_n 0, 1) := by decide +kernel
theorem dX0_hasNext_1 : decode cX0_hasNext 1 = .ok (.bipush 14, 2) := by decide +kernel
theorem dX0_hasNext_3 : decode cX0_hasNext 3 = .ok (.if_icmp .eq 19, 3) := by decide +kernel
theorem dX0_hasNext_6 : decode cX0_hasNext 6 = .ok (.iload_n 0, 1) := by decide +kernel
theorem dX0_hasNext_7 : decode cX0_hasNext 7 = .ok (.bipush 17, 2) := by decide +kernel
theorem dX0_hasNext_9 : decode cX0_hasNext 9 = .ok (.if_icmp .eq 13, 3) := by decide +kernel
theorem dX0_hasNext_12 : decode cX0_hasNext 12 = .ok (.iload_n 0, 1) := by decide +kernel
theorem dX0_hasNext_13 : decode cX0_hasNext 13 = .ok (.bipush 18, 2) := by decide +kernel
theorem dX0_hasNext_15 : decode cX0_hasNext 15 = .ok (.if_icmp .eq 7, 3) := by decide +kernel
theorem dX0_hasNext_18 : decode cX0_hasNext 18 = .ok (.iconst 1, 1) := by decide +kernel
theorem dX0_hasNext_19 : decode cX0_hasNext 19 = .ok (.goto 4, 3) := by decide +kernel
theorem dX0_hasNext_22 : decode cX0_hasNext 22 = .ok (.iconst 0, 1) := by decide +kernel
theorem dX0_hasNext_23 : decode cX0_hasNext 23 = .ok (.ireturn, 1) := by decide +kernel
theorem dX1_init_0 : decode cX1_init 0 = .ok (.aload_n 0, 1) := by decide +kernel
theorem dX1_init_1 : decode cX1_init 1 = .ok (.invokespecial 3, 3) := by decide +kernel
theorem dX1_init_4 : decode cX1_init 4 = .ok (.aload_n 0, 1) := by decide +kernel
theorem dX1_init_5 : decode cX1_init 5 = .ok (.new 9, 3) := by decide +kernel
theorem dX1_init_8 : decode cX1_init 8 = .ok (.dup, 1) := by decide +kernel
theorem dX1_init_9 : decode cX1_init 9 = .ok (.invokespecial 11, 3) := by decide +kernel
theorem dX1_init_12 : decode cX1_init 12 = .ok (.putfield 12, 3) := by decide +kernel
theorem dX1_init_15 : decode cX1_init 15 = .ok (.aload_n 0, 1) := by decide +kernel
theorem dX1_init_16 : decode cX1_init 16 = .ok (.bipush 120, 2) := by decide +kernel
theorem dX1_init_18 : decode cX1_init 18 = .ok (.newarray .int, 2) := by decide +kernel
theorem dX1_init_20 : decode cX1_init 20 = .ok (.putfield 18, 3) := by decide +kernel
theorem dX1_init_23 : decode cX1_init 23 = .ok (.aload_n 0, 1) := by decide +kernel
theorem dX1_init_24 : decode cX1_init 24 = .ok (.new 22, 3) := by decide +kernel
theorem dX1_init_27 : decode cX1_init 27 = .ok (.dup, 1) := by decide +kernel
theorem dX1_init_28 : decode cX1_init 28 = .ok (.invokespecial 24, 3) := by decide +kernel
theorem dX1_init_31 : decode cX1_init 31 = .ok (.putfield 25, 3) := by decide +kernel
theorem dX1_init_34 : decode cX1_init 34 = .ok (.aload_n 0, 1) := by decide +kernel
theorem dX1_init_35 : decode cX1_init 35 = .ok (.new 29, 3) := by decide +kernel
theorem dX1_init_38 : decode cX1_init 38 = .ok (.dup, 1) := by decide +kernel
theorem dX1_init_39 : decode cX1_init 39 = .ok (.sipush 600, 3) := by decide +kernel
theorem dX1_init_42 : decode cX1_init 42 = .ok (.invokespecial 31, 3) := by decide +kernel
theorem dX1_init_45 : decode cX1_init 45 = .ok (.putfield 34, 3) := by decide +kernel
theorem dX1_init_48 : decode cX1_init 48 = .ok (.aload_n 0, 1) := by decide +kernel
theorem dX1_init_49 : decode cX1_init 49 = .ok (.new 22, 3) := by decide +kernel
theorem dX1_init_52 : decode cX1_init 52 = .ok (.dup, 1) := by decide +kernel
theorem dX1_init_53 : decode cX1_init 53 = .ok (.invokespecial 24, 3) := by decide +kernel
theorem dX1_init_56 : decode cX1_init 56 = .ok (.putfield 38, 3) := by decide +kernel
theorem dX1_init_59 : decode cX1_init 59 = .ok (.aload_n 0, 1) := by decide +kernel
theorem dX1_init_60 : decode cX1_init 60 = .ok (.bipush 8, 2) := by decide +kernel
theorem dX1_init_62 : decode cX1_init 62 = .ok (.newarray .int, 2) := by decide +kernel
theorem dX1_init_64 : decode cX1_init 64 = .ok (.putfield 41, 3) := by decide +kernel
theorem dX1_init_67 : decode cX1_init 67 = .ok (.aload_n 0, 1) := by decide +kernel
theorem dX1_init_68 : decode cX1_init 68 = .ok (.getfield 41, 3) := by decide +kernel
theorem dX1_init_71 : decode cX1_init 71 = .ok (.iconst 0, 1) := by decide +kernel
theorem dX1_init_72 : decode cX1_init 72 = .ok (.iconst (-1), 1) := by decide +kernel
theorem dX1_init_73 : decode cX1_init 73 = .ok (.iastore, 1) := by decide +kernel
theorem dX1_init_74 : decode cX1_init 74 = .ok (.return_, 1) := by decide +kernel
theorem dX1_perform_0 : decode cX1_perform 0 = .ok (.aload_n 0, 1) := by decide +kernel
theorem dX1_perform_1 : decode cX1_perform 1 = .ok (.iconst (-1), 1) := by decide +kernel
theorem dX1_perform_2 : decode cX1_perform 2 = .ok (.invokevirtual 44, 3) := by decide +kernel
theorem dX1_perform_5 : decode cX1_perform 5 = .ok (.aload_n 2, 1) := by decide +kernel
theorem dX1_perform_6 : decode cX1_perform 6 = .ok (.getfield 47, 3) := by decide +kernel
theorem dX1_perform_9 : decode cX1_perform 9 = .ok (.iload_n 3, 1) := by decide +kernel
theorem dX1_perform_10 : decode cX1_perform 10 = .ok (.iadd, 1) := by decide +kernel
theorem dX1_perform_11 : decode cX1_perform 11 = .ok (.iconst 1, 1) := by decide +kernel
theorem dX1_perform_12 : decode cX1_perform 12 = .ok (.isub, 1) := by decide +kernel
theorem dX1_perform_13 : decode cX1_perform 13 = .ok (.iload_n 3, 1) := by decide +kernel
theorem dX1_perform_14 : decode cX1_perform 14 = .ok (.idiv, 1) := by decide +kernel
theorem dX1_perform_15 : decode cX1_perform 15 = .ok (.istore 4, 2) := by decide +kernel
theorem dX1_perform_17 : decode cX1_perform 17 = .ok (.aload_n 0, 1) := by decide +kernel
theorem dX1_perform_18 : decode cX1_perform 18 = .ok (.aload_n 1, 1) := by decide +kernel
theorem dX1_perform_19 : decode cX1_perform 19 = .ok (.iconst 0, 1) := by decide +kernel
theorem dX1_perform_20 : decode cX1_perform 20 = .ok (.aaload, 1) := by decide +kernel
theorem dX1_perform_21 : decode cX1_perform 21 = .ok (.aload_n 2, 1) := by decide +kernel
theorem dX1_perform_22 : decode cX1_perform 22 = .ok (.iload_n 3, 1) := by decide +kernel
theorem dX1_perform_23 : decode cX1_perform 23 = .ok (.invokevirtual 51, 3) := by decide +kernel
theorem dX1_perform_26 : decode cX1_perform 26 = .ok (.istore 5, 2) := by decide +kernel
theorem dX1_perform_28 : decode cX1_perform 28 = .ok (.aload_n 0, 1) := by decide +kernel
theorem dX1_perform_29 : decode cX1_perform 29 = .ok (.getfield 12, 3) := by decide +kernel
theorem dX1_perform_32 : decode cX1_perform 32 = .ok (.getfield 55, 3) := by decide +kernel
theorem dX1_perform_35 : decode cX1_perform 35 = .ok (.astore 6, 2) := by decide +kernel
theorem dX1_perform_37 : decode cX1_perform 37 = .ok (.iload 5, 2) := by decide +kernel
theorem dX1_perform_39 : decode cX1_perform 39 = .ok (.iconst (-1), 1) := by decide +kernel
theorem dX1_perform_40 : decode cX1_perform 40 = .ok (.if_icmp .ne 29, 3) := by decide +kernel
theorem dX1_perform_43 : decode cX1_perform 43 = .ok (.aload_n 1, 1) := by decide +kernel
theorem dX1_perform_44 : decode cX1_perform 44 = .ok (.iconst 1, 1) := by decide +kernel
theorem dX1_perform_45 : decode cX1_perform 45 = .ok (.aaload, 1) := by decide +kernel
theorem dX1_perform_46 : decode cX1_perform 46 = .ok (.getfield 58, 3) := by decide +kernel
theorem dX1_perform_49 : decode cX1_perform 49 = .ok (.ifCond .le 20, 3) := by decide +kernel
theorem dX1_perform_52 : decode cX1_perform 52 = .ok (.aload_n 0, 1) := by decide +kernel
theorem dX1_perform_53 : decode cX1_perform 53 = .ok (.aload_n 1, 1) := by decide +kernel
theorem dX1_perform_54 : decode cX1_perform 54 = .ok (.iconst 1, 1) := by decide +kernel
theorem dX1_perform_55 : decode cX1_perform 55 = .ok (.aaload, 1) := by decide +kernel
theorem dX1_perform_56 : decode cX1_perform 56 = .ok (.iload 4, 2) := by decide +kernel
theorem dX1_perform_58 : decode cX1_perform 58 = .ok (.invokevirtual 61, 3) := by decide +kernel
theorem dX1_perform_61 : decode cX1_perform 61 = .ok (.istore 5, 2) := by decide +kernel
theorem dX1_perform_63 : decode cX1_perform 63 = .ok (.aload_n 0, 1) := by decide +kernel
theorem dX1_perform_64 : decode cX1_perform 64 = .ok (.getfield 34, 3) := by decide +kernel
theorem dX1_perform_67 : decode cX1_perform 67 = .ok (.astore 6, 2) := by decide +kernel
theorem dX1_perform_69 : decode cX1_perform 69 = .ok (.iload 5, 2) := by decide +kernel
theorem dX1_perform_71 : decode cX1_perform 71 = .ok (.iconst (-1), 1) := by decide +kernel
theorem dX1_perform_72 : decode cX1_perform 72 = .ok (.if_icmp .ne 14, 3) := by decide +kernel
theorem dX1_perform_75 : decode cX1_perform 75 = .ok (.aload_n 0, 1) := by decide +kernel
theorem dX1_perform_76 : decode cX1_perform 76 = .ok (.aload_n 1, 1) := by decide +kernel
theorem dX1_perform_77 : decode cX1_perform 77 = .ok (.iconst 2, 1) := by decide +kernel
theorem dX1_perform_78 : decode cX1_perform 78 = .ok (.aaload, 1) := by decide +kernel
theorem dX1_perform_79 : decode cX1_perform 79 = .ok (.aload 6, 2) := by decide +kernel
theorem dX1_perform_81 : decode cX1_perform 81 = .ok (.invokevirtual 65, 3) := by decide +kernel
theorem dX1_perform_84 : decode cX1_perform 84 = .ok (.istore 5, 2) := by decide +kernel
theorem dX1_perform_86 : decode cX1_perform 86 = .ok (.iload 5, 2) := by decide +kernel
theorem dX1_perform_88 : decode cX1_perform 88 = .ok (.iconst (-1), 1) := by decide +kernel
theorem dX1_perform_89 : decode cX1_perform 89 = .ok (.if_icmp .ne 21, 3) := by decide +kernel
theorem dX1_perform_92 : decode cX1_perform 92 = .ok (.aload_n 1, 1) := by decide +kernel
theorem dX1_perform_93 : decode cX1_perform 93 = .ok (.iconst 3, 1) := by decide +kernel
theorem dX1_perform_94 : decode cX1_perform 94 = .ok (.aaload, 1) := by decide +kernel
theorem dX1_perform_95 : decode cX1_perform 95 = .ok (.getfield 58, 3) := by decide +kernel
theorem dX1_perform_98 : decode cX1_perform 98 = .ok (.ifCond .le 12, 3) := by decide +kernel
theorem dX1_perform_101 : decode cX1_perform 101 = .ok (.aload_n 0, 1) := by decide +kernel
theorem dX1_perform_102 : decode cX1_perform 102 = .ok (.aload_n 1, 1) := by decide +kernel
theorem dX1_perform_103 : decode cX1_perform 103 = .ok (.iconst 3, 1) := by decide +kernel
theorem dX1_perform_104 : decode cX1_perform 104 = .ok (.aaload, 1) := by decide +kernel
theorem dX1_perform_105 : decode cX1_perform 105 = .ok (.invokevirtual 69, 3) := by decide +kernel
theorem dX1_perform_108 : decode cX1_perform 108 = .ok (.istore 5, 2) := by decide +kernel
theorem dX1_perform_110 : decode cX1_perform 110 = .ok (.iload 5, 2) := by decide +kernel
theorem dX1_perform_112 : decode cX1_perform 112 = .ok (.iconst (-1), 1) := by decide +kernel
theorem dX1_perform_113 : decode cX1_perform 113 = .ok (.if_icmp .eq 12, 3) := by decide +kernel
theorem dX1_perform_116 : decode cX1_perform 116 = .ok (.aload_n 0, 1) := by decide +kernel
theorem dX1_perform_117 : decode cX1_perform 117 = .ok (.iload 5, 2) := by decide +kernel
theorem dX1_perform_119 : decode cX1_perform 119 = .ok (.invokevirtual 44, 3) := by decide +kernel
theorem dX1_perform_122 : decode cX1_perform 122 = .ok (.bipush (-4), 2) := by decide +kernel
theorem dX1_perform_124 : decode cX1_perform 124 = .ok (.ireturn, 1) := by decide +kernel
theorem dX1_perform_125 : decode cX1_perform 125 = .ok (.aload_n 0, 1) := by decide +kernel
theorem dX1_perform_126 : decode cX1_perform 126 = .ok (.getfield 12, 3) := by decide +kernel
theorem dX1_perform_129 : decode cX1_perform 129 = .ok (.getfield 73, 3) := by decide +kernel
theorem dX1_perform_132 : decode cX1_perform 132 = .ok (.iconst 0, 1) := by decide +kernel
theorem dX1_perform_133 : decode cX1_perform 133 = .ok (.aload_n 0, 1) := by decide +kernel
theorem dX1_perform_134 : decode cX1_perform 134 = .ok (.getfield 41, 3) := by decide +kernel
theorem dX1_perform_137 : decode cX1_perform 137 = .ok (.iconst 4, 1) := by decide +kernel
theorem dX1_perform_138 : decode cX1_perform 138 = .ok (.iconst 4, 1) := by decide +kernel
theorem dX1_perform_139 : decode cX1_perform 139 = .ok (.invokestatic 76, 3) := by decide +kernel
theorem dX1_perform_142 : decode cX1_perform 142 = .ok (.aload_n 0, 1) := by decide +kernel
theorem dX1_perform_143 : decode cX1_perform 143 = .ok (.getfield 38, 3) := by decide +kernel
theorem dX1_perform_146 : decode cX1_perform 146 = .ok (.getfield 82, 3) := by decide +kernel
theorem dX1_perform_149 : decode cX1_perform 149 = .ok (.ireturn, 1) := by decide +kernel
theorem dX1_forget_0 : decode cX1_forget 0 = .ok (.aload_n 0, 1) := by decide +kernel
theorem dX1_forget_1 : decode cX1_forget 1 = .ok (.getfield 12, 3) := by decide +kernel
theorem dX1_forget_4 : decode cX1_forget 4 = .ok (.invokevirtual 83, 3) := by decide +kernel
theorem dX1_forget_7 : decode cX1_forget 7 = .ok (.aload_n 0, 1) := by decide +kernel
theorem dX1_forget_8 : decode cX1_forget 8 = .ok (.getfield 34, 3) := by decide +kernel
theorem dX1_forget_11 : decode cX1_forget 11 = .ok (.iconst 0, 1) := by decide +kernel
theorem dX1_forget_12 : decode cX1_forget 12 = .ok (.putfield 47, 3) := by decide +kernel
theorem dX1_forget_15 : decode cX1_forget 15 = .ok (.aload_n 0, 1) := by decide +kernel
theorem dX1_forget_16 : decode cX1_forget 16 = .ok (.getfield 38, 3) := by decide +kernel
theorem dX1_forget_19 : decode cX1_forget 19 = .ok (.iconst 0, 1) := by decide +kernel
theorem dX1_forget_20 : decode cX1_forget 20 = .ok (.putfield 82, 3) := by decide +kernel
theorem dX1_forget_23 : decode cX1_forget 23 = .ok (.aload_n 0, 1) := by decide +kernel
theorem dX1_forget_24 : decode cX1_forget 24 = .ok (.getfield 41, 3) := by decide +kernel
theorem dX1_forget_27 : decode cX1_forget 27 = .ok (.iconst 0, 1) := by decide +kernel
theorem dX1_forget_28 : decode cX1_forget 28 = .ok (.invokestatic 85, 3) := by decide +kernel
theorem dX1_forget_31 : decode cX1_forget 31 = .ok (.aload_n 0, 1) := by decide +kernel
theorem dX1_forget_32 : decode cX1_forget 32 = .ok (.getfield 41, 3) := by decide +kernel
theorem dX1_forget_35 : decode cX1_forget 35 = .ok (.iconst 0, 1) := by decide +kernel
theorem dX1_forget_36 : decode cX1_forget 36 = .ok (.iload_n 1, 1) := by decide +kernel
theorem dX1_forget_37 : decode cX1_forget 37 = .ok (.iastore, 1) := by decide +kernel
theorem dX1_forget_38 : decode cX1_forget 38 = .ok (.return_, 1) := by decide +kernel
theorem dX1_mapRecords_0 : decode cX1_mapRecords 0 = .ok (.iconst 0, 1) := by decide +kernel
theorem dX1_mapRecords_1 : decode cX1_mapRecords 1 = .ok (.istore 4, 2) := by decide +kernel
theorem dX1_mapRecords_3 : decode cX1_mapRecords 3 = .ok (.iload 4, 2) := by decide +kernel
theorem dX1_mapRecords_5 : decode cX1_mapRecords 5 = .ok (.aload_n 2, 1) := by decide +kernel
theorem dX1_mapRecords_6 : decode cX1_mapRecords 6 = .ok (.getfield 47, 3) := by decide +kernel
theorem dX1_mapRecords_9 : decode cX1_mapRecords 9 = .ok (.if_icmp .ge 77, 3) := by decide +kernel
theorem dX1_mapRecords_12 : decode cX1_mapRecords 12 = .ok (.aload_n 0, 1) := by decide +kernel
theorem dX1_mapRecords_13 : decode cX1_mapRecords 13 = .ok (.getfield 12, 3) := by decide +kernel
theorem dX1_mapRecords_16 : decode cX1_mapRecords 16 = .ok (.aload_n 1, 1) := by decide +kernel
theorem dX1_mapRecords_17 : decode cX1_mapRecords 17 = .ok (.aload_n 2, 1) := by decide +kernel
theorem dX1_mapRecords_18 : decode cX1_mapRecords 18 = .ok (.getfield 91, 3) := by decide +kernel
theorem dX1_mapRecords_21 : decode cX1_mapRecords 21 = .ok (.iload 4, 2) := by decide +kernel
theorem dX1_mapRecords_23 : decode cX1_mapRecords 23 = .ok (.iaload, 1) := by decide +kernel
theorem dX1_mapRecords_24 : decode cX1_mapRecords 24 = .ok (.aload_n 2, 1) := by decide +kernel
theorem dX1_mapRecords_25 : decode cX1_mapRecords 25 = .ok (.getfield 94, 3) := by decide +kernel
theorem dX1_mapRecords_28 : decode cX1_mapRecords 28 = .ok (.iload 4, 2) := by decide +kernel
theorem dX1_mapRecords_30 : decode cX1_mapRecords 30 = .ok (.iaload, 1) := by decide +kernel
theorem dX1_mapRecords_31 : decode cX1_mapRecords 31 = .ok (.iconst 0, 1) := by decide +kernel
theorem dX1_mapRecords_32 : decode cX1_mapRecords 32 = .ok (.invokevirtual 97, 3) := by decide +kernel
theorem dX1_mapRecords_35 : decode cX1_mapRecords 35 = .ok (.istore 5, 2) := by decide +kernel
theorem dX1_mapRecords_37 : decode cX1_mapRecords 37 = .ok (.iload 5, 2) := by decide +kernel
theorem dX1_mapRecords_39 : decode cX1_mapRecords 39 = .ok (.ifCond .ne 6, 3) := by decide +kernel
theorem dX1_mapRecords_42 : decode cX1_mapRecords 42 = .ok (.iload 4, 2) := by decide +kernel
theorem dX1_mapRecords_44 : decode cX1_mapRecords 44 = .ok (.ireturn, 1) := by decide +kernel
theorem dX1_mapRecords_45 : decode cX1_mapRecords 45 = .ok (.aload_n 0, 1) := by decide +kernel
theorem dX1_mapRecords_46 : decode cX1_mapRecords 46 = .ok (.getfield 41, 3) := by decide +kernel
theorem dX1_mapRecords_49 : decode cX1_mapRecords 49 = .ok (.iconst 1, 1) := by decide +kernel
theorem dX1_mapRecords_50 : decode cX1_mapRecords 50 = .ok (.dup2, 1) := by decide +kernel
theorem dX1_mapRecords_51 : decode cX1_mapRecords 51 = .ok (.iaload, 1) := by decide +kernel
theorem dX1_mapRecords_52 : decode cX1_mapRecords 52 = .ok (.aload_n 0, 1) := by decide +kernel
theorem dX1_mapRecords_53 : decode cX1_mapRecords 53 = .ok (.getfield 12, 3) := by decide +kernel
theorem dX1_mapRecords_56 : decode cX1_mapRecords 56 = .ok (.getfield 101, 3) := by decide +kernel
theorem dX1_mapRecords_59 : decode cX1_mapRecords 59 = .ok (.iadd, 1) := by decide +kernel
theorem dX1_mapRecords_60 : decode cX1_mapRecords 60 = .ok (.iastore, 1) := by decide +kernel
theorem dX1_mapRecords_61 : decode cX1_mapRecords 61 = .ok (.aload_n 0, 1) := by decide +kernel
theorem dX1_mapRecords_62 : decode cX1_mapRecords 62 = .ok (.getfield 18, 3) := by decide +kernel
theorem dX1_mapRecords_65 : decode cX1_mapRecords 65 = .ok (.iload 4, 2) := by decide +kernel
theorem dX1_mapRecords_67 : decode cX1_mapRecords 67 = .ok (.iload_n 3, 1) := by decide +kernel
theorem dX1_mapRecords_68 : decode cX1_mapRecords 68 = .ok (.idiv, 1) := by decide +kernel
theorem dX1_mapRecords_69 : decode cX1_mapRecords 69 = .ok (.aload_n 0, 1) := by decide +kernel
theorem dX1_mapRecords_70 : decode cX1_mapRecords 70 = .ok (.getfield 12, 3) := by decide +kernel
theorem dX1_mapRecords_73 : decode cX1_mapRecords 73 = .ok (.getfield 55, 3) := by decide +kernel
theorem dX1_mapRecords_76 : decode cX1_mapRecords 76 = .ok (.getfield 47, 3) := by decide +kernel
theorem dX1_mapRecords_79 : decode cX1_mapRecords 79 = .ok (.iastore, 1) := by decide +kernel
theorem dX1_mapRecords_80 : decode cX1_mapRecords 80 = .ok (.iinc 4 1, 3) := by decide +kernel
theorem dX1_mapRecords_83 : decode cX1_mapRecords 83 = .ok (.goto (-80), 3) := by decide +kernel
theorem dX1_mapRecords_86 : decode cX1_mapRecords 86 = .ok (.aload_n 0, 1) := by decide +kernel
theorem dX1_mapRecords_87 : decode cX1_mapRecords 87 = .ok (.getfield 41, 3) := by decide +kernel
theorem dX1_mapRecords_90 : decode cX1_mapRecords 90 = .ok (.iconst 1, 1) := by decide +kernel
theorem dX1_mapRecords_91 : decode cX1_mapRecords 91 = .ok (.iaload, 1) := by decide +kernel
theorem dX1_mapRecords_92 : decode cX1_mapRecords 92 = .ok (.sipush 600, 3) := by decide +kernel
theorem dX1_mapRecords_95 : decode cX1_mapRecords 95 = .ok (.if_icmp .le 9, 3) := by decide +kernel
theorem dX1_mapRecords_98 : decode cX1_mapRecords 98 = .ok (.sipush 4000, 3) := by decide +kernel
theorem dX1_mapRecords_101 : decode cX1_mapRecords 101 = .ok (.goto 4, 3) := by decide +kernel
theorem dX1_mapRecords_104 : decode cX1_mapRecords 104 = .ok (.iconst (-1), 1) := by decide +kernel
theorem dX1_mapRecords_105 : decode cX1_mapRecords 105 = .ok (.ireturn, 1) := by decide +kernel
theorem dX1_joinSplits_0 : decode cX1_joinSplits 0 = .ok (.iconst 0, 1) := by decide +kernel
theorem dX1_joinSplits_1 : decode cX1_joinSplits 1 = .ok (.istore_n 3, 1) := by decide +kernel
theorem dX1_joinSplits_2 : decode cX1_joinSplits 2 = .ok (.iconst 0, 1) := by decide +kernel
theorem dX1_joinSplits_3 : decode cX1_joinSplits 3 = .ok (.istore 4, 2) := by decide +kernel
theorem dX1_joinSplits_5 : decode cX1_joinSplits 5 = .ok (.iload 4, 2) := by decide +kernel
theorem dX1_joinSplits_7 : decode cX1_joinSplits 7 = .ok (.iload_n 2, 1) := by decide +kernel
theorem dX1_joinSplits_8 : decode cX1_joinSplits 8 = .ok (.if_icmp .ge 70, 3) := by decide +kernel
theorem dX1_joinSplits_11 : decode cX1_joinSplits 11 = .ok (.aload_n 0, 1) := by decide +kernel
theorem dX1_joinSplits_12 : decode cX1_joinSplits 12 = .ok (.getfield 25, 3) := by decide +kernel
theorem dX1_joinSplits_15 : decode cX1_joinSplits 15 = .ok (.iconst 0, 1) := by decide +kernel
theorem dX1_joinSplits_16 : decode cX1_joinSplits 16 = .ok (.putfield 82, 3) := by decide +kernel
theorem dX1_joinSplits_19 : decode cX1_joinSplits 19 = .ok (.aload_n 0, 1) := by decide +kernel
theorem dX1_joinSplits_20 : decode cX1_joinSplits 20 = .ok (.aload_n 1, 1) := by decide +kernel
theorem dX1_joinSplits_21 : decode cX1_joinSplits 21 = .ok (.aload_n 0, 1) := by decide +kernel
theorem dX1_joinSplits_22 : decode cX1_joinSplits 22 = .ok (.getfield 25, 3) := by decide +kernel
theorem dX1_joinSplits_25 : decode cX1_joinSplits 25 = .ok (.aload_n 0, 1) := by decide +kernel
theorem dX1_joinSplits_26 : decode cX1_joinSplits 26 = .ok (.getfield 12, 3) := by decide +kernel
theorem dX1_joinSplits_29 : decode cX1_joinSplits 29 = .ok (.getfield 55, 3) := by decide +kernel
theorem dX1_joinSplits_32 : decode cX1_joinSplits 32 = .ok (.iload_n 3, 1) := by decide +kernel
theorem dX1_joinSplits_33 : decode cX1_joinSplits 33 = .ok (.aload_n 0, 1) := by decide +kernel
theorem dX1_joinSplits_34 : decode cX1_joinSplits 34 = .ok (.getfield 18, 3) := by decide +kernel
theorem dX1_joinSplits_37 : decode cX1_joinSplits 37 = .ok (.iload 4, 2) := by decide +kernel
theorem dX1_joinSplits_39 : decode cX1_joinSplits 39 = .ok (.iaload, 1) := by decide +kernel
theorem dX1_joinSplits_40 : decode cX1_joinSplits 40 = .ok (.invokevirtual 104, 3) := by decide +kernel
theorem dX1_joinSplits_43 : decode cX1_joinSplits 43 = .ok (.ifCond .ne 10, 3) := by decide +kernel
theorem dX1_joinSplits_46 : decode cX1_joinSplits 46 = .ok (.sipush 1000, 3) := by decide +kernel
theorem dX1_joinSplits_49 : decode cX1_joinSplits 49 = .ok (.iload 4, 2) := by decide +kernel
theorem dX1_joinSplits_51 : decode cX1_joinSplits 51 = .ok (.iadd, 1) := by decide +kernel
theorem dX1_joinSplits_52 : decode cX1_joinSplits 52 = .ok (.ireturn, 1) := by decide +kernel
theorem dX1_joinSplits_53 : decode cX1_joinSplits 53 = .ok (.aload_n 0, 1) := by decide +kernel
theorem dX1_joinSplits_54 : decode cX1_joinSplits 54 = .ok (.getfield 34, 3) := by decide +kernel
theorem dX1_joinSplits_57 : decode cX1_joinSplits 57 = .ok (.aload_n 0, 1) := by decide +kernel
theorem dX1_joinSplits_58 : decode cX1_joinSplits 58 = .ok (.getfield 25, 3) := by decide +kernel
theorem dX1_joinSplits_61 : decode cX1_joinSplits 61 = .ok (.invokevirtual 108, 3) := by decide +kernel
theorem dX1_joinSplits_64 : decode cX1_joinSplits 64 = .ok (.aload_n 0, 1) := by decide +kernel
theorem dX1_joinSplits_65 : decode cX1_joinSplits 65 = .ok (.getfield 18, 3) := by decide +kernel
theorem dX1_joinSplits_68 : decode cX1_joinSplits 68 = .ok (.iload 4, 2) := by decide +kernel
theorem dX1_joinSplits_70 : decode cX1_joinSplits 70 = .ok (.iaload, 1) := by decide +kernel
theorem dX1_joinSplits_71 : decode cX1_joinSplits 71 = .ok (.istore_n 3, 1) := by decide +kernel
theorem dX1_joinSplits_72 : decode cX1_joinSplits 72 = .ok (.iinc 4 1, 3) := by decide +kernel
theorem dX1_joinSplits_75 : decode cX1_joinSplits 75 = .ok (.goto (-70), 3) := by decide +kernel
theorem dX1_joinSplits_78 : decode cX1_joinSplits 78 = .ok (.iconst (-1), 1) := by decide +kernel
theorem dX1_joinSplits_79 : decode cX1_joinSplits 79 = .ok (.ireturn, 1) := by decide +kernel
theorem dX1_foldValues_0 : decode cX1_foldValues 0 = .ok (.aload_n 0, 1) := by decide +kernel
theorem dX1_foldValues_1 : decode cX1_foldValues 1 = .ok (.getfield 41, 3) := by decide +kernel
theorem dX1_foldValues_4 : decode cX1_foldValues 4 = .ok (.iconst 2, 1) := by decide +kernel
theorem dX1_foldValues_5 : decode cX1_foldValues 5 = .ok (.aload_n 2, 1) := by decide +kernel
theorem dX1_foldValues_6 : decode cX1_foldValues 6 = .ok (.getfield 47, 3) := by decide +kernel
theorem dX1_foldValues_9 : decode cX1_foldValues 9 = .ok (.iastore, 1) := by decide +kernel
theorem dX1_foldValues_10 : decode cX1_foldValues 10 = .ok (.aload_n 0, 1) := by decide +kernel
theorem dX1_foldValues_11 : decode cX1_foldValues 11 = .ok (.aload_n 1, 1) := by decide +kernel
theorem dX1_foldValues_12 : decode cX1_foldValues 12 = .ok (.aload_n 0, 1) := by decide +kernel
theorem dX1_foldValues_13 : decode cX1_foldValues 13 = .ok (.getfield 38, 3) := by decide +kernel
theorem dX1_foldValues_16 : decode cX1_foldValues 16 = .ok (.aload_n 2, 1) := by decide +kernel
theorem dX1_foldValues_17 : decode cX1_foldValues 17 = .ok (.iconst 0, 1) := by decide +kernel
theorem dX1_foldValues_18 : decode cX1_foldValues 18 = .ok (.aload_n 2, 1) := by decide +kernel
theorem dX1_foldValues_19 : decode cX1_foldValues 19 = .ok (.getfield 47, 3) := by decide +kernel
theorem dX1_foldValues_22 : decode cX1_foldValues 22 = .ok (.invokevirtual 104, 3) := by decide +kernel
theorem dX1_foldValues_25 : decode cX1_foldValues 25 = .ok (.ifCond .ne 7, 3) := by decide +kernel
theorem dX1_foldValues_28 : decode cX1_foldValues 28 = .ok (.sipush 2000, 3) := by decide +kernel
theorem dX1_foldValues_31 : decode cX1_foldValues 31 = .ok (.ireturn, 1) := by decide +kernel
theorem dX1_foldValues_32 : decode cX1_foldValues 32 = .ok (.aload_n 0, 1) := by decide +kernel
theorem dX1_foldValues_33 : decode cX1_foldValues 33 = .ok (.getfield 41, 3) := by decide +kernel
theorem dX1_foldValues_36 : decode cX1_foldValues 36 = .ok (.iconst 3, 1) := by decide +kernel
theorem dX1_foldValues_37 : decode cX1_foldValues 37 = .ok (.aload_n 0, 1) := by decide +kernel
theorem dX1_foldValues_38 : decode cX1_foldValues 38 = .ok (.getfield 38, 3) := by decide +kernel
theorem dX1_foldValues_41 : decode cX1_foldValues 41 = .ok (.getfield 82, 3) := by decide +kernel
theorem dX1_foldValues_44 : decode cX1_foldValues 44 = .ok (.iastore, 1) := by decide +kernel
theorem dX1_foldValues_45 : decode cX1_foldValues 45 = .ok (.iconst (-1), 1) := by decide +kernel
theorem dX1_foldValues_46 : decode cX1_foldValues 46 = .ok (.ireturn, 1) := by decide +kernel
theorem dX1_merge_0 : decode cX1_merge 0 = .ok (.iload 4, 2) := by decide +kernel
theorem dX1_merge_2 : decode cX1_merge 2 = .ok (.istore 6, 2) := by decide +kernel
theorem dX1_merge_4 : decode cX1_merge 4 = .ok (.iload 6, 2) := by decide +kernel
theorem dX1_merge_6 : decode cX1_merge 6 = .ok (.iload 5, 2) := by decide +kernel
theorem dX1_merge_8 : decode cX1_merge 8 = .ok (.if_icmp .ge 102, 3) := by decide +kernel
theorem dX1_merge_11 : decode cX1_merge 11 = .ok (.aload_n 3, 1) := by decide +kernel
theorem dX1_merge_12 : decode cX1_merge 12 = .ok (.getfield 91, 3) := by decide +kernel
theorem dX1_merge_15 : decode cX1_merge 15 = .ok (.iload 6, 2) := by decide +kernel
theorem dX1_merge_17 : decode cX1_merge 17 = .ok (.iaload, 1) := by decide +kernel
theorem dX1_merge_18 : decode cX1_merge 18 = .ok (.istore 7, 2) := by decide +kernel
theorem dX1_merge_20 : decode cX1_merge 20 = .ok (.aload_n 2, 1) := by decide +kernel
theorem dX1_merge_21 : decode cX1_merge 21 = .ok (.iload 7, 2) := by decide +kernel
theorem dX1_merge_23 : decode cX1_merge 23 = .ok (.invokevirtual 112, 3) := by decide +kernel
theorem dX1_merge_26 : decode cX1_merge 26 = .ok (.istore 8, 2) := by decide +kernel
theorem dX1_merge_28 : decode cX1_merge 28 = .ok (.aload_n 2, 1) := by decide +kernel
theorem dX1_merge_29 : decode cX1_merge 29 = .ok (.iload 8, 2) := by decide +kernel
theorem dX1_merge_31 : decode cX1_merge 31 = .ok (.iload 7, 2) := by decide +kernel
theorem dX1_merge_33 : decode cX1_merge 33 = .ok (.invokevirtual 116, 3) := by decide +kernel
theorem dX1_merge_36 : decode cX1_merge 36 = .ok (.ifCond .ne 21, 3) := by decide +kernel
theorem dX1_merge_39 : decode cX1_merge 39 = .ok (.aload_n 2, 1) := by decide +kernel
theorem dX1_merge_40 : decode cX1_merge 40 = .ok (.iload 8, 2) := by decide +kernel
theorem dX1_merge_42 : decode cX1_merge 42 = .ok (.iload 7, 2) := by decide +kernel
theorem dX1_merge_44 : decode cX1_merge 44 = .ok (.aload_n 3, 1) := by decide +kernel
theorem dX1_merge_45 : decode cX1_merge 45 = .ok (.getfield 94, 3) := by decide +kernel
theorem dX1_merge_48 : decode cX1_merge 48 = .ok (.iload 6, 2) := by decide +kernel
theorem dX1_merge_50 : decode cX1_merge 50 = .ok (.iaload, 1) := by decide +kernel
theorem dX1_merge_51 : decode cX1_merge 51 = .ok (.invokevirtual 120, 3) := by decide +kernel
theorem dX1_merge_54 : decode cX1_merge 54 = .ok (.goto 50, 3) := by decide +kernel
theorem dX1_merge_57 : decode cX1_merge 57 = .ok (.aload_n 0, 1) := by decide +kernel
theorem dX1_merge_58 : decode cX1_merge 58 = .ok (.getfield 12, 3) := by decide +kernel
theorem dX1_merge_61 : decode cX1_merge 61 = .ok (.aload_n 1, 1) := by decide +kernel
theorem dX1_merge_62 : decode cX1_merge 62 = .ok (.iload 7, 2) := by decide +kernel
theorem dX1_merge_64 : decode cX1_merge 64 = .ok (.aload_n 2, 1) := by decide +kernel
theorem dX1_merge_65 : decode cX1_merge 65 = .ok (.getfield 124, 3) := by decide +kernel
theorem dX1_merge_68 : decode cX1_merge 68 = .ok (.iload 8, 2) := by decide +kernel
theorem dX1_merge_70 : decode cX1_merge 70 = .ok (.iaload, 1) := by decide +kernel
theorem dX1_merge_71 : decode cX1_merge 71 = .ok (.aload_n 3, 1) := by decide +kernel
theorem dX1_merge_72 : decode cX1_merge 72 = .ok (.getfield 94, 3) := by decide +kernel
theorem dX1_merge_75 : decode cX1_merge 75 = .ok (.iload 6, 2) := by decide +kernel
theorem dX1_merge_77 : decode cX1_merge 77 = .ok (.iaload, 1) := by decide +kernel
theorem dX1_merge_78 : decode cX1_merge 78 = .ok (.invokevirtual 97, 3) := by decide +kernel
theorem dX1_merge_81 : decode cX1_merge 81 = .ok (.istore 9, 2) := by decide +kernel
theorem dX1_merge_83 : decode cX1_merge 83 = .ok (.iload 9, 2) := by decide +kernel
theorem dX1_merge_85 : decode cX1_merge 85 = .ok (.ifCond .ne 5, 3) := by decide +kernel
theorem dX1_merge_88 : decode cX1_merge 88 = .ok (.iconst 0, 1) := by decide +kernel
theorem dX1_merge_89 : decode cX1_merge 89 = .ok (.ireturn, 1) := by decide +kernel
theorem dX1_merge_90 : decode cX1_merge 90 = .ok (.aload_n 2, 1) := by decide +kernel
theorem dX1_merge_91 : decode cX1_merge 91 = .ok (.getfield 124, 3) := by decide +kernel
theorem dX1_merge_94 : decode cX1_merge 94 = .ok (.iload 8, 2) := by decide +kernel
theorem dX1_merge_96 : decode cX1_merge 96 = .ok (.aload_n 0, 1) := by decide +kernel
theorem dX1_merge_97 : decode cX1_merge 97 = .ok (.getfield 12, 3) := by decide +kernel
theorem dX1_merge_100 : decode cX1_merge 100 = .ok (.getfield 125, 3) := by decide +kernel
theorem dX1_merge_103 : decode cX1_merge 103 = .ok (.iastore, 1) := by decide +kernel
theorem dX1_merge_104 : decode cX1_merge 104 = .ok (.iinc 6 1, 3) := by decide +kernel
theorem dX1_merge_107 : decode cX1_merge 107 = .ok (.goto (-103), 3) := by decide +kernel
theorem dX1_merge_110 : decode cX1_merge 110 = .ok (.iconst 1, 1) := by decide +kernel
theorem dX1_merge_111 : decode cX1_merge 111 = .ok (.ireturn, 1) := by decide +kernel
theorem dX1_endKeys_0 : decode cX1_endKeys 0 = .ok (.iconst 0, 1) := by decide +kernel
theorem dX1_endKeys_1 : decode cX1_endKeys 1 = .ok (.istore_n 2, 1) := by decide +kernel
theorem dX1_endKeys_2 : decode cX1_endKeys 2 = .ok (.iconst 0, 1) := by decide +kernel
theorem dX1_endKeys_3 : decode cX1_endKeys 3 = .ok (.istore_n 3, 1) := by decide +kernel
theorem dX1_endKeys_4 : decode cX1_endKeys 4 = .ok (.iload_n 3, 1) := by decide +kernel
theorem dX1_endKeys_5 : decode cX1_endKeys 5 = .ok (.aload_n 0, 1) := by decide +kernel
theorem dX1_endKeys_6 : decode cX1_endKeys 6 = .ok (.getfield 38, 3) := by decide +kernel
theorem dX1_endKeys_9 : decode cX1_endKeys 9 = .ok (.getfield 82, 3) := by decide +kernel
theorem dX1_endKeys_12 : decode cX1_endKeys 12 = .ok (.if_icmp .ge 90, 3) := by decide +kernel
theorem dX1_endKeys_15 : decode cX1_endKeys 15 = .ok (.aload_n 0, 1) := by decide +kernel
theorem dX1_endKeys_16 : decode cX1_endKeys 16 = .ok (.getfield 12, 3) := by decide +kernel
theorem dX1_endKeys_19 : decode cX1_endKeys 19 = .ok (.aload_n 1, 1) := by decide +kernel
theorem dX1_endKeys_20 : decode cX1_endKeys 20 = .ok (.aload_n 0, 1) := by decide +kernel
theorem dX1_endKeys_21 : decode cX1_endKeys 21 = .ok (.getfield 38, 3) := by decide +kernel
theorem dX1_endKeys_24 : decode cX1_endKeys 24 = .ok (.getfield 128, 3) := by decide +kernel
theorem dX1_endKeys_27 : decode cX1_endKeys 27 = .ok (.iload_n 3, 1) := by decide +kernel
theorem dX1_endKeys_28 : decode cX1_endKeys 28 = .ok (.iaload, 1) := by decide +kernel
theorem dX1_endKeys_29 : decode cX1_endKeys 29 = .ok (.aload_n 0, 1) := by decide +kernel
theorem dX1_endKeys_30 : decode cX1_endKeys 30 = .ok (.getfield 38, 3) := by decide +kernel
theorem dX1_endKeys_33 : decode cX1_endKeys 33 = .ok (.getfield 124, 3) := by decide +kernel
theorem dX1_endKeys_36 : decode cX1_endKeys 36 = .ok (.iload_n 3, 1) := by decide +kernel
theorem dX1_endKeys_37 : decode cX1_endKeys 37 = .ok (.iaload, 1) := by decide +kernel
theorem dX1_endKeys_38 : decode cX1_endKeys 38 = .ok (.iconst 0, 1) := by decide +kernel
theorem dX1_endKeys_39 : decode cX1_endKeys 39 = .ok (.invokevirtual 97, 3) := by decide +kernel
theorem dX1_endKeys_42 : decode cX1_endKeys 42 = .ok (.istore 4, 2) := by decide +kernel
theorem dX1_endKeys_44 : decode cX1_endKeys 44 = .ok (.iload 4, 2) := by decide +kernel
theorem dX1_endKeys_46 : decode cX1_endKeys 46 = .ok (.ifCond .ne 7, 3) := by decide +kernel
theorem dX1_endKeys_49 : decode cX1_endKeys 49 = .ok (.sipush 3000, 3) := by decide +kernel
theorem dX1_endKeys_52 : decode cX1_endKeys 52 = .ok (.ireturn, 1) := by decide +kernel
theorem dX1_endKeys_53 : decode cX1_endKeys 53 = .ok (.iload 4, 2) := by decide +kernel
theorem dX1_endKeys_55 : decode cX1_endKeys 55 = .ok (.iconst 1, 1) := by decide +kernel
theorem dX1_endKeys_56 : decode cX1_endKeys 56 = .ok (.if_icmp .ne 40, 3) := by decide +kernel
theorem dX1_endKeys_59 : decode cX1_endKeys 59 = .ok (.aload_n 0, 1) := by decide +kernel
theorem dX1_endKeys_60 : decode cX1_endKeys 60 = .ok (.getfield 38, 3) := by decide +kernel
theorem dX1_endKeys_63 : decode cX1_endKeys 63 = .ok (.getfield 128, 3) := by decide +kernel
theorem dX1_endKeys_66 : decode cX1_endKeys 66 = .ok (.iload_n 2, 1) := by decide +kernel
theorem dX1_endKeys_67 : decode cX1_endKeys 67 = .ok (.aload_n 0, 1) := by decide +kernel
theorem dX1_endKeys_68 : decode cX1_endKeys 68 = .ok (.getfield 38, 3) := by decide +kernel
theorem dX1_endKeys_71 : decode cX1_endKeys 71 = .ok (.getfield 128, 3) := by decide +kernel
theorem dX1_endKeys_74 : decode cX1_endKeys 74 = .ok (.iload_n 3, 1) := by decide +kernel
theorem dX1_endKeys_75 : decode cX1_endKeys 75 = .ok (.iaload, 1) := by decide +kernel
theorem dX1_endKeys_76 : decode cX1_endKeys 76 = .ok (.iastore, 1) := by decide +kernel
theorem dX1_endKeys_77 : decode cX1_endKeys 77 = .ok (.aload_n 0, 1) := by decide +kernel
theorem dX1_endKeys_78 : decode cX1_endKeys 78 = .ok (.getfield 38, 3) := by decide +kernel
theorem dX1_endKeys_81 : decode cX1_endKeys 81 = .ok (.getfield 124, 3) := by decide +kernel
theorem dX1_endKeys_84 : decode cX1_endKeys 84 = .ok (.iload_n 2, 1) := by decide +kernel
theorem dX1_endKeys_85 : decode cX1_endKeys 85 = .ok (.aload_n 0, 1) := by decide +kernel
theorem dX1_endKeys_86 : decode cX1_endKeys 86 = .ok (.getfield 12, 3) := by decide +kernel
theorem dX1_endKeys_89 : decode cX1_endKeys 89 = .ok (.getfield 125, 3) := by decide +kernel
theorem dX1_endKeys_92 : decode cX1_endKeys 92 = .ok (.iastore, 1) := by decide +kernel
theorem dX1_endKeys_93 : decode cX1_endKeys 93 = .ok (.iinc 2 1, 3) := by decide +kernel
theorem dX1_endKeys_96 : decode cX1_endKeys 96 = .ok (.iinc 3 1, 3) := by decide +kernel
theorem dX1_endKeys_99 : decode cX1_endKeys 99 = .ok (.goto (-95), 3) := by decide +kernel
theorem dX1_endKeys_102 : decode cX1_endKeys 102 = .ok (.aload_n 0, 1) := by decide +kernel
theorem dX1_endKeys_103 : decode cX1_endKeys 103 = .ok (.getfield 38, 3) := by decide +kernel
theorem dX1_endKeys_106 : decode cX1_endKeys 106 = .ok (.iload_n 2, 1) := by decide +kernel
theorem dX1_endKeys_107 : decode cX1_endKeys 107 = .ok (.putfield 82, 3) := by decide +kernel
theorem dX1_endKeys_110 : decode cX1_endKeys 110 = .ok (.iconst (-1), 1) := by decide +kernel
theorem dX1_endKeys_111 : decode cX1_endKeys 111 = .ok (.ireturn, 1) := by decide +kernel
theorem dX6_init_0 : decode cX6_init 0 = .ok (.aload_n 0, 1) := by decide +kernel
theorem dX6_init_1 : decode cX6_init 1 = .ok (.invokespecial 1, 3) := by decide +kernel
theorem dX6_init_4 : decode cX6_init 4 = .ok (.aload_n 0, 1) := by decide +kernel
theorem dX6_init_5 : decode cX6_init 5 = .ok (.iconst 1, 1) := by decide +kernel
theorem dX6_init_6 : decode cX6_init 6 = .ok (.bipush 16, 2) := by decide +kernel
theorem dX6_init_8 : decode cX6_init 8 = .ok (.iload_n 1, 1) := by decide +kernel
theorem dX6_init_9 : decode cX6_init 9 = .ok (.invokestatic 9, 3) := by decide +kernel
theorem dX6_init_12 : decode cX6_init 12 = .ok (.invokestatic 15, 3) := by decide +kernel
theorem dX6_init_15 : decode cX6_init 15 = .ok (.putfield 18, 3) := by decide +kernel
theorem dX6_init_18 : decode cX6_init 18 = .ok (.aload_n 0, 1) := by decide +kernel
theorem dX6_init_19 : decode cX6_init 19 = .ok (.new 22, 3) := by decide +kernel
theorem dX6_init_22 : decode cX6_init 22 = .ok (.dup, 1) := by decide +kernel
theorem dX6_init_23 : decode cX6_init 23 = .ok (.bipush 120, 2) := by decide +kernel
theorem dX6_init_25 : decode cX6_init 25 = .ok (.invokespecial 24, 3) := by decide +kernel
theorem dX6_init_28 : decode cX6_init 28 = .ok (.putfield 27, 3) := by decide +kernel
theorem dX6_init_31 : decode cX6_init 31 = .ok (.aload_n 0, 1) := by decide +kernel
theorem dX6_init_32 : decode cX6_init 32 = .ok (.iconst 4, 1) := by decide +kernel
theorem dX6_init_33 : decode cX6_init 33 = .ok (.anewarray 31, 3) := by decide +kernel
theorem dX6_init_36 : decode cX6_init 36 = .ok (.putfield 33, 3) := by decide +kernel
theorem dX6_init_39 : decode cX6_init 39 = .ok (.iconst 0, 1) := by decide +kernel
theorem dX6_init_40 : decode cX6_init 40 = .ok (.istore 4, 2) := by decide +kernel
theorem dX6_init_42 : decode cX6_init 42 = .ok (.iload 4, 2) := by decide +kernel
theorem dX6_init_44 : decode cX6_init 44 = .ok (.iconst 4, 1) := by decide +kernel
theorem dX6_init_45 : decode cX6_init 45 = .ok (.if_icmp .ge 25, 3) := by decide +kernel
theorem dX6_init_48 : decode cX6_init 48 = .ok (.aload_n 0, 1) := by decide +kernel
theorem dX6_init_49 : decode cX6_init 49 = .ok (.getfield 33, 3) := by decide +kernel
theorem dX6_init_52 : decode cX6_init 52 = .ok (.iload 4, 2) := by decide +kernel
theorem dX6_init_54 : decode cX6_init 54 = .ok (.new 31, 3) := by decide +kernel
theorem dX6_init_57 : decode cX6_init 57 = .ok (.dup, 1) := by decide +kernel
theorem dX6_init_58 : decode cX6_init 58 = .ok (.iload 4, 2) := by decide +kernel
theorem dX6_init_60 : decode cX6_init 60 = .ok (.invokespecial 37, 3) := by decide +kernel
theorem dX6_init_63 : decode cX6_init 63 = .ok (.aastore, 1) := by decide +kernel
theorem dX6_init_64 : decode cX6_init 64 = .ok (.iinc 4 1, 3) := by decide +kernel
theorem dX6_init_67 : decode cX6_init 67 = .ok (.goto (-25), 3) := by decide +kernel
theorem dX6_init_70 : decode cX6_init 70 = .ok (.aload_n 0, 1) := by decide +kernel
theorem dX6_init_71 : decode cX6_init 71 = .ok (.new 38, 3) := by decide +kernel
theorem dX6_init_74 : decode cX6_init 74 = .ok (.dup, 1) := by decide +kernel
theorem dX6_init_75 : decode cX6_init 75 = .ok (.invokespecial 40, 3) := by decide +kernel
theorem dX6_init_78 : decode cX6_init 78 = .ok (.putfield 41, 3) := by decide +kernel
theorem dX6_init_81 : decode cX6_init 81 = .ok (.aload_n 0, 1) := by decide +kernel
theorem dX6_init_82 : decode cX6_init 82 = .ok (.new 45, 3) := by decide +kernel
theorem dX6_init_85 : decode cX6_init 85 = .ok (.dup, 1) := by decide +kernel
theorem dX6_init_86 : decode cX6_init 86 = .ok (.invokespecial 47, 3) := by decide +kernel
theorem dX6_init_89 : decode cX6_init 89 = .ok (.putfield 48, 3) := by decide +kernel
theorem dX6_init_92 : decode cX6_init 92 = .ok (.return_, 1) := by decide +kernel
theorem dX6_record_0 : decode cX6_record 0 = .ok (.aload_n 0, 1) := by decide +kernel
theorem dX6_record_1 : decode cX6_record 1 = .ok (.getfield 27, 3) := by decide +kernel
theorem dX6_record_4 : decode cX6_record 4 = .ok (.iload_n 1, 1) := by decide +kernel
theorem dX6_record_5 : decode cX6_record 5 = .ok (.iload_n 2, 1) := by decide +kernel
theorem dX6_record_6 : decode cX6_record 6 = .ok (.invokevirtual 52, 3) := by decide +kernel
theorem dX6_record_9 : decode cX6_record 9 = .ok (.ifCond .eq 15, 3) := by decide +kernel
theorem dX6_record_12 : decode cX6_record 12 = .ok (.aload_n 0, 1) := by decide +kernel
theorem dX6_record_13 : decode cX6_record 13 = .ok (.getfield 27, 3) := by decide +kernel
theorem dX6_record_16 : decode cX6_record 16 = .ok (.getfield 56, 3) := by decide +kernel
theorem dX6_record_19 : decode cX6_record 19 = .ok (.iconst 1, 1) := by decide +kernel
theorem dX6_record_20 : decode cX6_record 20 = .ok (.isub, 1) := by decide +kernel
theorem dX6_record_21 : decode cX6_record 21 = .ok (.goto 5, 3) := by decide +kernel
theorem dX6_record_24 : decode cX6_record 24 = .ok (.bipush (-3), 2) := by decide +kernel
theorem dX6_record_26 : decode cX6_record 26 = .ok (.ireturn, 1) := by decide +kernel
theorem dX6_wipe_0 : decode cX6_wipe 0 = .ok (.aload_n 0, 1) := by decide +kernel
theorem dX6_wipe_1 : decode cX6_wipe 1 = .ok (.getfield 27, 3) := by decide +kernel
theorem dX6_wipe_4 : decode cX6_wipe 4 = .ok (.getfield 56, 3) := by decide +kernel
theorem dX6_wipe_7 : decode cX6_wipe 7 = .ok (.istore_n 1, 1) := by decide +kernel
theorem dX6_wipe_8 : decode cX6_wipe 8 = .ok (.aload_n 0, 1) := by decide +kernel
theorem dX6_wipe_9 : decode cX6_wipe 9 = .ok (.getfield 27, 3) := by decide +kernel
theorem dX6_wipe_12 : decode cX6_wipe 12 = .ok (.iconst 0, 1) := by decide +kernel
theorem dX6_wipe_13 : decode cX6_wipe 13 = .ok (.putfield 56, 3) := by decide +kernel
theorem dX6_wipe_16 : decode cX6_wipe 16 = .ok (.iload_n 1, 1) := by decide +kernel
theorem dX6_wipe_17 : decode cX6_wipe 17 = .ok (.ireturn, 1) := by decide +kernel
theorem dX6_code_0 : decode cX6_code 0 = .ok (.iload_n 1, 1) := by decide +kernel
theorem dX6_code_1 : decode cX6_code 1 = .ok (.invokestatic 59, 3) := by decide +kernel
theorem dX6_code_4 : decode cX6_code 4 = .ok (.ifCond .eq 17, 3) := by decide +kernel
theorem dX6_code_7 : decode cX6_code 7 = .ok (.aload_n 0, 1) := by decide +kernel
theorem dX6_code_8 : decode cX6_code 8 = .ok (.getfield 33, 3) := by decide +kernel
theorem dX6_code_11 : decode cX6_code 11 = .ok (.iload_n 1, 1) := by decide +kernel
theorem dX6_code_12 : decode cX6_code 12 = .ok (.aaload, 1) := by decide +kernel
theorem dX6_code_13 : decode cX6_code 13 = .ok (.iload_n 2, 1) := by decide +kernel
theorem dX6_code_14 : decode cX6_code 14 = .ok (.iload_n 3, 1) := by decide +kernel
theorem dX6_code_15 : decode cX6_code 15 = .ok (.invokevirtual 63, 3) := by decide +kernel
theorem dX6_code_18 : decode cX6_code 18 = .ok (.goto 4, 3) := by decide +kernel
theorem dX6_code_21 : decode cX6_code 21 = .ok (.iconst (-1), 1) := by decide +kernel
theorem dX6_code_22 : decode cX6_code 22 = .ok (.ireturn, 1) := by decide +kernel
theorem dX6_clear_0 : decode cX6_clear 0 = .ok (.iload_n 1, 1) := by decide +kernel
theorem dX6_clear_1 : decode cX6_clear 1 = .ok (.invokestatic 59, 3) := by decide +kernel
theorem dX6_clear_4 : decode cX6_clear 4 = .ok (.ifCond .ne 5, 3) := by decide +kernel
theorem dX6_clear_7 : decode cX6_clear 7 = .ok (.iconst (-1), 1) := by decide +kernel
theorem dX6_clear_8 : decode cX6_clear 8 = .ok (.ireturn, 1) := by decide +kernel
theorem dX6_clear_9 : decode cX6_clear 9 = .ok (.aload_n 0, 1) := by decide +kernel
theorem dX6_clear_10 : decode cX6_clear 10 = .ok (.getfield 33, 3) := by decide +kernel
theorem dX6_clear_13 : decode cX6_clear 13 = .ok (.iload_n 1, 1) := by decide +kernel
theorem dX6_clear_14 : decode cX6_clear 14 = .ok (.aaload, 1) := by decide +kernel
theorem dX6_clear_15 : decode cX6_clear 15 = .ok (.getfield 65, 3) := by decide +kernel
theorem dX6_clear_18 : decode cX6_clear 18 = .ok (.istore_n 2, 1) := by decide +kernel
theorem dX6_clear_19 : decode cX6_clear 19 = .ok (.aload_n 0, 1) := by decide +kernel
theorem dX6_clear_20 : decode cX6_clear 20 = .ok (.getfield 33, 3) := by decide +kernel
theorem dX6_clear_23 : decode cX6_clear 23 = .ok (.iload_n 1, 1) := by decide +kernel
theorem dX6_clear_24 : decode cX6_clear 24 = .ok (.aaload, 1) := by decide +kernel
theorem dX6_clear_25 : decode cX6_clear 25 = .ok (.iconst 0, 1) := by decide +kernel
theorem dX6_clear_26 : decode cX6_clear 26 = .ok (.putfield 65, 3) := by decide +kernel
theorem dX6_clear_29 : decode cX6_clear 29 = .ok (.iload_n 2, 1) := by decide +kernel
theorem dX6_clear_30 : decode cX6_clear 30 = .ok (.ireturn, 1) := by decide +kernel
theorem dX6_check_0 : decode cX6_check 0 = .ok (.iload_n 1, 1) := by decide +kernel
theorem dX6_check_1 : decode cX6_check 1 = .ok (.invokestatic 59, 3) := by decide +kernel
theorem dX6_check_4 : decode cX6_check 4 = .ok (.ifCond .eq 19, 3) := by decide +kernel
theorem dX6_check_7 : decode cX6_check 7 = .ok (.aload_n 0, 1) := by decide +kernel
theorem dX6_check_8 : decode cX6_check 8 = .ok (.getfield 41, 3) := by decide +kernel
theorem dX6_check_11 : decode cX6_check 11 = .ok (.aload_n 0, 1) := by decide +kernel
theorem dX6_check_12 : decode cX6_check 12 = .ok (.getfield 33, 3) := by decide +kernel
theorem dX6_check_15 : decode cX6_check 15 = .ok (.iload_n 1, 1) := by decide +kernel
theorem dX6_check_16 : decode cX6_check 16 = .ok (.aaload, 1) := by decide +kernel
theorem dX6_check_17 : decode cX6_check 17 = .ok (.invokevirtual 66, 3) := by decide +kernel
theorem dX6_check_20 : decode cX6_check 20 = .ok (.goto 4, 3) := by decide +kernel
theorem dX6_check_23 : decode cX6_check 23 = .ok (.iconst (-1), 1) := by decide +kernel
theorem dX6_check_24 : decode cX6_check 24 = .ok (.ireturn, 1) := by decide +kernel
theorem dX6_run_0 : decode cX6_run 0 = .ok (.aload_n 0, 1) := by decide +kernel
theorem dX6_run_1 : decode cX6_run 1 = .ok (.iconst 0, 1) := by decide +kernel
theorem dX6_run_2 : decode cX6_run 2 = .ok (.invokevirtual 70, 3) := by decide +kernel
theorem dX6_run_5 : decode cX6_run 5 = .ok (.ifCond .eq 27, 3) := by decide +kernel
theorem dX6_run_8 : decode cX6_run 8 = .ok (.aload_n 0, 1) := by decide +kernel
theorem dX6_run_9 : decode cX6_run 9 = .ok (.iconst 2, 1) := by decide +kernel
theorem dX6_run_10 : decode cX6_run 10 = .ok (.invokevirtual 70, 3) := by decide +kernel
theorem dX6_run_13 : decode cX6_run 13 = .ok (.ifCond .eq 19, 3) := by decide +kernel
theorem dX6_run_16 : decode cX6_run 16 = .ok (.aload_n 0, 1) := by decide +kernel
theorem dX6_run_17 : decode cX6_run 17 = .ok (.iconst 1, 1) := by decide +kernel
theorem dX6_run_18 : decode cX6_run 18 = .ok (.invokevirtual 73, 3) := by decide +kernel
theorem dX6_run_21 : decode cX6_run 21 = .ok (.ifCond .eq 11, 3) := by decide +kernel
theorem dX6_run_24 : decode cX6_run 24 = .ok (.aload_n 0, 1) := by decide +kernel
theorem dX6_run_25 : decode cX6_run 25 = .ok (.iconst 3, 1) := by decide +kernel
theorem dX6_run_26 : decode cX6_run 26 = .ok (.invokevirtual 73, 3) := by decide +kernel
theorem dX6_run_29 : decode cX6_run 29 = .ok (.ifCond .ne 6, 3) := by decide +kernel
theorem dX6_run_32 : decode cX6_run 32 = .ok (.bipush (-2), 2) := by decide +kernel
theorem dX6_run_34 : decode cX6_run 34 = .ok (.ireturn, 1) := by decide +kernel
theorem dX6_run_35 : decode cX6_run 35 = .ok (.aload_n 0, 1) := by decide +kernel
theorem dX6_run_36 : decode cX6_run 36 = .ok (.getfield 48, 3) := by decide +kernel
theorem dX6_run_39 : decode cX6_run 39 = .ok (.aload_n 0, 1) := by decide +kernel
theorem dX6_run_40 : decode cX6_run 40 = .ok (.getfield 33, 3) := by decide +kernel
theorem dX6_run_43 : decode cX6_run 43 = .ok (.aload_n 0, 1) := by decide +kernel
theorem dX6_run_44 : decode cX6_run 44 = .ok (.getfield 27, 3) := by decide +kernel
theorem dX6_run_47 : decode cX6_run 47 = .ok (.aload_n 0, 1) := by decide +kernel
theorem dX6_run_48 : decode cX6_run 48 = .ok (.getfield 18, 3) := by decide +kernel
theorem dX6_run_51 : decode cX6_run 51 = .ok (.invokevirtual 76, 3) := by decide +kernel
theorem dX6_run_54 : decode cX6_run 54 = .ok (.ireturn, 1) := by decide +kernel
theorem dX6_result_0 : decode cX6_result 0 = .ok (.iload_n 1, 1) := by decide +kernel
theorem dX6_result_1 : decode cX6_result 1 = .ok (.ifCond .lt 17, 3) := by decide +kernel
theorem dX6_result_4 : decode cX6_result 4 = .ok (.iload_n 1, 1) := by decide +kernel
theorem dX6_result_5 : decode cX6_result 5 = .ok (.aload_n 0, 1) := by decide +kernel
theorem dX6_result_6 : decode cX6_result 6 = .ok (.getfield 48, 3) := by decide +kernel
theorem dX6_result_9 : decode cX6_result 9 = .ok (.getfield 80, 3) := by decide +kernel
theorem dX6_result_12 : decode cX6_result 12 = .ok (.getfield 84, 3) := by decide +kernel
theorem dX6_result_15 : decode cX6_result 15 = .ok (.if_icmp .lt 7, 3) := by decide +kernel
theorem dX6_result_18 : decode cX6_result 18 = .ok (.ldc2_w 87, 3) := by decide +kernel
theorem dX6_result_21 : decode cX6_result 21 = .ok (.lreturn, 1) := by decide +kernel
theorem dX6_result_22 : decode cX6_result 22 = .ok (.iload_n 2, 1) := by decide +kernel
theorem dX6_result_23 : decode cX6_result 23 = .ok (.ifCond .ne 17, 3) := by decide +kernel
theorem dX6_result_26 : decode cX6_result 26 = .ok (.aload_n 0, 1) := by decide +kernel
theorem dX6_result_27 : decode cX6_result 27 = .ok (.getfield 48, 3) := by decide +kernel
theorem dX6_result_30 : decode cX6_result 30 = .ok (.getfield 80, 3) := by decide +kernel
theorem dX6_result_33 : decode cX6_result 33 = .ok (.getfield 89, 3) := by decide +kernel
theorem dX6_result_36 : decode cX6_result 36 = .ok (.iload_n 1, 1) := by decide +kernel
theorem dX6_result_37 : decode cX6_result 37 = .ok (.iaload, 1) := by decide +kernel
theorem dX6_result_38 : decode cX6_result 38 = .ok (.i2l, 1) := by decide +kernel
theorem dX6_result_39 : decode cX6_result 39 = .ok (.lreturn, 1) := by decide +kernel
theorem dX6_result_40 : decode cX6_result 40 = .ok (.iload_n 2, 1) := by decide +kernel
theorem dX6_result_41 : decode cX6_result 41 = .ok (.iconst 1, 1) := by decide +kernel
theorem dX6_result_42 : decode cX6_result 42 = .ok (.if_icmp .ne 19, 3) := by decide +kernel
theorem dX6_result_45 : decode cX6_result 45 = .ok (.aload_n 0, 1) := by decide +kernel
theorem dX6_result_46 : decode cX6_result 46 = .ok (.getfield 48, 3) := by decide +kernel
theorem dX6_result_49 : decode cX6_result 49 = .ok (.getfield 80, 3) := by decide +kernel
theorem dX6_result_52 : decode cX6_result 52 = .ok (.getfield 93, 3) := by decide +kernel
theorem dX6_result_55 : decode cX6_result 55 = .ok (.iload_n 1, 1) := by decide +kernel
theorem dX6_result_56 : decode cX6_result 56 = .ok (.iaload, 1) := by decide +kernel
theorem dX6_result_57 : decode cX6_result 57 = .ok (.i2l, 1) := by decide +kernel
theorem dX6_result_58 : decode cX6_result 58 = .ok (.goto 6, 3) := by decide +kernel
theorem dX6_result_61 : decode cX6_result 61 = .ok (.ldc2_w 87, 3) := by decide +kernel
theorem dX6_result_64 : decode cX6_result 64 = .ok (.lreturn, 1) := by decide +kernel
theorem dX6_valueOf_0 : decode cX6_valueOf 0 = .ok (.aload_n 0, 1) := by decide +kernel
theorem dX6_valueOf_1 : decode cX6_valueOf 1 = .ok (.getfield 48, 3) := by decide +kernel
theorem dX6_valueOf_4 : decode cX6_valueOf 4 = .ok (.getfield 80, 3) := by decide +kernel
theorem dX6_valueOf_7 : decode cX6_valueOf 7 = .ok (.iload_n 1, 1) := by decide +kernel
theorem dX6_valueOf_8 : decode cX6_valueOf 8 = .ok (.invokevirtual 96, 3) := by decide +kernel
theorem dX6_valueOf_11 : decode cX6_valueOf 11 = .ok (.istore_n 2, 1) := by decide +kernel
theorem dX6_valueOf_12 : decode cX6_valueOf 12 = .ok (.aload_n 0, 1) := by decide +kernel
theorem dX6_valueOf_13 : decode cX6_valueOf 13 = .ok (.getfield 48, 3) := by decide +kernel
theorem dX6_valueOf_16 : decode cX6_valueOf 16 = .ok (.getfield 80, 3) := by decide +kernel
theorem dX6_valueOf_19 : decode cX6_valueOf 19 = .ok (.iload_n 2, 1) := by decide +kernel
theorem dX6_valueOf_20 : decode cX6_valueOf 20 = .ok (.iload_n 1, 1) := by decide +kernel
theorem dX6_valueOf_21 : decode cX6_valueOf 21 = .ok (.invokevirtual 100, 3) := by decide +kernel
theorem dX6_valueOf_24 : decode cX6_valueOf 24 = .ok (.ifCond .eq 19, 3) := by decide +kernel
theorem dX6_valueOf_27 : decode cX6_valueOf 27 = .ok (.aload_n 0, 1) := by decide +kernel
theorem dX6_valueOf_28 : decode cX6_valueOf 28 = .ok (.getfield 48, 3) := by decide +kernel
theorem dX6_valueOf_31 : decode cX6_valueOf 31 = .ok (.getfield 80, 3) := by decide +kernel
theorem dX6_valueOf_34 : decode cX6_valueOf 34 = .ok (.getfield 93, 3) := by decide +kernel
theorem dX6_valueOf_37 : decode cX6_valueOf 37 = .ok (.iload_n 2, 1) := by decide +kernel
theorem dX6_valueOf_38 : decode cX6_valueOf 38 = .ok (.iaload, 1) := by decide +kernel
theorem dX6_valueOf_39 : decode cX6_valueOf 39 = .ok (.i2l, 1) := by decide +kernel
theorem dX6_valueOf_40 : decode cX6_valueOf 40 = .ok (.goto 6, 3) := by decide +kernel
theorem dX6_valueOf_43 : decode cX6_valueOf 43 = .ok (.ldc2_w 87, 3) := by decide +kernel
theorem dX6_valueOf_46 : decode cX6_valueOf 46 = .ok (.lreturn, 1) := by decide +kernel
theorem dX6_count_0 : decode cX6_count 0 = .ok (.iload_n 1, 1) := by decide +kernel
theorem dX6_count_1 : decode cX6_count 1 = .ok (.ifCond .lt 9, 3) := by decide +kernel
theorem dX6_count_4 : decode cX6_count 4 = .ok (.iload_n 1, 1) := by decide +kernel
theorem dX6_count_5 : decode cX6_count 5 = .ok (.bipush 9, 2) := by decide +kernel
theorem dX6_count_7 : decode cX6_count 7 = .ok (.if_icmp .le 5, 3) := by decide +kernel
theorem dX6_count_10 : decode cX6_count 10 = .ok (.iconst (-1), 1) := by decide +kernel
theorem dX6_count_11 : decode cX6_count 11 = .ok (.ireturn, 1) := by decide +kernel
theorem dX6_count_12 : decode cX6_count 12 = .ok (.iload_n 1, 1) := by decide +kernel
theorem dX6_count_13 : decode cX6_count 13 = .ok (.bipush 8, 2) := by decide +kernel
theorem dX6_count_15 : decode cX6_count 15 = .ok (.if_icmp .ne 11, 3) := by decide +kernel
theorem dX6_count_18 : decode cX6_count 18 = .ok (.aload_n 0, 1) := by decide +kernel
theorem dX6_count_19 : decode cX6_count 19 = .ok (.getfield 27, 3) := by decide +kernel
theorem dX6_count_22 : decode cX6_count 22 = .ok (.getfield 56, 3) := by decide +kernel
theorem dX6_count_25 : decode cX6_count 25 = .ok (.ireturn, 1) := by decide +kernel
theorem dX6_count_26 : decode cX6_count 26 = .ok (.iload_n 1, 1) := by decide +kernel
theorem dX6_count_27 : decode cX6_count 27 = .ok (.bipush 9, 2) := by decide +kernel
theorem dX6_count_29 : decode cX6_count 29 = .ok (.if_icmp .ne 25, 3) := by decide +kernel
theorem dX6_count_32 : decode cX6_count 32 = .ok (.aload_n 0, 1) := by decide +kernel
theorem dX6_count_33 : decode cX6_count 33 = .ok (.getfield 27, 3) := by decide +kernel
theorem dX6_count_36 : decode cX6_count 36 = .ok (.getfield 56, 3) := by decide +kernel
theorem dX6_count_39 : decode cX6_count 39 = .ok (.aload_n 0, 1) := by decide +kernel
theorem dX6_count_40 : decode cX6_count 40 = .ok (.getfield 18, 3) := by decide +kernel
theorem dX6_count_43 : decode cX6_count 43 = .ok (.iadd, 1) := by decide +kernel
theorem dX6_count_44 : decode cX6_count 44 = .ok (.iconst 1, 1) := by decide +kernel
theorem dX6_count_45 : decode cX6_count 45 = .ok (.isub, 1) := by decide +kernel
theorem dX6_count_46 : decode cX6_count 46 = .ok (.aload_n 0, 1) := by decide +kernel
theorem dX6_count_47 : decode cX6_count 47 = .ok (.getfield 18, 3) := by decide +kernel
theorem dX6_count_50 : decode cX6_count 50 = .ok (.idiv, 1) := by decide +kernel
theorem dX6_count_51 : decode cX6_count 51 = .ok (.goto 12, 3) := by decide +kernel
theorem dX6_count_54 : decode cX6_count 54 = .ok (.aload_n 0, 1) := by decide +kernel
theorem dX6_count_55 : decode cX6_count 55 = .ok (.getfield 48, 3) := by decide +kernel
theorem dX6_count_58 : decode cX6_count 58 = .ok (.getfield 103, 3) := by decide +kernel
theorem dX6_count_61 : decode cX6_count 61 = .ok (.iload_n 1, 1) := by decide +kernel
theorem dX6_count_62 : decode cX6_count 62 = .ok (.iaload, 1) := by decide +kernel
theorem dX6_count_63 : decode cX6_count 63 = .ok (.ireturn, 1) := by decide +kernel
theorem dX6_isProgram_0 : decode cX6_isProgram 0 = .ok (.iload_n 0, 1) := by decide +kernel
theorem dX6_isProgram_1 : decode cX6_isProgram 1 = .ok (.ifCond .lt 12, 3) := by decide +kernel
theorem dX6_isProgram_4 : decode cX6_isProgram 4 = .ok (.iload_n 0, 1) := by decide +kernel
theorem dX6_isProgram_5 : decode cX6_isProgram 5 = .ok (.iconst 4, 1) := by decide +kernel
theorem dX6_isProgram_6 : decode cX6_isProgram 6 = .ok (.if_icmp .ge 7, 3) := by decide +kernel
theorem dX6_isProgram_9 : decode cX6_isProgram 9 = .ok (.iconst 1, 1) := by decide +kernel
theorem dX6_isProgram_10 : decode cX6_isProgram 10 = .ok (.goto 4, 3) := by decide +kernel
theorem dX6_isProgram_13 : decode cX6_isProgram 13 = .ok (.iconst 0, 1) := by decide +kernel
theorem dX6_isProgram_14 : decode cX6_isProgram 14 = .ok (.ireturn, 1) := by decide +kernel
theorem dX6_isJump_0 : decode cX6_isJump 0 = .ok (.iload_n 0, 1) := by decide +kernel
theorem dX6_isJump_1 : decode cX6_isJump 1 = .ok (.bipush 14, 2) := by decide +kernel
theorem dX6_isJump_3 : decode cX6_isJump 3 = .ok (.if_icmp .eq 9, 3) := by decide +kernel
theorem dX6_isJump_6 : decode cX6_isJump 6 = .ok (.iload_n 0, 1) := by decide +kernel
theorem dX6_isJump_7 : decode cX6_isJump 7 = .ok (.bipush 15, 2) := by decide +kernel
theorem dX6_isJump_9 : decode cX6_isJump 9 = .ok (.if_icmp .ne 7, 3) := by decide +kernel
theorem dX6_isJump_12 : decode cX6_isJump 12 = .ok (.iconst 1, 1) := by decide +kernel
theorem dX6_isJump_13 : decode cX6_isJump 13 = .ok (.goto 4, 3) := by decide +kernel
theorem dX6_isJump_16 : decode cX6_isJump 16 = .ok (.iconst 0, 1) := by decide +kernel
theorem dX6_isJump_17 : decode cX6_isJump 17 = .ok (.ireturn, 1) := by decide +kernel
theorem dX6_isCombination_0 : decode cX6_isCombination 0 = .ok (.iload_n 0, 1) := by decide +kernel
theorem dX6_isCombination_1 : decode cX6_isCombination 1 = .ok (.bipush 7, 2) := by decide +kernel
theorem dX6_isCombination_3 : decode cX6_isCombination 3 = .ok (.if_icmp .lt 13, 3) := by decide +kernel
theorem dX6_isCombination_6 : decode cX6_isCombination 6 = .ok (.iload_n 0, 1) := by decide +kernel
theorem dX6_isCombination_7 : decode cX6_isCombination 7 = .ok (.bipush 13, 2) := by decide +kernel
theorem dX6_isCombination_9 : decode cX6_isCombination 9 = .ok (.if_icmp .gt 7, 3) := by decide +kernel
theorem dX6_isCombination_12 : decode cX6_isCombination 12 = .ok (.iconst 1, 1) := by decide +kernel
theorem dX6_isCombination_13 : decode cX6_isCombination 13 = .ok (.goto 4, 3) := by decide +kernel
theorem dX6_isCombination_16 : decode cX6_isCombination 16 = .ok (.iconst 0, 1) := by decide +kernel
theorem dX6_isCombination_17 : decode cX6_isCombination 17 = .ok (.ireturn, 1) := by decide +kernel
theorem dX6_isGood_0 : decode cX6_isGood 0 = .ok (.aload_n 0, 1) := by decide +kernel
theorem dX6_isGood_1 : decode cX6_isGood 1 = .ok (.getfield 41, 3) := by decide +kernel
theorem dX6_isGood_4 : decode cX6_isGood 4 = .ok (.aload_n 0, 1) := by decide +kernel
theorem dX6_isGood_5 : decode cX6_isGood 5 = .ok (.getfield 33, 3) := by decide +kernel
theorem dX6_isGood_8 : decode cX6_isGood 8 = .ok (.iload_n 1, 1) := by decide +kernel
theorem dX6_isGood_9 : decode cX6_isGood 9 = .ok (.aaload, 1) := by decide +kernel
theorem dX6_isGood_10 : decode cX6_isGood 10 = .ok (.invokevirtual 66, 3) := by decide +kernel
theorem dX6_isGood_13 : decode cX6_isGood 13 = .ok (.bipush (-2), 2) := by decide +kernel
theorem dX6_isGood_15 : decode cX6_isGood 15 = .ok (.if_icmp .ne 7, 3) := by decide +kernel
theorem dX6_isGood_18 : decode cX6_isGood 18 = .ok (.iconst 1, 1) := by decide +kernel
theorem dX6_isGood_19 : decode cX6_isGood 19 = .ok (.goto 4, 3) := by decide +kernel
theorem dX6_isGood_22 : decode cX6_isGood 22 = .ok (.iconst 0, 1) := by decide +kernel
theorem dX6_isGood_23 : decode cX6_isGood 23 = .ok (.ireturn, 1) := by decide +kernel
theorem dX6_isGoodOrEmpty_0 : decode cX6_isGoodOrEmpty 0 = .ok (.aload_n 0, 1) := by decide +kernel
theorem dX6_isGoodOrEmpty_1 : decode cX6_isGoodOrEmpty 1 = .ok (.getfield 41, 3) := by decide +kernel
theorem dX6_isGoodOrEmpty_4 : decode cX6_isGoodOrEmpty 4 = .ok (.aload_n 0, 1) := by decide +kernel
theorem dX6_isGoodOrEmpty_5 : decode cX6_isGoodOrEmpty 5 = .ok (.getfield 33, 3) := by decide +kernel
theorem dX6_isGoodOrEmpty_8 : decode cX6_isGoodOrEmpty 8 = .ok (.iload_n 1, 1) := by decide +kernel
theorem dX6_isGoodOrEmpty_9 : decode cX6_isGoodOrEmpty 9 = .ok (.aaload, 1) := by decide +kernel
theorem dX6_isGoodOrEmpty_10 : decode cX6_isGoodOrEmpty 10 = .ok (.invokevirtual 66, 3) := by decide +kernel
theorem dX6_isGoodOrEmpty_13 : decode cX6_isGoodOrEmpty 13 = .ok (.istore_n 2, 1) := by decide +kernel
theorem dX6_isGoodOrEmpty_14 : decode cX6_isGoodOrEmpty 14 = .ok (.iload_n 2, 1) := by decide +kernel
theorem dX6_isGoodOrEmpty_15 : decode cX6_isGoodOrEmpty 15 = .ok (.bipush (-2), 2) := by decide +kernel
theorem dX6_isGoodOrEmpty_17 : decode cX6_isGoodOrEmpty 17 = .ok (.if_icmp .eq 9, 3) := by decide +kernel
theorem dX6_isGoodOrEmpty_20 : decode cX6_isGoodOrEmpty 20 = .ok (.iload_n 2, 1) := by decide +kernel
theorem dX6_isGoodOrEmpty_21 : decode cX6_isGoodOrEmpty 21 = .ok (.bipush 64, 2) := by decide +kernel
theorem dX6_isGoodOrEmpty_23 : decode cX6_isGoodOrEmpty 23 = .ok (.if_icmp .ne 7, 3) := by decide +kernel
theorem dX6_isGoodOrEmpty_26 : decode cX6_isGoodOrEmpty 26 = .ok (.iconst 1, 1) := by decide +kernel
theorem dX6_isGoodOrEmpty_27 : decode cX6_isGoodOrEmpty 27 = .ok (.goto 4, 3) := by decide +kernel
theorem dX6_isGoodOrEmpty_30 : decode cX6_isGoodOrEmpty 30 = .ok (.iconst 0, 1) := by decide +kernel
theorem dX6_isGoodOrEmpty_31 : decode cX6_isGoodOrEmpty 31 = .ok (.ireturn, 1) := by decide +kernel
end
section
/-! the small machine and the checker, as mathematics -/
def nArg (kd : Nat) : Nat := if kd = 1 ∨ kd = 2 then 3 else 2
def nNeed (o : Nat) : Nat := ([0, 0, 0, 1, 1, 2, 1, 2, 2, 2, 2, 2, 2, 2, 0, 1, 2, 1, 0] : List Nat).getD o 0
def gU (o : Nat) : Nat := ([1, 1, 1, 0, 1, 0, 0, 0, 0, 0, 0, 0, 0, 0, 0, 0, 0, 0, 0] : List Nat).getD o 0
def gD (o : Nat) : Nat := ([0, 0, 0, 1, 0, 0, 1, 1, 1, 1, 1, 1, 1, 1, 0, 1, 2, 0, 0] : List Nat).getD o 0
def pNeed (kd o : Nat) : Nat := if o = 17 ∧ kd = 0 then 0 else nNeed o
def hasNx (o : Nat) : Prop := o ≠ 14 ∧ o ≠ 17 ∧ o ≠ 18
def pOK (kd : Nat) (op nn : Nat → Int32) (len i o : Nat) : Prop :=
  o ≤ 18 ∧ op i = nI o ∧ (o = 16 → kd = 0) ∧ (o = 18 → kd = 3) ∧ (o = 1 → ∃ j, j < nArg kd ∧ nn i = nI j) ∧ (o = 2 ∨ o = 3 → ∃ j, j < 4 ∧ nn i = nI j) ∧ (o = 14 ∨ o = 15 → ∃ j, j < len ∧ nn i = nI j)
def okS (kd : Nat) (op nn : Nat → Int32) (len i h o : Nat) : Prop :=
  pOK kd op nn len i o ∧ (hasNx o → i + 1 < len) ∧ pNeed kd o ≤ h ∧ h + gU o - gD o ≤ 8
def Suc (kd : Nat) (op nn : Nat → Int32) (len i h i2 h2 : Nat) : Prop :=
  ∃ o, okS kd op nn len i h o ∧ h2 = h + gU o - gD o ∧ ((hasNx o ∧ i2 = i + 1) ∨ ((o = 14 ∨ o = 15) ∧ i2 < len ∧ nn i = nI i2))
/-- what can be reached: a place with a height -/
def Rch (kd : Nat) (op nn : Nat → Int32) (len i h : Nat) : Prop :=
  ∀ S : Nat → Nat → Prop, S 0 0 → (∀ i h i2 h2, S i h → Suc kd op nn len i h i2 h2 → S i2 h2) → S i h
def Wr (kd : Nat) (op nn : Nat → Int32) (len i : Nat) : Prop :=
  (¬ ∃ o, pOK kd op nn len i o) ∨ (∃ h o, Rch kd op nn len i h ∧ pOK kd op nn len i o ∧ ¬ okS kd op nn len i h o) ∨ (∃ h h2, h ≠ h2 ∧ Rch kd op nn len i h ∧ Rch kd op nn len i h2)
def Good (kd : Nat) (op nn : Nat → Int32) (len : Nat) : Prop := 0 < len ∧ ∀ i, i < len → ¬ Wr kd op nn len i
section MACH
variable {kd : Nat} {op nn : Nat → Int32} {len : Nat}
theorem Rch.zero : Rch kd op nn len 0 0 := fun _ h _ => h
theorem Rch.step {i h i2 h2 : Nat} (hR : Rch kd op nn len i h) (hs : Suc kd op nn len i h i2 h2) : Rch kd op nn len i2 h2 :=
  fun S h0 hS => hS i h i2 h2 (hR S h0 hS) hs
theorem Rch.next {i h o : Nat} (hR : Rch kd op nn len i h) (ho : okS kd op nn len i h o) (hx : hasNx o) : Rch kd op nn len (i + 1) (h + gU o - gD o) :=
  hR.step ⟨o, ho, rfl, Or.inl ⟨hx, rfl⟩⟩
theorem Rch.jump {i h o j : Nat} (hR : Rch kd op nn len i h) (ho : okS kd op nn len i h o) (hx : o = 14 ∨ o = 15) (hj : j < len) (hn : nn i = nI j) : Rch kd op nn len j (h + gU o - gD o) :=
  hR.step ⟨o, ho, rfl, Or.inr ⟨hx, hj, hn⟩⟩
theorem Rch.lt {i h : Nat} (h0 : 0 < len) (hR : Rch kd op nn len i h) : i < len ∧ h ≤ 8 := by
  refine hR (fun i h => i < len ∧ h ≤ 8) ⟨h0, Nat.zero_le 8⟩ ?_
  rintro i h i2 h2 ⟨-, -⟩ ⟨o, ho, rfl, hx⟩
  refine ⟨?_, ho.2.2.2⟩
  rcases hx with ⟨hx, rfl⟩ | ⟨-, hx, -⟩
  · exact ho.2.1 hx
  · exact hx
theorem Good.at {i h : Nat} (hG : Good kd op nn len) (hR : Rch kd op nn len i h) : i < len ∧ h ≤ 8 ∧ ∃ o, okS kd op nn len i h o := by
  obtain ⟨h1, h2⟩ := hR.lt hG.1
  refine ⟨h1, h2, ?_⟩
  have hw := hG.2 i h1
  have ho : ∃ o, pOK kd op nn len i o := Classical.byContradiction fun q => hw (Or.inl q)
  obtain ⟨o, ho⟩ := ho
  exact ⟨o, Classical.byContradiction fun q => hw (Or.inr (Or.inl ⟨h, o, hR, ho, q⟩))⟩
end MACH
/-- the top of a stack of h, 0 of none -/
def popV (h : Nat) (st : Nat → Int32) : Int32 := if h = 0 then 0 else st (h - 1)
theorem popV_s {h : Nat} {st : Nat → Int32} (hh : 1 ≤ h) : popV h st = st (h - 1) := if_neg (by omega)
/-- ops 7 to 13 -/
def cmb (o : Nat) (a b : Int32) : Int32 :=
  if o = 7 then a + b else if o = 8 then a - b else if o = 9 then a * b
  else if o = 10 then (if b = 0 then 0 else a / b) else if o = 11 then (if b = 0 then 0 else a - a / b * b)
  else if o = 12 then (if a < b then 1 else 0) else (if a = b then 1 else 0)
theorem cmb_div {a b : Int32} (h : ¬ b = 0) : a / b = cmb 10 a b := by unfold cmb; simp [h]
theorem cmb_rem {a b : Int32} (h : ¬ b = 0) : a - a / b * b = cmb 11 a b := by unfold cmb; simp [h]
theorem cmb_lt {a b : Int32} (h : ¬ b ≤ a) : nI 1 = cmb 12 a b := by
  have h2 : a < b := by rw [Int32.lt_iff_toInt_lt]; rw [Int32.le_iff_toInt_le] at h; omega
  unfold cmb; simp [h2]; rfl
theorem cmb_nlt {a b : Int32} (h : b ≤ a) : nI 0 = cmb 12 a b := by
  have h2 : ¬ a < b := by rw [Int32.lt_iff_toInt_lt]; rw [Int32.le_iff_toInt_le] at h; omega
  unfold cmb; simp [h2]; rfl
theorem cmb_eq {a b : Int32} (h : a = b) : nI 1 = cmb 13 a b := by unfold cmb; simp [h]; rfl
theorem cmb_ne {a b : Int32} (h : ¬ a = b) : nI 0 = cmb 13 a b := by unfold cmb; simp [h]; rfl
theorem upd_self (f : Nat → Int32) (k : Nat) : upd f k (f k) = f := by
  funext j
  show (if j = k then f k else f j) = f j
  by_cases h : j = k
  · rw [if_pos h, h]
  · rw [if_neg h]
/-- one step's effect: the stack, the locals, the next place, the pairs -/
def aSt (o : Nat) (n : Int32) (j h : Nat) (ar lo st : Nat → Int32) : Nat → Int32 :=
  if o = 0 then upd st h n else if o = 1 then upd st h (ar j) else if o = 2 then upd st h (lo j) else if o = 4 then upd st h (st (h - 1))
  else if o = 5 then upd (upd st (h - 2) (st (h - 1))) (h - 1) (st (h - 2))
  else if 7 ≤ o ∧ o ≤ 13 then upd st (h - 2) (cmb o (st (h - 2)) (st (h - 1))) else st
def aLo (o j h : Nat) (lo st : Nat → Int32) : Nat → Int32 := if o = 3 then upd lo j (st (h - 1)) else lo
def aAt (o j i h : Nat) (st : Nat → Int32) : Nat := if o = 14 then j else if o = 15 then (if popV h st = 0 then j else i + 1) else i + 1
def aPp (o h : Nat) (st : Nat → Int32) (P : List (Int32 × Int32)) : List (Int32 × Int32) := if o = 16 then P ++ [(st (h - 2), st (h - 1))] else P
abbrev aT : Type := Nat × Int32 × Nat × List (Int32 × Int32)
/-- a call: how it ends (0 it fails, 1 with 17, 2 with 18), its answer, its steps, its pairs -/
def mRun (op nn ar : Nat → Int32) : Nat → Nat → Nat → Nat → (Nat → Int32) → (Nat → Int32) → List (Int32 × Int32) → aT
  | 0, _, _, _, _, _, P => (0, 0, 0, P)
  | fu + 1, k, i, h, st, lo, P =>
    if (op i).toNatClampNeg = 17 then (1, popV h st, k + 1, P)
    else if (op i).toNatClampNeg = 18 then (2, popV h st, k + 1, P)
    else if (op i).toNatClampNeg = 16 ∧ 20 ≤ P.length then (0, 0, 0, P)
    else mRun op nn ar fu (k + 1) (aAt (op i).toNatClampNeg (nn i).toNatClampNeg i h st) (h + gU (op i).toNatClampNeg - gD (op i).toNatClampNeg)
      (aSt (op i).toNatClampNeg (nn i) (nn i).toNatClampNeg h ar lo st) (aLo (op i).toNatClampNeg (nn i).toNatClampNeg h lo st) (aPp (op i).toNatClampNeg h st P)
def argV (a b d : Int32) : Nat → Int32 := fun j => if j = 0 then a else if j = 1 then b else d
def callR (op nn : Nat → Int32) (a b d : Int32) : aT := mRun op nn (argV a b d) 300 0 0 0 (fun _ => 0) (fun _ => 0) []
section RUN
variable {op nn ar : Nat → Int32} {fu k i h j o : Nat} {st lo : Nat → Int32} {P : List (Int32 × Int32)}
theorem opcl (ho : op i = nI o) (h18 : o ≤ 18) : (op i).toNatClampNeg = o := by rw [ho]; exact nI_clamp (by omega)
theorem mRun_0 : mRun op nn ar 0 k i h st lo P = (0, 0, 0, P) := rfl
theorem mRun_17 (ho : op i = nI 17) : mRun op nn ar (fu + 1) k i h st lo P = (1, popV h st, k + 1, P) := by
  have h1 := opcl ho (by omega)
  unfold mRun
  rw [if_pos h1]
theorem mRun_18 (ho : op i = nI 18) : mRun op nn ar (fu + 1) k i h st lo P = (2, popV h st, k + 1, P) := by
  have h1 := opcl ho (by omega)
  unfold mRun
  rw [if_neg (by omega), if_pos h1]
theorem mRun_16 (ho : op i = nI 16) (hP : 20 ≤ P.length) : mRun op nn ar (fu + 1) k i h st lo P = (0, 0, 0, P) := by
  have h1 := opcl ho (by omega)
  unfold mRun
  rw [if_neg (by omega), if_neg (by omega), if_pos ⟨h1, hP⟩]
theorem mRun_step (ho : op i = nI o) (h18 : o ≤ 18) (h1 : o ≠ 17) (h2 : o ≠ 18) (h3 : ¬ (o = 16 ∧ 20 ≤ P.length)) (hj : (nn i).toNatClampNeg = j) : mRun op nn ar (fu + 1) k i h st lo P =
    mRun op nn ar fu (k + 1) (aAt o j i h st) (h + gU o - gD o) (aSt o (nn i) j h ar lo st) (aLo o j h lo st) (aPp o h st P) := by
  have h4 := opcl ho h18
  subst hj
  conv => lhs; unfold mRun
  rw [h4, if_neg h1, if_neg h2, if_neg h3]
end RUN
theorem le18 {o : Nat} (h : o ≤ 18) : o = 0 ∨ o = 1 ∨ o = 2 ∨ o = 3 ∨ o = 4 ∨ o = 5 ∨ o = 6 ∨ o = 7 ∨ o = 8 ∨ o = 9 ∨ o = 10 ∨ o = 11 ∨ o = 12 ∨ o = 13 ∨ o = 14 ∨ o = 15 ∨ o = 16 ∨ o = 17 ∨ o = 18 := by omega
theorem nArg_le (kd : Nat) : nArg kd ≤ 3 := by unfold nArg; split <;> omega
theorem agree_upd {s1 s2 : Nat → Int32} {k n : Nat} {v1 v2 : Int32} (hv : v1 = v2) (h : ∀ q, q < n → q ≠ k → s1 q = s2 q) : ∀ q, q < n → upd s1 k v1 q = upd s2 k v2 q := by
  intro q hq
  show (if q = k then v1 else s1 q) = (if q = k then v2 else s2 q)
  by_cases e : q = k
  · rw [if_pos e, if_pos e, hv]
  · rw [if_neg e, if_neg e, h q hq e]
theorem aSt_agree {o j h : Nat} {n : Int32} {ar ar2 lo lo2 st st2 : Nat → Int32} (h18 : o ≤ 18) (hn : nNeed o ≤ h) (hn2 : h + gU o - gD o ≤ 8) (hst : ∀ q, q < h → st q = st2 q) (hlo : o = 2 → lo j = lo2 j) (har : o = 1 → ar j = ar2 j) :
    ∀ q, q < h + gU o - gD o → aSt o n j h ar lo st q = aSt o n j h ar2 lo2 st2 q := by
  have hc : ∀ k, k = 7 ∨ k = 8 ∨ k = 9 ∨ k = 10 ∨ k = 11 ∨ k = 12 ∨ k = 13 → 2 ≤ h → ∀ q, q < h - 1 → upd st (h - 2) (cmb k (st (h - 2)) (st (h - 1))) q = upd st2 (h - 2) (cmb k (st2 (h - 2)) (st2 (h - 1))) q := by
    intro k _ h2
    exact agree_upd (by rw [hst (h - 2) (by omega), hst (h - 1) (by omega)]) (fun q hq _ => hst q (by omega))
  rcases le18 h18 with rfl | rfl | rfl | rfl | rfl | rfl | rfl | rfl | rfl | rfl | rfl | rfl | rfl | rfl | rfl | rfl | rfl | rfl | rfl
  · exact agree_upd (n := h + 1) rfl (fun q hq hne => hst q (by omega))
  · exact agree_upd (n := h + 1) (har rfl) (fun q hq hne => hst q (by omega))
  · exact agree_upd (n := h + 1) (hlo rfl) (fun q hq hne => hst q (by omega))
  · exact fun q hq => hst q (by have : q < h - 1 := hq; omega)
  · have h1 : 1 ≤ h := hn
    exact agree_upd (n := h + 1) (hst _ (by omega)) (fun q hq hne => hst q (by omega))
  · have h1 : 2 ≤ h := hn
    exact agree_upd (n := h) (hst _ (by omega)) (fun q hq _ => agree_upd (n := h) (hst _ (by omega)) (fun q hq _ => hst q hq) q hq)
  · exact fun q hq => hst q (by have : q < h - 1 := hq; omega)
  · exact hc 7 (by omega) hn
  · exact hc 8 (by omega) hn
  · exact hc 9 (by omega) hn
  · exact hc 10 (by omega) hn
  · exact hc 11 (by omega) hn
  · exact hc 12 (by omega) hn
  · exact hc 13 (by omega) hn
  · exact fun q hq => hst q hq
  · exact fun q hq => hst q (by have : q < h - 1 := hq; omega)
  · exact fun q hq => hst q (by have : q < h - 2 := hq; omega)
  · exact fun q hq => hst q hq
  · exact fun q hq => hst q hq
/-- what stands above the height, and in the arguments beyond, makes no difference -/
theorem mRun_congr {kd : Nat} {op nn : Nat → Int32} {len : Nat} {ar ar2 : Nat → Int32} (hG : Good kd op nn len) (hlen : len ≤ 64) (har : ∀ j, j < 3 → ar j = ar2 j) :
    ∀ (fu k i h : Nat) (st st2 lo lo2 : Nat → Int32) (P : List (Int32 × Int32)), Rch kd op nn len i h → (∀ j, j < h → st j = st2 j) → (∀ j, j < 4 → lo j = lo2 j) →
      mRun op nn ar fu k i h st lo P = mRun op nn ar2 fu k i h st2 lo2 P := by
  intro fu
  induction fu with
  | zero => intros; rfl
  | succ fu ih =>
    intro k i h st st2 lo lo2 P hR hst hlo
    obtain ⟨hi, hh, o, ho⟩ := hG.at hR
    have hop := ho.1.2.1
    have h18 := ho.1.1
    have hneed := ho.2.2.1
    have hup := ho.2.2.2
    have hpop : 1 ≤ h → popV h st = popV h st2 := fun h1 => by rw [popV_s h1, popV_s h1, hst _ (by omega)]
    have hpop2 : popV h st = popV h st2 := by
      by_cases h1 : 1 ≤ h
      · exact hpop h1
      · unfold popV; rw [if_pos (by omega), if_pos (by omega)]
    by_cases h17 : o = 17
    · subst h17; rw [mRun_17 hop, mRun_17 hop, hpop2]
    by_cases h18' : o = 18
    · subst h18'; rw [mRun_18 hop, mRun_18 hop, hpop2]
    by_cases h16 : o = 16 ∧ 20 ≤ P.length
    · obtain ⟨rfl, h20⟩ := h16; rw [mRun_16 hop h20, mRun_16 hop h20]
    rw [mRun_step hop h18 h17 h18' h16 rfl, mRun_step hop h18 h17 h18' h16 rfl]
    have hpn : pNeed kd o = nNeed o := by unfold pNeed; rw [if_neg (fun q => h17 q.1)]
    rw [hpn] at hneed
    generalize hjn : (nn i).toNatClampNeg = jn
    have e1 : aAt o jn i h st = aAt o jn i h st2 := by unfold aAt; rw [hpop2]
    have e2 : aPp o h st P = aPp o h st2 P := by
      unfold aPp
      by_cases h16' : o = 16
      · subst h16'
        have h2 : 2 ≤ h := hneed
        rw [if_pos rfl, if_pos rfl, hst _ (by omega), hst _ (by omega)]
      · rw [if_neg h16', if_neg h16']
    rw [e1, e2]
    have hj4 : o = 2 ∨ o = 3 → jn < 4 := fun q => by
      obtain ⟨j, hj, hn⟩ := ho.1.2.2.2.2.2.1 q
      rw [hn, nI_clamp (by omega)] at hjn
      omega
    have hj3 : o = 1 → jn < 3 := fun q => by
      obtain ⟨j, hj, hn⟩ := ho.1.2.2.2.2.1 q
      have := nArg_le kd
      rw [hn, nI_clamp (by omega)] at hjn
      omega
    refine ih (k + 1) _ _ _ _ _ _ _ ?_ ?_ ?_
    · by_cases hx : hasNx o
      · have hr := hR.next ho hx
        by_cases h15 : o = 15
        · subst h15
          obtain ⟨j, hj, hn⟩ := ho.1.2.2.2.2.2.2 (Or.inr rfl)
          have hjj : jn = j := by rw [← hjn, hn]; exact nI_clamp (by omega)
          unfold aAt
          rw [if_neg (by omega), if_pos rfl]
          by_cases hz : popV h st2 = 0
          · rw [if_pos hz, hjj]; exact hR.jump ho (Or.inr rfl) hj hn
          · rw [if_neg hz]; exact hr
        · unfold aAt
          rw [if_neg hx.1, if_neg h15]
          exact hr
      · have h14 : o = 14 := by
          apply Classical.byContradiction
          intro q
          exact hx ⟨q, h17, h18'⟩
        subst h14
        obtain ⟨j, hj, hn⟩ := ho.1.2.2.2.2.2.2 (Or.inl rfl)
        have hjj : jn = j := by rw [← hjn, hn]; exact nI_clamp (by omega)
        unfold aAt
        rw [if_pos rfl, hjj]
        exact hR.jump ho (Or.inl rfl) hj hn
    · intro j hj
      exact aSt_agree h18 hneed (by omega) hst (fun q => hlo _ (hj4 (Or.inl q))) (fun q => har _ (hj3 q)) j hj
    · intro j hj
      unfold aLo
      by_cases h3 : o = 3
      · subst h3
        have h1 : 1 ≤ h := hneed
        rw [if_pos rfl, if_pos rfl]
        show (if j = jn then _ else _) = (if j = jn then _ else _)
        by_cases hjj : j = jn
        · rw [if_pos hjj, if_pos hjj, hst _ (by omega)]
        · rw [if_neg hjj, if_neg hjj, hlo j hj]
      · rw [if_neg h3, if_neg h3, hlo j hj]
end
section
/-! keys by rising number, each with a value; a sum of values by keys -/
theorem i32_lt_of_nle {a b : Int32} (h : ¬ b ≤ a) : a < b := by rw [Int32.lt_iff_toInt_lt]; rw [Int32.le_iff_toInt_le] at h; omega
theorem i32_nlt_of_le {a b : Int32} (h : b ≤ a) : ¬ a < b := by rw [Int32.lt_iff_toInt_lt]; rw [Int32.le_iff_toInt_le] at h; omega
theorem i32_le_of_nlt {a b : Int32} (h : ¬ a < b) : b ≤ a := by rw [Int32.le_iff_toInt_le]; rw [Int32.lt_iff_toInt_lt] at h; omega
theorem i32_lt_trans {a b c : Int32} (h : a < b) (h2 : b < c) : a < c := by rw [Int32.lt_iff_toInt_lt] at *; omega
theorem i32_irr (a : Int32) : ¬ a < a := by rw [Int32.lt_iff_toInt_lt]; omega
theorem i32_tri {a b : Int32} (h : ¬ a < b) (h2 : ¬ b < a) : a = b := by
  rw [Int32.lt_iff_toInt_lt] at *
  exact Int32.toInt_inj.mp (by omega)
theorem i32_asym {a b : Int32} (h : a < b) : ¬ b < a := by rw [Int32.lt_iff_toInt_lt] at *; omega
def srt (n : Nat) (kf : Nat → Int32) : Prop := ∀ i j, i < j → j < n → kf i < kf j
/-- what there is in an array behind an insertion at j -/
def insA (f : Nat → Int32) (j n : Nat) (x : Int32) : Nat → Int32 := upd (va_cpy f f j (j + 1) (n - j)) j x
theorem insA_lo {f : Nat → Int32} {j n i : Nat} {x : Int32} (h : i < j) : insA f j n x i = f i := by
  show (if i = j then x else va_cpy f f j (j + 1) (n - j) i) = f i
  rw [if_neg (by omega)]
  exact pk_cpy_out (Or.inl (by omega))
theorem insA_at {f : Nat → Int32} {j n : Nat} {x : Int32} : insA f j n x j = x := by
  show (if j = j then x else _) = x
  rw [if_pos rfl]
theorem insA_hi {f : Nat → Int32} {j n i : Nat} {x : Int32} (h : j < i) (h2 : i ≤ n) : insA f j n x i = f (i - 1) := by
  show (if i = j then x else va_cpy f f j (j + 1) (n - j) i) = f (i - 1)
  rw [if_neg (by omega), pk_cpy_in (by omega) (by omega)]
  congr 1
  omega
abbrev mapT : Type := Int32 → Option Int32
def mset (M : mapT) (k v : Int32) : mapT := fun x => if x = k then some v else M x
theorem mset_at (M : mapT) (k v : Int32) : mset M k v k = some v := if_pos rfl
theorem mset_ne (M : mapT) (k v : Int32) {x : Int32} (h : x ≠ k) : mset M k v x = M x := if_neg h
/-- the table's rows hold the map -/
def tbl (n : Nat) (kf vf : Nat → Int32) (M : mapT) : Prop := srt n kf ∧ (∀ i, i < n → M (kf i) = some (vf i)) ∧ ∀ k v, M k = some v → ∃ i, i < n ∧ kf i = k
theorem tbl_0 (kf vf : Nat → Int32) : tbl 0 kf vf (fun _ => none) := ⟨fun i j _ h => absurd h (Nat.not_lt_zero j), fun i h => absurd h (Nat.not_lt_zero i), fun k v h => by cases h⟩
/-- how many keys are less -/
def plc (n : Nat) (kf : Nat → Int32) (key : Int32) (j : Nat) : Prop := j ≤ n ∧ (∀ i, i < j → kf i < key) ∧ ∀ i, j ≤ i → i < n → ¬ kf i < key
theorem tbl_none {n : Nat} {kf vf : Nat → Int32} {M : mapT} {key : Int32} {j : Nat} (h : tbl n kf vf M) (hp : plc n kf key j) (hn : ¬ (j < n ∧ kf j = key)) : M key = none := by
  cases hm : M key with
  | none => rfl
  | some v =>
    obtain ⟨i, hi, hk⟩ := h.2.2 key v hm
    exfalso
    rcases Nat.lt_trichotomy i j with q | q | q
    · exact i32_irr key (hk ▸ hp.2.1 i q)
    · subst q; exact hn ⟨hi, hk⟩
    · exact hp.2.2 j (Nat.le_refl j) (by omega) (hk ▸ h.1 j i q hi)
theorem tbl_ins {n : Nat} {kf vf : Nat → Int32} {M : mapT} {key v : Int32} {j : Nat} (h : tbl n kf vf M) (hp : plc n kf key j) (hn : M key = none) : tbl (n + 1) (insA kf j n key) (insA vf j n v) (mset M key v) := by
  have hlt : ∀ i, j ≤ i → i < n → key < kf i := fun i h1 h2 => by
    apply Classical.byContradiction
    intro q
    have e := i32_tri (hp.2.2 i h1 h2) q
    have := h.2.1 i h2
    rw [e, hn] at this
    cases this
  have hne : ∀ i, i < n → kf i ≠ key := fun i hi e => by
    have := h.2.1 i hi
    rw [e, hn] at this
    cases this
  refine ⟨fun a b hab hb => ?_, fun i hi => ?_, fun k w hk => ?_⟩
  · rcases Nat.lt_trichotomy a j with q | q | q
    · rw [insA_lo q]
      rcases Nat.lt_trichotomy b j with r | r | r
      · rw [insA_lo r]; exact h.1 a b hab (by have := hp.1; omega)
      · subst r; rw [insA_at]; exact hp.2.1 a q
      · rw [insA_hi r (by omega)]; exact i32_lt_trans (hp.2.1 a q) (hlt (b - 1) (by omega) (by omega))
    · subst q; rw [insA_at, insA_hi hab (by omega)]; exact hlt (b - 1) (by omega) (by omega)
    · rw [insA_hi q (by omega), insA_hi (by omega) (by omega)]; exact h.1 (a - 1) (b - 1) (by omega) (by omega)
  · rcases Nat.lt_trichotomy i j with q | q | q
    · rw [insA_lo q, insA_lo q, mset_ne _ _ _ (hne i (by have := hp.1; omega))]; exact h.2.1 i (by have := hp.1; omega)
    · subst q; rw [insA_at, insA_at, mset_at]
    · rw [insA_hi q (by omega), insA_hi q (by omega), mset_ne _ _ _ (hne (i - 1) (by omega))]; exact h.2.1 (i - 1) (by omega)
  · by_cases e : k = key
    · subst e; exact ⟨j, by have := hp.1; omega, insA_at⟩
    · rw [mset_ne _ _ _ e] at hk
      obtain ⟨i, hi, hki⟩ := h.2.2 k w hk
      by_cases hij : i < j
      · exact ⟨i, by omega, by rw [insA_lo hij]; exact hki⟩
      · exact ⟨i + 1, by omega, by rw [insA_hi (by omega) (by omega)]; exact hki⟩
theorem tbl_upd {n : Nat} {kf vf : Nat → Int32} {M : mapT} {r : Int32} {j : Nat} (h : tbl n kf vf M) (hj : j < n) : tbl n kf (upd vf j r) (mset M (kf j) r) := by
  refine ⟨h.1, fun i hi => ?_, fun k w hk => ?_⟩
  · show mset M (kf j) r (kf i) = some (if i = j then r else vf i)
    by_cases e : i = j
    · subst e; rw [mset_at, if_pos rfl]
    · rw [if_neg e]
      have hne : kf i ≠ kf j := fun q => by
        rcases Nat.lt_trichotomy i j with a | a | a
        · exact i32_irr _ (q ▸ h.1 i j a hj)
        · exact e a
        · exact i32_irr _ (q ▸ h.1 j i a hi)
      rw [mset_ne _ _ _ hne]
      exact h.2.1 i hi
  · by_cases e : k = kf j
    · exact ⟨j, hj, e.symm⟩
    · rw [mset_ne _ _ _ e] at hk
      exact h.2.2 k w hk
/-- pairs with one key become one: the first value, then F (key, what is there, the next) -/
def mgL (F : Int32 → Int32 → Int32 → Option (Int32 × Nat)) : List (Int32 × Int32) → mapT × Nat → Option (mapT × Nat)
  | [], S => some S
  | x :: L, S => match S.1 x.1 with
    | none => mgL F L (mset S.1 x.1 x.2, S.2)
    | some a => match F x.1 a x.2 with
      | none => none
      | some r => mgL F L (mset S.1 x.1 r.1, S.2 + r.2)
theorem mgL_new {F : Int32 → Int32 → Int32 → Option (Int32 × Nat)} {k v : Int32} {L : List (Int32 × Int32)} {M : mapT} {s : Nat} (h : M k = none) : mgL F ((k, v) :: L) (M, s) = mgL F L (mset M k v, s) := by
  show (match M k with | none => _ | some a => _) = _
  rw [h]
theorem mgL_old {F : Int32 → Int32 → Int32 → Option (Int32 × Nat)} {k v a r : Int32} {t : Nat} {L : List (Int32 × Int32)} {M : mapT} {s : Nat} (h : M k = some a) (hF : F k a v = some (r, t)) : mgL F ((k, v) :: L) (M, s) = mgL F L (mset M k r, s + t) := by
  show (match M k with | none => _ | some a => _) = _
  rw [h]
  show (match F k a v with | none => _ | some r => _) = _
  rw [hF]
theorem mgL_fail {F : Int32 → Int32 → Int32 → Option (Int32 × Nat)} {k v a : Int32} {L : List (Int32 × Int32)} {M : mapT} {s : Nat} (h : M k = some a) (hF : F k a v = none) : mgL F ((k, v) :: L) (M, s) = none := by
  show (match M k with | none => _ | some a => _) = _
  rw [h]
  show (match F k a v with | none => _ | some r => _) = _
  rw [hF]
/-- a stretch of two rows as pairs -/
def tab (f g : Nat → Int32) (i c : Nat) : List (Int32 × Int32) := (List.range' i c).map (fun j => (f j, g j))
theorem tab_0 {f g : Nat → Int32} {i : Nat} : tab f g i 0 = [] := rfl
theorem tab_s {f g : Nat → Int32} {i c : Nat} : tab f g i (c + 1) = (f i, g i) :: tab f g (i + 1) c := by
  unfold tab
  rw [List.range'_succ, List.map_cons]
/-- a program of JOIN or FOLD, as a function -/
def pF (op nn : Nat → Int32) (k a b : Int32) : Option (Int32 × Nat) := if (callR op nn k a b).1 = 0 then none else some ((callR op nn k a b).2.1, (callR op nn k a b).2.2.1)
theorem pF_0 {op nn : Nat → Int32} {k a b : Int32} (h : (callR op nn k a b).1 = 0) : pF op nn k a b = none := if_pos h
theorem pF_1 {op nn : Nat → Int32} {k a b : Int32} (h : (callR op nn k a b).1 ≠ 0) : pF op nn k a b = some ((callR op nn k a b).2.1, (callR op nn k a b).2.2.1) := if_neg h
theorem mRun_le {op nn ar : Nat → Int32} : ∀ (fu k i h : Nat) (st lo : Nat → Int32) (P : List (Int32 × Int32)), (mRun op nn ar fu k i h st lo P).1 ≤ 2 := by
  intro fu
  induction fu with
  | zero => intros; exact Nat.zero_le 2
  | succ fu ih =>
    intro k i h st lo P
    unfold mRun
    split
    · exact (by decide : 1 ≤ 2)
    · split
      · exact Nat.le_refl 2
      · split
        · exact Nat.zero_le 2
        · exact ih _ _ _ _ _ _
theorem callR_le (op nn : Nat → Int32) (a b d : Int32) : (callR op nn a b d).1 ≤ 2 := mRun_le _ _ _ _ _ _ _
theorem mRun_nil {kd : Nat} {op nn : Nat → Int32} {len : Nat} {ar : Nat → Int32} (hG : Good kd op nn len) (hlen : len ≤ 64) (hkd : kd ≠ 0) :
    ∀ (fu k i h : Nat) (st lo : Nat → Int32), Rch kd op nn len i h → (mRun op nn ar fu k i h st lo []).2.2.2 = [] := by
  intro fu
  induction fu with
  | zero => intros; rfl
  | succ fu ih =>
    intro k i h st lo hR
    obtain ⟨hi, hh, o, ho⟩ := hG.at hR
    have hop := ho.1.2.1
    have h18 := ho.1.1
    by_cases h17 : o = 17
    · subst h17; rw [mRun_17 hop]
    by_cases h18' : o = 18
    · subst h18'; rw [mRun_18 hop]
    have h16 : o ≠ 16 := fun q => hkd (ho.1.2.2.1 q)
    rw [mRun_step hop h18 h17 h18' (fun q => h16 q.1) rfl]
    have e2 : aPp o h st [] = [] := by unfold aPp; rw [if_neg h16]
    rw [e2]
    refine ih _ _ _ _ _ ?_
    generalize hjn : (nn i).toNatClampNeg = jn
    by_cases hx : hasNx o
    · have hr := hR.next ho hx
      by_cases h15 : o = 15
      · subst h15
        obtain ⟨j, hj, hn⟩ := ho.1.2.2.2.2.2.2 (Or.inr rfl)
        have hjj : jn = j := by rw [← hjn, hn]; exact nI_clamp (by omega)
        unfold aAt
        rw [if_neg (by omega), if_pos rfl]
        by_cases hz : popV h st = 0
        · rw [if_pos hz, hjj]; exact hR.jump ho (Or.inr rfl) hj hn
        · rw [if_neg hz]; exact hr
      · unfold aAt
        rw [if_neg hx.1, if_neg h15]
        exact hr
    · have h14 : o = 14 := by
        apply Classical.byContradiction
        intro q
        exact hx ⟨q, h17, h18'⟩
      subst h14
      obtain ⟨j, hj, hn⟩ := ho.1.2.2.2.2.2.2 (Or.inl rfl)
      have hjj : jn = j := by rw [← hjn, hn]; exact nI_clamp (by omega)
      unfold aAt
      rw [if_pos rfl, hjj]
      exact hR.jump ho (Or.inl rfl) hj hn
theorem callR_nil {kd : Nat} {op nn : Nat → Int32} {len : Nat} (hG : Good kd op nn len) (hlen : len ≤ 64) (hkd : kd ≠ 0) (a b d : Int32) : (callR op nn a b d).2.2.2 = [] := mRun_nil hG hlen hkd _ _ _ _ _ _ Rch.zero
end
section
/-- a row with room for cap: at n comes x, if there is room -/
def capU (cap n : Nat) (f : Nat → Int32) (x : Int32) : Nat → Int32 := if n < cap then upd f n x else f
def capN (cap n : Nat) : Nat := if n < cap then n + 1 else n
theorem capU_t {cap n : Nat} {f : Nat → Int32} {x : Int32} (h : n < cap) : capU cap n f x = upd f n x := if_pos h
theorem capU_f {cap n : Nat} {f : Nat → Int32} {x : Int32} (h : cap ≤ n) : capU cap n f x = f := if_neg (Nat.not_lt.mpr h)
theorem capN_t {cap n : Nat} (h : n < cap) : capN cap n = n + 1 := if_pos h
theorem capN_f {cap n : Nat} (h : cap ≤ n) : capN cap n = n := if_neg (Nat.not_lt.mpr h)
set_option maxHeartbeats 4000000 in
set_option maxRecDepth 100000 in
theorem has_n (l_ : Launch) (E : zE) (p : Nat) (po : Nat) (pn : Nat) (kd : Nat) (len : Nat) (j : Nat) (hj : j < 2147483648) (hlen : len ≤ 64) : zMi l_ E yX5_has (zTs yX5_has cX5_has 2 (some .boolean)) ({ frames := 0, cells := 0, slots := 0, locals := 0 } : Room) [.ref p, .int (nI j)] [(p, zo 5 [.int (nI kd), .ref po, .ref pn, .int (nI len)])] (fun r_ w_ => (r_ = (zb (j < len)) ∧ w_ = [(p, zo 5 [.int (nI kd), .ref po, .ref pn, .int (nI len)])])) 0 0 := by
  refine zMi.of (cc := cX5_has) (nL := 2) (ret := (some .boolean)) (by decide) rfl (Nat.le_of_ble_eq_true rfl) ?_
  intro p_ e_ s_ m_ args_ below_ meth_ c_ A_ C0 hin0
  have C0 : zC E p_ s_ m_ args_ meth_ c_ cX5_has 2 (some .boolean) RX5 (zTs yX5_has cX5_has 2 (some .boolean)) A_ := C0
  refine z_eqL (L1 := [(0, .ref p), (1, .int (nI j))]) rfl ?_
  refine z_iload_n 1 C0 1 dX5_has_0 rfl rfl rfl ?_
  refine z_if_ltN 4 C0 16 (by omega) dX5_has_1 rfl (by decide) ?_
  refine z_iload_n 5 C0 1 dX5_has_4 rfl rfl rfl ?_
  refine z_aload_n 6 C0 0 dX5_has_5 rfl rfl rfl ?_
  refine z_get 9 C0 0 3 wz_5 rfl (by decide) (zTs_in wk_76) dX5_has_6 rfl rfl rfl ?_
  refine z_icmp_geN 12 16 C0 (by omega) (by omega) dX5_has_9 rfl (by decide) (fun k9 => ?_) (fun k9 => ?_)
  · skip
    refine z_iconst 17 C0 (v := (nI 0)) dX5_has_16 rfl rfl ?_
    exact z_zret C0 rfl rfl dX5_has_17 ⟨(zb_fN (by omega)), rfl⟩ (by decide) (by decide)
  · skip
    refine z_iconst 13 C0 (v := (nI 1)) dX5_has_12 rfl rfl ?_
    refine z_goto 17 C0 dX5_has_13 (by decide) ?_
    exact z_zret C0 rfl rfl dX5_has_17 ⟨(zb_tN (by omega)), rfl⟩ (by decide) (by decide)

set_option maxHeartbeats 4000000 in
set_option maxRecDepth 100000 in
theorem has_i (l_ : Launch) (E : zE) (p : Nat) (po : Nat) (pn : Nat) (kd : Nat) (len : Nat) (x : Int32) (hlen : len ≤ 64) : zMi l_ E yX5_has (zTs yX5_has cX5_has 2 (some .boolean)) ({ frames := 0, cells := 0, slots := 0, locals := 0 } : Room) [.ref p, .int x] [(p, zo 5 [.int (nI kd), .ref po, .ref pn, .int (nI len)])] (fun r_ w_ => (r_ = (zb (∃ j, j < len ∧ x = nI j)) ∧ w_ = [(p, zo 5 [.int (nI kd), .ref po, .ref pn, .int (nI len)])])) 0 0 := by
  refine zMi.of (cc := cX5_has) (nL := 2) (ret := (some .boolean)) (by decide) rfl (Nat.le_of_ble_eq_true rfl) ?_
  intro p_ e_ s_ m_ args_ below_ meth_ c_ A_ C0 hin0
  have C0 : zC E p_ s_ m_ args_ meth_ c_ cX5_has 2 (some .boolean) RX5 (zTs yX5_has cX5_has 2 (some .boolean)) A_ := C0
  refine z_eqL (L1 := [(0, .ref p), (1, .int x)]) rfl ?_
  refine z_iload_n 1 C0 1 dX5_has_0 rfl rfl rfl ?_
  refine z_if_lt 4 16 C0 dX5_has_1 rfl (by decide) (fun k1 => ?_) (fun k1 => ?_)
  · skip
    refine z_iconst 17 C0 (v := (nI 0)) dX5_has_16 rfl rfl ?_
    exact z_zret C0 rfl rfl dX5_has_17 ⟨(zb_fN (fun ⟨j, hj, e⟩ => by rw [e] at k1; exact nI_pos (by omega) k1)), rfl⟩ (by decide) (by decide)
  · skip
    obtain ⟨j, hj, rfl⟩ := nI_of k1
    refine z_iload_n 5 C0 1 dX5_has_4 rfl rfl rfl ?_
    refine z_aload_n 6 C0 0 dX5_has_5 rfl rfl rfl ?_
    refine z_get 9 C0 0 3 wz_5 rfl (by decide) (zTs_in wk_76) dX5_has_6 rfl rfl rfl ?_
    refine z_icmp_geN 12 16 C0 (by omega) (by omega) dX5_has_9 rfl (by decide) (fun k9 => ?_) (fun k9 => ?_)
    · skip
      refine z_iconst 17 C0 (v := (nI 0)) dX5_has_16 rfl rfl ?_
      exact z_zret C0 rfl rfl dX5_has_17 ⟨(zb_fN (fun ⟨j2, h1, h2⟩ => by have := (nI_eq (by omega) (by omega)).mp h2; omega)), rfl⟩ (by decide) (by decide)
    · skip
      refine z_iconst 13 C0 (v := (nI 1)) dX5_has_12 rfl rfl ?_
      refine z_goto 17 C0 dX5_has_13 (by decide) ?_
      exact z_zret C0 rfl rfl dX5_has_17 ⟨(zb_tN ⟨j, by omega, rfl⟩), rfl⟩ (by decide) (by decide)

set_option maxHeartbeats 4000000 in
set_option maxRecDepth 100000 in
theorem argCount (l_ : Launch) (E : zE) (p : Nat) (po : Nat) (pn : Nat) (kd : Nat) (len : Nat) (hkd : kd < 4) : zMi l_ E yX5_argumentCount (zTs yX5_argumentCount cX5_argumentCount 1 (some .int)) ({ frames := 0, cells := 0, slots := 0, locals := 0 } : Room) [.ref p] [(p, zo 5 [.int (nI kd), .ref po, .ref pn, .int (nI len)])] (fun r_ w_ => (r_ = (nI (nArg kd)) ∧ w_ = [(p, zo 5 [.int (nI kd), .ref po, .ref pn, .int (nI len)])])) 0 0 := by
  refine zMi.of (cc := cX5_argumentCount) (nL := 1) (ret := (some .int)) (by decide) rfl (Nat.le_of_ble_eq_true rfl) ?_
  intro p_ e_ s_ m_ args_ below_ meth_ c_ A_ C0 hin0
  have C0 : zC E p_ s_ m_ args_ meth_ c_ cX5_argumentCount 1 (some .int) RX5 (zTs yX5_argumentCount cX5_argumentCount 1 (some .int)) A_ := C0
  refine z_eqL (L1 := [(0, .ref p)]) rfl ?_
  refine z_aload_n 1 C0 0 dX5_argumentCount_0 rfl rfl rfl ?_
  refine z_get 4 C0 0 0 wz_5 rfl (by decide) (zTs_in wk_67) dX5_argumentCount_1 rfl rfl rfl ?_
  refine z_iconst 5 C0 (v := (nI 1)) dX5_argumentCount_4 rfl rfl ?_
  refine z_icmp_eqN 8 16 C0 (by omega) (by decide) dX5_argumentCount_5 rfl (by decide) (fun k5 => ?_) (fun k5 => ?_)
  · skip
    refine z_iconst 17 C0 (v := (nI 3)) dX5_argumentCount_16 rfl rfl ?_
    refine z_goto 21 C0 dX5_argumentCount_17 (by decide) ?_
    exact z_iret C0 rfl dX5_argumentCount_21 ⟨(congrArg nI (by unfold nArg; split <;> omega)), rfl⟩ (by decide) (by decide)
  · skip
    refine z_aload_n 9 C0 0 dX5_argumentCount_8 rfl rfl rfl ?_
    refine z_get 12 C0 0 0 wz_5 rfl (by decide) (zTs_in wk_67) dX5_argumentCount_9 rfl rfl rfl ?_
    refine z_iconst 13 C0 (v := (nI 2)) dX5_argumentCount_12 rfl rfl ?_
    refine z_icmp_neN 16 20 C0 (by omega) (by decide) dX5_argumentCount_13 rfl (by decide) (fun k13 => ?_) (fun k13 => ?_)
    · skip
      refine z_iconst 21 C0 (v := (nI 2)) dX5_argumentCount_20 rfl rfl ?_
      exact z_iret C0 rfl dX5_argumentCount_21 ⟨(congrArg nI (by unfold nArg; split <;> omega)), rfl⟩ (by decide) (by decide)
    · skip
      refine z_iconst 17 C0 (v := (nI 3)) dX5_argumentCount_16 rfl rfl ?_
      refine z_goto 21 C0 dX5_argumentCount_17 (by decide) ?_
      exact z_iret C0 rfl dX5_argumentCount_21 ⟨(congrArg nI (by unfold nArg; split <;> omega)), rfl⟩ (by decide) (by decide)

set_option maxHeartbeats 4000000 in
set_option maxRecDepth 100000 in
theorem pappend_full (l_ : Launch) (E : zE) (p : Nat) (po : Nat) (pn : Nat) (kd : Nat) (op : Nat → Int32) (nn : Nat → Int32) (len : Nat) (o : Int32) (n : Int32) (hlen : len = 64) : zMi l_ E yX5_append (zTs yX5_append cX5_append 3 (some .int)) ({ frames := 0, cells := 0, slots := 0, locals := 0 } : Room) [.ref p, .int o, .int n] [(p, zo 5 [.int (nI kd), .ref po, .ref pn, .int (nI len)]), (po, zi E 64 op), (pn, zi E 64 nn)] (fun r_ w_ => (r_ = (-3) ∧ w_ = [(p, zo 5 [.int (nI kd), .ref po, .ref pn, .int (nI len)]), (po, zi E 64 op), (pn, zi E 64 nn)])) 0 0 := by
  refine zMi.of (cc := cX5_append) (nL := 3) (ret := (some .int)) (by decide) rfl (Nat.le_of_ble_eq_true rfl) ?_
  intro p_ e_ s_ m_ args_ below_ meth_ c_ A_ C0 hin0
  have C0 : zC E p_ s_ m_ args_ meth_ c_ cX5_append 3 (some .int) RX5 (zTs yX5_append cX5_append 3 (some .int)) A_ := C0
  refine z_eqL (L1 := [(0, .ref p), (1, .int o), (2, .int n)]) rfl ?_
  refine z_aload_n 1 C0 0 dX5_append_0 rfl rfl rfl ?_
  refine z_get 4 C0 0 3 wz_5 rfl (by decide) (zTs_in wk_76) dX5_append_1 rfl rfl rfl ?_
  refine z_bipush 6 C0 (v := (nI 64)) dX5_append_4 rfl rfl ?_
  refine z_icmp_ltN 9 12 C0 (by omega) (by decide) dX5_append_6 rfl (by decide) (fun k6 => absurd k6 (by omega)) (fun k6 => ?_)
  refine z_bipush 11 C0 (v := (-3)) dX5_append_9 rfl (by decide) ?_
  exact z_iret C0 rfl dX5_append_11 ⟨rfl, rfl⟩ (by decide) (by decide)

set_option maxHeartbeats 4000000 in
set_option maxRecDepth 100000 in
theorem pappend_ok (l_ : Launch) (E : zE) (p : Nat) (po : Nat) (pn : Nat) (kd : Nat) (op : Nat → Int32) (nn : Nat → Int32) (len : Nat) (o : Int32) (n : Int32) (hlen : len < 64) : zMi l_ E yX5_append (zTs yX5_append cX5_append 3 (some .int)) ({ frames := 0, cells := 0, slots := 0, locals := 0 } : Room) [.ref p, .int o, .int n] [(p, zo 5 [.int (nI kd), .ref po, .ref pn, .int (nI len)]), (po, zi E 64 op), (pn, zi E 64 nn)] (fun r_ w_ => (r_ = (nI len) ∧ w_ = [(p, zo 5 [.int (nI kd), .ref po, .ref pn, .int (nI (len + 1))]), (po, zi E 64 (upd op len o)), (pn, zi E 64 (upd nn len n))])) 0 0 := by
  refine zMi.of (cc := cX5_append) (nL := 3) (ret := (some .int)) (by decide) rfl (Nat.le_of_ble_eq_true rfl) ?_
  intro p_ e_ s_ m_ args_ below_ meth_ c_ A_ C0 hin0
  have C0 : zC E p_ s_ m_ args_ meth_ c_ cX5_append 3 (some .int) RX5 (zTs yX5_append cX5_append 3 (some .int)) A_ := C0
  refine z_eqL (L1 := [(0, .ref p), (1, .int o), (2, .int n)]) rfl ?_
  refine z_aload_n 1 C0 0 dX5_append_0 rfl rfl rfl ?_
  refine z_get 4 C0 0 3 wz_5 rfl (by decide) (zTs_in wk_76) dX5_append_1 rfl rfl rfl ?_
  refine z_bipush 6 C0 (v := (nI 64)) dX5_append_4 rfl rfl ?_
  refine z_icmp_ltN 9 12 C0 (by omega) (by decide) dX5_append_6 rfl (by decide) (fun k6 => ?_) (fun k6 => absurd k6 (by omega))
  refine z_aload_n 13 C0 0 dX5_append_12 rfl rfl rfl ?_
  refine z_get 16 C0 0 1 wz_5 rfl (by decide) (zTs_in wk_70) dX5_append_13 rfl rfl rfl ?_
  refine z_aload_n 17 C0 0 dX5_append_16 rfl rfl rfl ?_
  refine z_get 20 C0 0 3 wz_5 rfl (by decide) (zTs_in wk_76) dX5_append_17 rfl rfl rfl ?_
  refine z_iload_n 21 C0 1 dX5_append_20 rfl rfl rfl ?_
  refine z_iastN 22 C0 1 [(p, zo 5 [.int (nI kd), .ref po, .ref pn, .int (nI len)]), (po, zi E 64 (upd op len o)), (pn, zi E 64 nn)] dX5_append_21 rfl rfl (by omega) (by decide) rfl ?_
  refine z_aload_n 23 C0 0 dX5_append_22 rfl rfl rfl ?_
  refine z_get 26 C0 0 2 wz_5 rfl (by decide) (zTs_in wk_73) dX5_append_23 rfl rfl rfl ?_
  refine z_aload_n 27 C0 0 dX5_append_26 rfl rfl rfl ?_
  refine z_get 30 C0 0 3 wz_5 rfl (by decide) (zTs_in wk_76) dX5_append_27 rfl rfl rfl ?_
  refine z_iload_n 31 C0 2 dX5_append_30 rfl rfl rfl ?_
  refine z_iastN 32 C0 2 [(p, zo 5 [.int (nI kd), .ref po, .ref pn, .int (nI len)]), (po, zi E 64 (upd op len o)), (pn, zi E 64 (upd nn len n))] dX5_append_31 rfl rfl (by omega) (by decide) rfl ?_
  refine z_aload_n 33 C0 0 dX5_append_32 rfl rfl rfl ?_
  refine z_dup 34 C0 dX5_append_33 rfl rfl ?_
  refine z_get 37 C0 0 3 wz_5 rfl (by decide) (zTs_in wk_76) dX5_append_34 rfl rfl rfl ?_
  refine z_iconst 38 C0 (v := (nI 1)) dX5_append_37 rfl rfl ?_
  refine z_iadd 39 C0 (v := (nI (len + 1))) dX5_append_38 rfl (nI_add _ _) ?_
  refine z_put 42 C0 0 3 [(p, zo 5 [.int (nI kd), .ref po, .ref pn, .int (nI (len + 1))]), (po, zi E 64 (upd op len o)), (pn, zi E 64 (upd nn len n))] wz_5 rfl (by decide) (zTs_in wk_76) tyX5 tyX5_ok nmX5 rfl rfl rfl rfl dX5_append_39 rfl rfl (Nat.le_of_ble_eq_true rfl) rfl ?_
  refine z_aload_n 43 C0 0 dX5_append_42 rfl rfl rfl ?_
  refine z_get 46 C0 0 3 wz_5 rfl (by decide) (zTs_in wk_76) dX5_append_43 rfl rfl rfl ?_
  refine z_iconst 47 C0 (v := (nI 1)) dX5_append_46 rfl rfl ?_
  refine z_isub 48 C0 (v := (nI len)) dX5_append_47 rfl (z_subN (by omega)) ?_
  exact z_iret C0 rfl dX5_append_48 ⟨rfl, rfl⟩ (by decide) (by decide)

set_option maxHeartbeats 4000000 in
set_option maxRecDepth 100000 in
theorem isJump (l_ : Launch) (E : zE) (o : Nat) (ho : o < 2147483648) : zMi l_ E yX6_isJump (zTs yX6_isJump cX6_isJump 1 (some .boolean)) ({ frames := 0, cells := 0, slots := 0, locals := 0 } : Room) [.int (nI o)] [] (fun r_ w_ => (r_ = (zb (o = 14 ∨ o = 15)) ∧ w_ = [])) 0 0 := by
  refine zMi.of (cc := cX6_isJump) (nL := 1) (ret := (some .boolean)) (by decide) rfl (Nat.le_of_ble_eq_true rfl) ?_
  intro p_ e_ s_ m_ args_ below_ meth_ c_ A_ C0 hin0
  have C0 : zC E p_ s_ m_ args_ meth_ c_ cX6_isJump 1 (some .boolean) RX6 (zTs yX6_isJump cX6_isJump 1 (some .boolean)) A_ := C0
  refine z_eqL (L1 := [(0, .int (nI o))]) rfl ?_
  refine z_iload_n 1 C0 0 dX6_isJump_0 rfl rfl rfl ?_
  refine z_bipush 3 C0 (v := (nI 14)) dX6_isJump_1 rfl rfl ?_
  refine z_icmp_eqN 6 12 C0 (by omega) (by decide) dX6_isJump_3 rfl (by decide) (fun k3 => ?_) (fun k3 => ?_)
  · skip
    refine z_iconst 13 C0 (v := (nI 1)) dX6_isJump_12 rfl rfl ?_
    refine z_goto 17 C0 dX6_isJump_13 (by decide) ?_
    exact z_zret C0 rfl rfl dX6_isJump_17 ⟨(zb_tN (by omega)), rfl⟩ (by decide) (by decide)
  · skip
    refine z_iload_n 7 C0 0 dX6_isJump_6 rfl rfl rfl ?_
    refine z_bipush 9 C0 (v := (nI 15)) dX6_isJump_7 rfl rfl ?_
    refine z_icmp_neN 12 16 C0 (by omega) (by decide) dX6_isJump_9 rfl (by decide) (fun k9 => ?_) (fun k9 => ?_)
    · skip
      refine z_iconst 17 C0 (v := (nI 0)) dX6_isJump_16 rfl rfl ?_
      exact z_zret C0 rfl rfl dX6_isJump_17 ⟨(zb_fN (by omega)), rfl⟩ (by decide) (by decide)
    · skip
      refine z_iconst 13 C0 (v := (nI 1)) dX6_isJump_12 rfl rfl ?_
      refine z_goto 17 C0 dX6_isJump_13 (by decide) ?_
      exact z_zret C0 rfl rfl dX6_isJump_17 ⟨(zb_tN (by omega)), rfl⟩ (by decide) (by decide)

set_option maxHeartbeats 4000000 in
set_option maxRecDepth 100000 in
theorem isComb (l_ : Launch) (E : zE) (o : Nat) (ho : o < 2147483648) : zMi l_ E yX6_isCombination (zTs yX6_isCombination cX6_isCombination 1 (some .boolean)) ({ frames := 0, cells := 0, slots := 0, locals := 0 } : Room) [.int (nI o)] [] (fun r_ w_ => (r_ = (zb (7 ≤ o ∧ o ≤ 13)) ∧ w_ = [])) 0 0 := by
  refine zMi.of (cc := cX6_isCombination) (nL := 1) (ret := (some .boolean)) (by decide) rfl (Nat.le_of_ble_eq_true rfl) ?_
  intro p_ e_ s_ m_ args_ below_ meth_ c_ A_ C0 hin0
  have C0 : zC E p_ s_ m_ args_ meth_ c_ cX6_isCombination 1 (some .boolean) RX6 (zTs yX6_isCombination cX6_isCombination 1 (some .boolean)) A_ := C0
  refine z_eqL (L1 := [(0, .int (nI o))]) rfl ?_
  refine z_iload_n 1 C0 0 dX6_isCombination_0 rfl rfl rfl ?_
  refine z_bipush 3 C0 (v := (nI 7)) dX6_isCombination_1 rfl rfl ?_
  refine z_icmp_ltN 6 16 C0 (by omega) (by decide) dX6_isCombination_3 rfl (by decide) (fun k3 => ?_) (fun k3 => ?_)
  · skip
    refine z_iconst 17 C0 (v := (nI 0)) dX6_isCombination_16 rfl rfl ?_
    exact z_zret C0 rfl rfl dX6_isCombination_17 ⟨(zb_fN (by omega)), rfl⟩ (by decide) (by decide)
  · skip
    refine z_iload_n 7 C0 0 dX6_isCombination_6 rfl rfl rfl ?_
    refine z_bipush 9 C0 (v := (nI 13)) dX6_isCombination_7 rfl rfl ?_
    refine z_icmp_gtN 12 16 C0 (by omega) (by decide) dX6_isCombination_9 rfl (by decide) (fun k9 => ?_) (fun k9 => ?_)
    · skip
      refine z_iconst 17 C0 (v := (nI 0)) dX6_isCombination_16 rfl rfl ?_
      exact z_zret C0 rfl rfl dX6_isCombination_17 ⟨(zb_fN (by omega)), rfl⟩ (by decide) (by decide)
    · skip
      refine z_iconst 13 C0 (v := (nI 1)) dX6_isCombination_12 rfl rfl ?_
      refine z_goto 17 C0 dX6_isCombination_13 (by decide) ?_
      exact z_zret C0 rfl rfl dX6_isCombination_17 ⟨(zb_tN (by omega)), rfl⟩ (by decide) (by decide)

set_option maxHeartbeats 4000000 in
set_option maxRecDepth 100000 in
theorem rappend (l_ : Launch) (E : zE) (r : Nat) (rk : Nat) (rv : Nat) (f : Nat → Int32) (g : Nat → Int32) (n : Nat) (cap : Nat) (x : Int32) (y : Int32) (hn : n ≤ cap) (hcap : cap ≤ 600) : zMi l_ E yX4_append (zTs yX4_append cX4_append 3 (some .boolean)) ({ frames := 0, cells := 0, slots := 0, locals := 0 } : Room) [.ref r, .int x, .int y] [(r, zo 4 [.ref rk, .ref rv, .int (nI n)]), (rk, zi E cap f), (rv, zi E cap g)] (fun r_ w_ => (r_ = (zb (n < cap)) ∧ w_ = [(r, zo 4 [.ref rk, .ref rv, .int (nI (capN cap n))]), (rk, zi E cap (capU cap n f x)), (rv, zi E cap (capU cap n g y))])) 0 0 := by
  refine zMi.of (cc := cX4_append) (nL := 3) (ret := (some .boolean)) (by decide) rfl (Nat.le_of_ble_eq_true rfl) ?_
  intro p_ e_ s_ m_ args_ below_ meth_ c_ A_ C0 hin0
  have C0 : zC E p_ s_ m_ args_ meth_ c_ cX4_append 3 (some .boolean) RX4 (zTs yX4_append cX4_append 3 (some .boolean)) A_ := C0
  refine z_eqL (L1 := [(0, .ref r), (1, .int x), (2, .int y)]) rfl ?_
  refine z_aload_n 1 C0 0 dX4_append_0 rfl rfl rfl ?_
  refine z_get 4 C0 0 2 wz_4 rfl (by decide) (zTs_in wk_48) dX4_append_1 rfl rfl rfl ?_
  refine z_aload_n 5 C0 0 dX4_append_4 rfl rfl rfl ?_
  refine z_get 8 C0 0 0 wz_4 rfl (by decide) (zTs_in wk_44) dX4_append_5 rfl rfl rfl ?_
  refine z_alen 9 C0 1 dX4_append_8 rfl rfl ?_
  refine z_icmp_ltN 12 14 C0 (by omega) (by omega) dX4_append_9 rfl (by decide) (fun k9 => ?_) (fun k9 => ?_)
  · skip
    refine z_aload_n 15 C0 0 dX4_append_14 rfl rfl rfl ?_
    refine z_get 18 C0 0 0 wz_4 rfl (by decide) (zTs_in wk_44) dX4_append_15 rfl rfl rfl ?_
    refine z_aload_n 19 C0 0 dX4_append_18 rfl rfl rfl ?_
    refine z_get 22 C0 0 2 wz_4 rfl (by decide) (zTs_in wk_48) dX4_append_19 rfl rfl rfl ?_
    refine z_iload_n 23 C0 1 dX4_append_22 rfl rfl rfl ?_
    refine z_iastN 24 C0 1 [(r, zo 4 [.ref rk, .ref rv, .int (nI n)]), (rk, zi E cap (upd f n x)), (rv, zi E cap g)] dX4_append_23 rfl rfl (by omega) (by omega) rfl ?_
    refine z_aload_n 25 C0 0 dX4_append_24 rfl rfl rfl ?_
    refine z_get 28 C0 0 1 wz_4 rfl (by decide) (zTs_in wk_46) dX4_append_25 rfl rfl rfl ?_
    refine z_aload_n 29 C0 0 dX4_append_28 rfl rfl rfl ?_
    refine z_get 32 C0 0 2 wz_4 rfl (by decide) (zTs_in wk_48) dX4_append_29 rfl rfl rfl ?_
    refine z_iload_n 33 C0 2 dX4_append_32 rfl rfl rfl ?_
    refine z_iastN 34 C0 2 [(r, zo 4 [.ref rk, .ref rv, .int (nI n)]), (rk, zi E cap (upd f n x)), (rv, zi E cap (upd g n y))] dX4_append_33 rfl rfl (by omega) (by omega) rfl ?_
    refine z_aload_n 35 C0 0 dX4_append_34 rfl rfl rfl ?_
    refine z_dup 36 C0 dX4_append_35 rfl rfl ?_
    refine z_get 39 C0 0 2 wz_4 rfl (by decide) (zTs_in wk_48) dX4_append_36 rfl rfl rfl ?_
    refine z_iconst 40 C0 (v := (nI 1)) dX4_append_39 rfl rfl ?_
    refine z_iadd 41 C0 (v := (nI (n + 1))) dX4_append_40 rfl (nI_add _ _) ?_
    refine z_put 44 C0 0 2 [(r, zo 4 [.ref rk, .ref rv, .int (nI (n + 1))]), (rk, zi E cap (upd f n x)), (rv, zi E cap (upd g n y))] wz_4 rfl (by decide) (zTs_in wk_48) tyX4 tyX4_ok nmX4 rfl rfl rfl rfl dX4_append_41 rfl rfl (Nat.le_of_ble_eq_true rfl) rfl ?_
    refine z_iconst 45 C0 (v := (nI 1)) dX4_append_44 rfl rfl ?_
    exact z_zret C0 rfl rfl dX4_append_45 ⟨(zb_tN (by omega)), (by rw [capU_t k9, capU_t k9, capN_t k9])⟩ (by decide) (by decide)
  · skip
    refine z_iconst 13 C0 (v := (nI 0)) dX4_append_12 rfl rfl ?_
    exact z_zret C0 rfl rfl dX4_append_13 ⟨(zb_fN (by omega)), (by rw [capU_f k9, capU_f k9, capN_f k9])⟩ (by decide) (by decide)
end
section
/-- the first i places hold v -/
def fillTo (f : Nat → Int32) (v : Int32) (i : Nat) : Nat → Int32 := fun j => if j < i then v else f j
theorem fillTo_0 (f : Nat → Int32) (v : Int32) : fillTo f v 0 = f := by funext j; unfold fillTo; rw [if_neg (Nat.not_lt_zero j)]
theorem fillTo_s (f : Nat → Int32) (v : Int32) (i : Nat) : upd (fillTo f v i) i v = fillTo f v (i + 1) := by
  funext j
  show (if j = i then v else (if j < i then v else f j)) = (if j < i + 1 then v else f j)
  by_cases h : j = i
  · rw [if_pos h, if_pos (by omega)]
  · by_cases h2 : j < i
    · rw [if_neg h, if_pos h2, if_pos (by omega)]
    · rw [if_neg h, if_neg h2, if_neg (by omega)]
set_option maxHeartbeats 4000000 in
set_option maxRecDepth 100000 in
theorem fill (l_ : Launch) (E : zE) (a : Nat) (n : Nat) (f : Nat → Int32) (v : Int32) (hn : n ≤ 1000) : zMv l_ E yJ7_fill_53178 (zTs yJ7_fill_53178 cJ7_fill_53178 4 none) ({ frames := 0, cells := 0, slots := 0, locals := 0 } : Room) [.ref a, .int v] [(a, zi E n f)] (fun w_ => (w_ = [(a, zi E n (fun _ => v))])) 0 0 := by
  refine zMv.of (cc := cJ7_fill_53178) (nL := 4) (ret := none) (by decide) rfl (Nat.le_of_ble_eq_true rfl) ?_
  intro p_ e_ s_ m_ args_ below_ meth_ c_ A_ C0 hin0
  have C0 : zC E p_ s_ m_ args_ meth_ c_ cJ7_fill_53178 4 none RJ7 (zTs yJ7_fill_53178 cJ7_fill_53178 4 none) A_ := C0
  refine z_eqL (L1 := [(0, .ref a), (1, .int v)]) rfl ?_
  refine z_iconst 1 C0 (v := (nI 0)) dJ7_fill_53178_0 rfl rfl ?_
  refine z_istore_n 2 C0 [1, 2, 0] [(0, .ref a), (1, .int v), (2, .int (nI 0))] dJ7_fill_53178_1 rfl rfl (by decide) rfl ?_
  refine z_aload_n 3 C0 0 dJ7_fill_53178_2 rfl rfl rfl ?_
  refine z_alen 4 C0 0 dJ7_fill_53178_3 rfl rfl ?_
  refine z_eq (L1 := [(0, .ref a), (1, .int v), (2, .int (nI 0))]) (st1 := [.int (nI n)]) (w1 := [(a, zi E n (fillTo f v 0))]) rfl rfl (by rw [fillTo_0]) ?_
  refine z_istore_n 5 C0 [1, 2, 3, 0] [(0, .ref a), (1, .int v), (2, .int (nI 0)), (3, .int (nI n))] dJ7_fill_53178_4 rfl rfl (by decide) rfl ?_
  have CUT5 : ∀ (N5 : Nat) (i : Nat), (i ≤ n) → n - i < N5 → Z E p_ l_ e_ ({ frames := 0, cells := 0, slots := 0, locals := 0 } : Room) s_ m_ args_ below_ meth_ c_ (MQ below_ (va_Qv (fun w_ => (w_ = [(a, zi E n (fun _ => v))])) (zPost E A_) A_) args_ s_ 0 0 A_) A_ 4 5 [(0, .ref a), (1, .int v), (2, .int (nI i)), (3, .int (nI n))] [] [(a, zi E n (fillTo f v i))] 0 0 := by
    intro N5
    induction N5 with
    | zero => intro i hi hm5; exact absurd hm5 (Nat.not_lt_zero _)
    | succ N5 ih5 =>
      intro i hi hm5
      refine z_iload_n 6 C0 2 dJ7_fill_53178_5 rfl rfl rfl ?_
      refine z_iload_n 7 C0 3 dJ7_fill_53178_6 rfl rfl rfl ?_
      refine z_icmp_geN 10 20 C0 (by omega) (by omega) dJ7_fill_53178_7 rfl (by decide) (fun k7 => ?_) (fun k7 => ?_)
      · skip
        refine z_ext 0 [(a, zi E n (fun _ => v))] (g := fun _ => v) rfl (fun j hj => by unfold fillTo; rw [if_pos (by omega)]) rfl ?_
        exact z_vret C0 rfl dJ7_fill_53178_20 rfl (by decide) (by decide)
      · skip
        refine z_aload_n 11 C0 0 dJ7_fill_53178_10 rfl rfl rfl ?_
        refine z_iload_n 12 C0 2 dJ7_fill_53178_11 rfl rfl rfl ?_
        refine z_iload_n 13 C0 1 dJ7_fill_53178_12 rfl rfl rfl ?_
        refine z_iastN 14 C0 0 [(a, zi E n (fillTo f v (i + 1)))] dJ7_fill_53178_13 rfl rfl (by omega) (by omega) (by rw [fillTo_s]; rfl) ?_
        refine z_iinc 17 C0 2 [1, 2, 0, 3] [(0, .ref a), (1, .int v), (2, .int (nI (i + 1))), (3, .int (nI n))] (v := (nI (i + 1))) dJ7_fill_53178_14 rfl rfl (z_incN _ _) (by decide) rfl ?_
        refine z_goto 5 C0 dJ7_fill_53178_17 (by decide) ?_
        exact ih5 (i + 1) (by omega) (by omega)
  exact CUT5 (n - 0 + 1) 0 (by omega) (Nat.lt_succ_self _)

set_option maxHeartbeats 4000000 in
set_option maxRecDepth 100000 in
theorem pop (l_ : Launch) (E : zE) (m : Nat) (ma : Nat) (ml : Nat) (ms : Nat) (mp : Nat) (mt : Nat) (h : Nat) (an : Int32) (em : Nat) (st : Nat → Int32) (hh : h ≤ 8) : zMi l_ E yX3_pop (zTs yX3_pop cX3_pop 1 (some .int)) ({ frames := 0, cells := 0, slots := 0, locals := 0 } : Room) [.ref m] [(m, zo 3 [.ref ma, .ref ml, .ref ms, .int (nI h), .int an, .ref mp, .int (nI em), .ref mt]), (ms, zi E 8 st)] (fun r_ w_ => (r_ = (popV h st) ∧ w_ = [(m, zo 3 [.ref ma, .ref ml, .ref ms, .int (nI (h - 1)), .int an, .ref mp, .int (nI em), .ref mt]), (ms, zi E 8 st)])) 0 0 := by
  refine zMi.of (cc := cX3_pop) (nL := 1) (ret := (some .int)) (by decide) rfl (Nat.le_of_ble_eq_true rfl) ?_
  intro p_ e_ s_ m_ args_ below_ meth_ c_ A_ C0 hin0
  have C0 : zC E p_ s_ m_ args_ meth_ c_ cX3_pop 1 (some .int) RX3 (zTs yX3_pop cX3_pop 1 (some .int)) A_ := C0
  refine z_eqL (L1 := [(0, .ref m)]) rfl ?_
  refine z_aload_n 1 C0 0 dX3_pop_0 rfl rfl rfl ?_
  refine z_get 4 C0 0 3 wz_3 rfl (by decide) (zTs_in wk_122) dX3_pop_1 rfl rfl rfl ?_
  refine z_if_gtN 7 9 C0 (by omega) dX3_pop_4 rfl (by decide) (fun k4 => ?_) (fun k4 => ?_)
  · skip
    refine z_aload_n 10 C0 0 dX3_pop_9 rfl rfl rfl ?_
    refine z_dup 11 C0 dX3_pop_10 rfl rfl ?_
    refine z_get 14 C0 0 3 wz_3 rfl (by decide) (zTs_in wk_122) dX3_pop_11 rfl rfl rfl ?_
    refine z_iconst 15 C0 (v := (nI 1)) dX3_pop_14 rfl rfl ?_
    refine z_isub 16 C0 (v := (nI (h - 1))) dX3_pop_15 rfl (z_subN (by omega)) ?_
    refine z_put 19 C0 0 3 [(m, zo 3 [.ref ma, .ref ml, .ref ms, .int (nI (h - 1)), .int an, .ref mp, .int (nI em), .ref mt]), (ms, zi E 8 st)] wz_3 rfl (by decide) (zTs_in wk_122) tyX3 tyX3_ok nmX3 rfl rfl rfl rfl dX3_pop_16 rfl rfl (Nat.le_of_ble_eq_true rfl) rfl ?_
    refine z_aload_n 20 C0 0 dX3_pop_19 rfl rfl rfl ?_
    refine z_get 23 C0 0 2 wz_3 rfl (by decide) (zTs_in wk_121) dX3_pop_20 rfl rfl rfl ?_
    refine z_aload_n 24 C0 0 dX3_pop_23 rfl rfl rfl ?_
    refine z_get 27 C0 0 3 wz_3 rfl (by decide) (zTs_in wk_122) dX3_pop_24 rfl rfl rfl ?_
    refine z_ialdN 28 C0 1 (v := (st (h - 1))) dX3_pop_27 rfl rfl (by omega) (by decide) rfl ?_
    exact z_iret C0 rfl dX3_pop_28 ⟨(by unfold popV; rw [if_neg (by omega)]), rfl⟩ (by decide) (by decide)
  · skip
    refine z_iconst 8 C0 (v := (nI 0)) dX3_pop_7 rfl rfl ?_
    exact z_iret C0 rfl dX3_pop_8 ⟨(by rw [k4]; rfl), (by rw [k4])⟩ (by decide) (by decide)

set_option maxHeartbeats 4000000 in
set_option maxRecDepth 100000 in
theorem push (l_ : Launch) (E : zE) (m : Nat) (ma : Nat) (ml : Nat) (ms : Nat) (mp : Nat) (mt : Nat) (h : Nat) (an : Int32) (em : Nat) (st : Nat → Int32) (v : Int32) (hh : h < 8) : zMv l_ E yX3_push (zTs yX3_push cX3_push 2 none) ({ frames := 0, cells := 0, slots := 0, locals := 0 } : Room) [.ref m, .int v] [(m, zo 3 [.ref ma, .ref ml, .ref ms, .int (nI h), .int an, .ref mp, .int (nI em), .ref mt]), (ms, zi E 8 st)] (fun w_ => (w_ = [(m, zo 3 [.ref ma, .ref ml, .ref ms, .int (nI (h + 1)), .int an, .ref mp, .int (nI em), .ref mt]), (ms, zi E 8 (upd st h v))])) 0 0 := by
  refine zMv.of (cc := cX3_push) (nL := 2) (ret := none) (by decide) rfl (Nat.le_of_ble_eq_true rfl) ?_
  intro p_ e_ s_ m_ args_ below_ meth_ c_ A_ C0 hin0
  have C0 : zC E p_ s_ m_ args_ meth_ c_ cX3_push 2 none RX3 (zTs yX3_push cX3_push 2 none) A_ := C0
  refine z_eqL (L1 := [(0, .ref m), (1, .int v)]) rfl ?_
  refine z_aload_n 1 C0 0 dX3_push_0 rfl rfl rfl ?_
  refine z_get 4 C0 0 3 wz_3 rfl (by decide) (zTs_in wk_122) dX3_push_1 rfl rfl rfl ?_
  refine z_bipush 6 C0 (v := (nI 8)) dX3_push_4 rfl rfl ?_
  refine z_icmp_geN 9 29 C0 (by omega) (by decide) dX3_push_6 rfl (by decide) (fun k6 => absurd k6 (by omega)) (fun k6 => ?_)
  refine z_aload_n 10 C0 0 dX3_push_9 rfl rfl rfl ?_
  refine z_get 13 C0 0 2 wz_3 rfl (by decide) (zTs_in wk_121) dX3_push_10 rfl rfl rfl ?_
  refine z_aload_n 14 C0 0 dX3_push_13 rfl rfl rfl ?_
  refine z_get 17 C0 0 3 wz_3 rfl (by decide) (zTs_in wk_122) dX3_push_14 rfl rfl rfl ?_
  refine z_iload_n 18 C0 1 dX3_push_17 rfl rfl rfl ?_
  refine z_iastN 19 C0 1 [(m, zo 3 [.ref ma, .ref ml, .ref ms, .int (nI h), .int an, .ref mp, .int (nI em), .ref mt]), (ms, zi E 8 (upd st h v))] dX3_push_18 rfl rfl (by omega) (by decide) rfl ?_
  refine z_aload_n 20 C0 0 dX3_push_19 rfl rfl rfl ?_
  refine z_dup 21 C0 dX3_push_20 rfl rfl ?_
  refine z_get 24 C0 0 3 wz_3 rfl (by decide) (zTs_in wk_122) dX3_push_21 rfl rfl rfl ?_
  refine z_iconst 25 C0 (v := (nI 1)) dX3_push_24 rfl rfl ?_
  refine z_iadd 26 C0 (v := (nI (h + 1))) dX3_push_25 rfl (nI_add _ _) ?_
  refine z_put 29 C0 0 3 [(m, zo 3 [.ref ma, .ref ml, .ref ms, .int (nI (h + 1)), .int an, .ref mp, .int (nI em), .ref mt]), (ms, zi E 8 (upd st h v))] wz_3 rfl (by decide) (zTs_in wk_122) tyX3 tyX3_ok nmX3 rfl rfl rfl rfl dX3_push_26 rfl rfl (Nat.le_of_ble_eq_true rfl) rfl ?_
  exact z_vret C0 rfl dX3_push_29 rfl (by decide) (by decide)

set_option maxHeartbeats 4000000 in
set_option maxRecDepth 100000 in
theorem store (l_ : Launch) (E : zE) (m : Nat) (ma : Nat) (ml : Nat) (ms : Nat) (mp : Nat) (mt : Nat) (h : Nat) (an : Int32) (em : Nat) (lo : Nat → Int32) (j : Nat) (v : Int32) (hj : j < 4) : zMv l_ E yX3_store (zTs yX3_store cX3_store 3 none) ({ frames := 0, cells := 0, slots := 0, locals := 0 } : Room) [.ref m, .int (nI j), .int v] [(m, zo 3 [.ref ma, .ref ml, .ref ms, .int (nI h), .int an, .ref mp, .int (nI em), .ref mt]), (ml, zi E 4 lo)] (fun w_ => (w_ = [(m, zo 3 [.ref ma, .ref ml, .ref ms, .int (nI h), .int an, .ref mp, .int (nI em), .ref mt]), (ml, zi E 4 (upd lo j v))])) 0 0 := by
  refine zMv.of (cc := cX3_store) (nL := 3) (ret := none) (by decide) rfl (Nat.le_of_ble_eq_true rfl) ?_
  intro p_ e_ s_ m_ args_ below_ meth_ c_ A_ C0 hin0
  have C0 : zC E p_ s_ m_ args_ meth_ c_ cX3_store 3 none RX3 (zTs yX3_store cX3_store 3 none) A_ := C0
  refine z_eqL (L1 := [(0, .ref m), (1, .int (nI j)), (2, .int v)]) rfl ?_
  refine z_iload_n 1 C0 1 dX3_store_0 rfl rfl rfl ?_
  refine z_if_ltN 4 C0 16 (by omega) dX3_store_1 rfl (by decide) ?_
  refine z_iload_n 5 C0 1 dX3_store_4 rfl rfl rfl ?_
  refine z_iconst 6 C0 (v := (nI 4)) dX3_store_5 rfl rfl ?_
  refine z_icmp_geN 9 16 C0 (by omega) (by decide) dX3_store_6 rfl (by decide) (fun k6 => absurd k6 (by omega)) (fun k6 => ?_)
  refine z_aload_n 10 C0 0 dX3_store_9 rfl rfl rfl ?_
  refine z_get 13 C0 0 1 wz_3 rfl (by decide) (zTs_in wk_120) dX3_store_10 rfl rfl rfl ?_
  refine z_iload_n 14 C0 1 dX3_store_13 rfl rfl rfl ?_
  refine z_iload_n 15 C0 2 dX3_store_14 rfl rfl rfl ?_
  refine z_iastN 16 C0 1 [(m, zo 3 [.ref ma, .ref ml, .ref ms, .int (nI h), .int an, .ref mp, .int (nI em), .ref mt]), (ml, zi E 4 (upd lo j v))] dX3_store_15 rfl rfl (by omega) (by decide) rfl ?_
  exact z_vret C0 rfl dX3_store_16 rfl (by decide) (by decide)

set_option maxHeartbeats 4000000 in
set_option maxRecDepth 100000 in
theorem begin (l_ : Launch) (E : zE) (m : Nat) (ma : Nat) (ml : Nat) (ms : Nat) (mp : Nat) (mt : Nat) (h : Nat) (an : Int32) (em : Nat) (ar : Nat → Int32) (lo : Nat → Int32) (a : Int32) (b : Int32) (d : Int32)  : zMv l_ E yX3_begin (zTs yX3_begin cX3_begin 4 none) ({ frames := 1, cells := 0, slots := 0, locals := 23 } : Room) [.ref m, .int a, .int b, .int d] [(m, zo 3 [.ref ma, .ref ml, .ref ms, .int (nI h), .int an, .ref mp, .int (nI em), .ref mt]), (ma, zi E 3 ar), (ml, zi E 4 lo)] (fun w_ => (w_ = [(m, zo 3 [.ref ma, .ref ml, .ref ms, .int (nI 0), .int an, .ref mp, .int (nI 0), .ref mt]), (ma, zi E 3 (upd (upd (upd ar 0 a) 1 b) 2 d)), (ml, zi E 4 (fun _ => 0))])) 0 0 := by
  refine zMv.of (cc := cX3_begin) (nL := 4) (ret := none) (by decide) rfl (Nat.le_of_ble_eq_true rfl) ?_
  intro p_ e_ s_ m_ args_ below_ meth_ c_ A_ C0 hin0
  have C0 : zC E p_ s_ m_ args_ meth_ c_ cX3_begin 4 none RX3 (zTs yX3_begin cX3_begin 4 none) A_ := C0
  refine z_eqL (L1 := [(0, .ref m), (1, .int a), (2, .int b), (3, .int d)]) rfl ?_
  refine z_aload_n 1 C0 0 dX3_begin_0 rfl rfl rfl ?_
  refine z_get 4 C0 0 0 wz_3 rfl (by decide) (zTs_in wk_119) dX3_begin_1 rfl rfl rfl ?_
  refine z_iconst 5 C0 (v := (nI 0)) dX3_begin_4 rfl rfl ?_
  refine z_iload_n 6 C0 1 dX3_begin_5 rfl rfl rfl ?_
  refine z_iastN 7 C0 1 [(m, zo 3 [.ref ma, .ref ml, .ref ms, .int (nI h), .int an, .ref mp, .int (nI em), .ref mt]), (ma, zi E 3 (upd ar 0 a)), (ml, zi E 4 lo)] dX3_begin_6 rfl rfl (by omega) (by decide) rfl ?_
  refine z_aload_n 8 C0 0 dX3_begin_7 rfl rfl rfl ?_
  refine z_get 11 C0 0 0 wz_3 rfl (by decide) (zTs_in wk_119) dX3_begin_8 rfl rfl rfl ?_
  refine z_iconst 12 C0 (v := (nI 1)) dX3_begin_11 rfl rfl ?_
  refine z_iload_n 13 C0 2 dX3_begin_12 rfl rfl rfl ?_
  refine z_iastN 14 C0 1 [(m, zo 3 [.ref ma, .ref ml, .ref ms, .int (nI h), .int an, .ref mp, .int (nI em), .ref mt]), (ma, zi E 3 (upd (upd ar 0 a) 1 b)), (ml, zi E 4 lo)] dX3_begin_13 rfl rfl (by omega) (by decide) rfl ?_
  refine z_aload_n 15 C0 0 dX3_begin_14 rfl rfl rfl ?_
  refine z_get 18 C0 0 0 wz_3 rfl (by decide) (zTs_in wk_119) dX3_begin_15 rfl rfl rfl ?_
  refine z_iconst 19 C0 (v := (nI 2)) dX3_begin_18 rfl rfl ?_
  refine z_iload_n 20 C0 3 dX3_begin_19 rfl rfl rfl ?_
  refine z_iastN 21 C0 1 [(m, zo 3 [.ref ma, .ref ml, .ref ms, .int (nI h), .int an, .ref mp, .int (nI em), .ref mt]), (ma, zi E 3 (upd (upd (upd ar 0 a) 1 b) 2 d)), (ml, zi E 4 lo)] dX3_begin_20 rfl rfl (by omega) (by decide) rfl ?_
  refine z_aload_n 22 C0 0 dX3_begin_21 rfl rfl rfl ?_
  refine z_get 25 C0 0 1 wz_3 rfl (by decide) (zTs_in wk_120) dX3_begin_22 rfl rfl rfl ?_
  refine z_iconst 26 C0 (v := (nI 0)) dX3_begin_25 rfl rfl ?_
  refine z_callSv 29 C0 [2] [0, 1] [(m, zo 3 [.ref ma, .ref ml, .ref ms, .int (nI h), .int an, .ref mp, .int (nI em), .ref mt]), (ma, zi E 3 (upd (upd (upd ar 0 a) 1 b) 2 d))] 0 0 (As := [.ref ml, .int (nI 0)]) (n := 2) (fill l_ E ml 4 lo (nI 0) (by omega)) (zGIS (fun _ => zTs_in) wk_253 wk_334 wk_252 wk_21) rfl ⟨by decide, by decide, by decide +kernel⟩ rfl rfl (by decide) rfl rfl (Nat.le_of_ble_eq_true rfl) ⟨by decide, by decide⟩ rfl rfl ⟨by decide, by decide⟩ ⟨by decide, by decide⟩ dX3_begin_26 rfl (fun w26 hB26 => ?_)
  obtain rfl := hB26
  refine z_perm [0, 1, 2] [(m, zo 3 [.ref ma, .ref ml, .ref ms, .int (nI h), .int an, .ref mp, .int (nI em), .ref mt]), (ma, zi E 3 (upd (upd (upd ar 0 a) 1 b) 2 d)), (ml, zi E 4 (fun _ => (nI 0)))] (by decide) rfl ?_
  refine z_aload_n 30 C0 0 dX3_begin_29 rfl rfl rfl ?_
  refine z_iconst 31 C0 (v := (nI 0)) dX3_begin_30 rfl rfl ?_
  refine z_put 34 C0 0 3 [(m, zo 3 [.ref ma, .ref ml, .ref ms, .int (nI 0), .int an, .ref mp, .int (nI em), .ref mt]), (ma, zi E 3 (upd (upd (upd ar 0 a) 1 b) 2 d)), (ml, zi E 4 (fun _ => (nI 0)))] wz_3 rfl (by decide) (zTs_in wk_122) tyX3 tyX3_ok nmX3 rfl rfl rfl rfl dX3_begin_31 rfl rfl (Nat.le_of_ble_eq_true rfl) rfl ?_
  refine z_aload_n 35 C0 0 dX3_begin_34 rfl rfl rfl ?_
  refine z_iconst 36 C0 (v := (nI 0)) dX3_begin_35 rfl rfl ?_
  refine z_put 39 C0 0 6 [(m, zo 3 [.ref ma, .ref ml, .ref ms, .int (nI 0), .int an, .ref mp, .int (nI 0), .ref mt]), (ma, zi E 3 (upd (upd (upd ar 0 a) 1 b) 2 d)), (ml, zi E 4 (fun _ => (nI 0)))] wz_3 rfl (by decide) (zTs_in wk_127) tyX3 tyX3_ok nmX3 rfl rfl rfl rfl dX3_begin_36 rfl rfl (Nat.le_of_ble_eq_true rfl) rfl ?_
  exact z_vret C0 rfl dX3_begin_39 rfl (by decide) (by decide)


set_option maxHeartbeats 4000000 in
set_option maxRecDepth 100000 in
theorem combined (l_ : Launch) (E : zE) (o : Nat) (a : Int32) (b : Int32) (h7 : 7 ≤ o) (h13 : o ≤ 13) : zMi l_ E yX3_combined (zTs yX3_combined cX3_combined 3 (some .int)) ({ frames := 0, cells := 0, slots := 0, locals := 0 } : Room) [.int (nI o), .int a, .int b] [] (fun r_ w_ => (r_ = (cmb o a b) ∧ w_ = [])) 0 0 := by
  refine zMi.of (cc := cX3_combined) (nL := 3) (ret := (some .int)) (by decide) rfl (Nat.le_of_ble_eq_true rfl) ?_
  intro p_ e_ s_ m_ args_ below_ meth_ c_ A_ C0 hin0
  have C0 : zC E p_ s_ m_ args_ meth_ c_ cX3_combined 3 (some .int) RX3 (zTs yX3_combined cX3_combined 3 (some .int)) A_ := C0
  refine z_eqL (L1 := [(0, .int (nI o)), (1, .int a), (2, .int b)]) rfl ?_
  rcases (show o = 7 ∨ o = 8 ∨ o = 9 ∨ o = 10 ∨ o = 11 ∨ o = 12 ∨ o = 13 by omega) with rfl | rfl | rfl | rfl | rfl | rfl | rfl
  · skip
    refine z_iload_n 1 C0 0 dX3_combined_0 rfl rfl rfl ?_
    refine z_switch 40 C0 dX3_combined_1 (by decide) (by decide) rfl (by decide) ?_
    refine z_iload_n 41 C0 1 dX3_combined_40 rfl rfl rfl ?_
    refine z_iload_n 42 C0 2 dX3_combined_41 rfl rfl rfl ?_
    refine z_iadd 43 C0 (v := (a + b)) dX3_combined_42 rfl rfl ?_
    exact z_iret C0 rfl dX3_combined_43 ⟨rfl, rfl⟩ (by decide) (by decide)
  · skip
    refine z_iload_n 1 C0 0 dX3_combined_0 rfl rfl rfl ?_
    refine z_switch 44 C0 dX3_combined_1 (by decide) (by decide) rfl (by decide) ?_
    refine z_iload_n 45 C0 1 dX3_combined_44 rfl rfl rfl ?_
    refine z_iload_n 46 C0 2 dX3_combined_45 rfl rfl rfl ?_
    refine z_isub 47 C0 (v := (a - b)) dX3_combined_46 rfl rfl ?_
    exact z_iret C0 rfl dX3_combined_47 ⟨rfl, rfl⟩ (by decide) (by decide)
  · skip
    refine z_iload_n 1 C0 0 dX3_combined_0 rfl rfl rfl ?_
    refine z_switch 48 C0 dX3_combined_1 (by decide) (by decide) rfl (by decide) ?_
    refine z_iload_n 49 C0 1 dX3_combined_48 rfl rfl rfl ?_
    refine z_iload_n 50 C0 2 dX3_combined_49 rfl rfl rfl ?_
    refine z_imul 51 C0 (v := (a * b)) dX3_combined_50 rfl rfl ?_
    exact z_iret C0 rfl dX3_combined_51 ⟨rfl, rfl⟩ (by decide) (by decide)
  · skip
    refine z_iload_n 1 C0 0 dX3_combined_0 rfl rfl rfl ?_
    refine z_switch 52 C0 dX3_combined_1 (by decide) (by decide) rfl (by decide) ?_
    refine z_iload_n 53 C0 2 dX3_combined_52 rfl rfl rfl ?_
    refine z_if_ne 56 60 C0 dX3_combined_53 rfl (by decide) (fun k53 => ?_) (fun k53 => ?_)
    · skip
      refine z_iload_n 61 C0 1 dX3_combined_60 rfl rfl rfl ?_
      refine z_iload_n 62 C0 2 dX3_combined_61 rfl rfl rfl ?_
      refine z_idiv 63 C0 (v := (a / b)) dX3_combined_62 rfl k53 rfl ?_
      exact z_iret C0 rfl dX3_combined_63 ⟨(cmb_div k53), rfl⟩ (by decide) (by decide)
    · skip
      refine z_iconst 57 C0 (v := (nI 0)) dX3_combined_56 rfl rfl ?_
      refine z_goto 63 C0 dX3_combined_57 (by decide) ?_
      exact z_iret C0 rfl dX3_combined_63 ⟨(by rw [k53]; rfl), rfl⟩ (by decide) (by decide)
  · skip
    refine z_iload_n 1 C0 0 dX3_combined_0 rfl rfl rfl ?_
    refine z_switch 64 C0 dX3_combined_1 (by decide) (by decide) rfl (by decide) ?_
    refine z_iload_n 65 C0 2 dX3_combined_64 rfl rfl rfl ?_
    refine z_if_ne 68 72 C0 dX3_combined_65 rfl (by decide) (fun k65 => ?_) (fun k65 => ?_)
    · skip
      refine z_iload_n 73 C0 1 dX3_combined_72 rfl rfl rfl ?_
      refine z_iload_n 74 C0 2 dX3_combined_73 rfl rfl rfl ?_
      refine z_irem 75 C0 (v := (a - a / b * b)) dX3_combined_74 rfl k65 rfl ?_
      exact z_iret C0 rfl dX3_combined_75 ⟨(cmb_rem k65), rfl⟩ (by decide) (by decide)
    · skip
      refine z_iconst 69 C0 (v := (nI 0)) dX3_combined_68 rfl rfl ?_
      refine z_goto 75 C0 dX3_combined_69 (by decide) ?_
      exact z_iret C0 rfl dX3_combined_75 ⟨(by rw [k65]; rfl), rfl⟩ (by decide) (by decide)
  · skip
    refine z_iload_n 1 C0 0 dX3_combined_0 rfl rfl rfl ?_
    refine z_switch 76 C0 dX3_combined_1 (by decide) (by decide) rfl (by decide) ?_
    refine z_iload_n 77 C0 1 dX3_combined_76 rfl rfl rfl ?_
    refine z_iload_n 78 C0 2 dX3_combined_77 rfl rfl rfl ?_
    refine z_icmp_ge 81 85 C0 dX3_combined_78 rfl (by decide) (fun k78 => ?_) (fun k78 => ?_)
    · skip
      refine z_iconst 86 C0 (v := (nI 0)) dX3_combined_85 rfl rfl ?_
      exact z_iret C0 rfl dX3_combined_86 ⟨(cmb_nlt k78), rfl⟩ (by decide) (by decide)
    · skip
      refine z_iconst 82 C0 (v := (nI 1)) dX3_combined_81 rfl rfl ?_
      refine z_goto 86 C0 dX3_combined_82 (by decide) ?_
      exact z_iret C0 rfl dX3_combined_86 ⟨(cmb_lt k78), rfl⟩ (by decide) (by decide)
  · skip
    refine z_iload_n 1 C0 0 dX3_combined_0 rfl rfl rfl ?_
    refine z_switchO 87 C0 dX3_combined_1 (by decide) (by decide) ?_
    refine z_iload_n 88 C0 1 dX3_combined_87 rfl rfl rfl ?_
    refine z_iload_n 89 C0 2 dX3_combined_88 rfl rfl rfl ?_
    refine z_icmp_ne 92 96 C0 dX3_combined_89 rfl (by decide) (fun k89 => ?_) (fun k89 => ?_)
    · skip
      refine z_iconst 97 C0 (v := (nI 0)) dX3_combined_96 rfl rfl ?_
      exact z_iret C0 rfl dX3_combined_97 ⟨(cmb_ne k89), rfl⟩ (by decide) (by decide)
    · skip
      refine z_iconst 93 C0 (v := (nI 1)) dX3_combined_92 rfl rfl ?_
      refine z_goto 97 C0 dX3_combined_93 (by decide) ?_
      exact z_iret C0 rfl dX3_combined_97 ⟨(cmb_eq k89), rfl⟩ (by decide) (by decide)

set_option maxHeartbeats 4000000 in
set_option maxRecDepth 100000 in
theorem jump14 (l_ : Launch) (E : zE) (m : Nat) (ma : Nat) (ml : Nat) (ms : Nat) (mp : Nat) (mt : Nat) (h : Nat) (an : Int32) (em : Nat) (st : Nat → Int32) (n : Int32) (at_ : Nat) (hh : h ≤ 8) : zMi l_ E yX3_jump (zTs yX3_jump cX3_jump 4 (some .int)) ({ frames := 1, cells := 0, slots := 0, locals := 20 } : Room) [.ref m, .int (nI 14), .int n, .int (nI at_)] [(m, zo 3 [.ref ma, .ref ml, .ref ms, .int (nI h), .int an, .ref mp, .int (nI em), .ref mt]), (ms, zi E 8 st)] (fun r_ w_ => (r_ = n ∧ w_ = [(m, zo 3 [.ref ma, .ref ml, .ref ms, .int (nI h), .int an, .ref mp, .int (nI em), .ref mt]), (ms, zi E 8 st)])) 0 0 := by
  refine zMi.of (cc := cX3_jump) (nL := 4) (ret := (some .int)) (by decide) rfl (Nat.le_of_ble_eq_true rfl) ?_
  intro p_ e_ s_ m_ args_ below_ meth_ c_ A_ C0 hin0
  have C0 : zC E p_ s_ m_ args_ meth_ c_ cX3_jump 4 (some .int) RX3 (zTs yX3_jump cX3_jump 4 (some .int)) A_ := C0
  refine z_eqL (L1 := [(0, .ref m), (1, .int (nI 14)), (2, .int n), (3, .int (nI at_))]) rfl ?_
  refine z_iload_n 1 C0 1 dX3_jump_0 rfl rfl rfl ?_
  refine z_bipush 3 C0 (v := (nI 15)) dX3_jump_1 rfl rfl ?_
  refine z_icmp_neN 6 17 C0 (by decide) (by decide) dX3_jump_3 rfl (by decide) (fun k3 => ?_) (fun k3 => absurd k3 (by decide))
  refine z_iload_n 18 C0 2 dX3_jump_17 rfl rfl rfl ?_
  exact z_iret C0 rfl dX3_jump_18 ⟨rfl, rfl⟩ (by decide) (by decide)

set_option maxHeartbeats 4000000 in
set_option maxRecDepth 100000 in
theorem jump15 (l_ : Launch) (E : zE) (m : Nat) (ma : Nat) (ml : Nat) (ms : Nat) (mp : Nat) (mt : Nat) (h : Nat) (an : Int32) (em : Nat) (st : Nat → Int32) (n : Int32) (at_ : Nat) (hh : h ≤ 8) : zMi l_ E yX3_jump (zTs yX3_jump cX3_jump 4 (some .int)) ({ frames := 1, cells := 0, slots := 0, locals := 20 } : Room) [.ref m, .int (nI 15), .int n, .int (nI at_)] [(m, zo 3 [.ref ma, .ref ml, .ref ms, .int (nI h), .int an, .ref mp, .int (nI em), .ref mt]), (ms, zi E 8 st)] (fun r_ w_ => (r_ = (if popV h st = 0 then n else nI (at_ + 1)) ∧ w_ = [(m, zo 3 [.ref ma, .ref ml, .ref ms, .int (nI (h - 1)), .int an, .ref mp, .int (nI em), .ref mt]), (ms, zi E 8 st)])) 0 0 := by
  refine zMi.of (cc := cX3_jump) (nL := 4) (ret := (some .int)) (by decide) rfl (Nat.le_of_ble_eq_true rfl) ?_
  intro p_ e_ s_ m_ args_ below_ meth_ c_ A_ C0 hin0
  have C0 : zC E p_ s_ m_ args_ meth_ c_ cX3_jump 4 (some .int) RX3 (zTs yX3_jump cX3_jump 4 (some .int)) A_ := C0
  refine z_eqL (L1 := [(0, .ref m), (1, .int (nI 15)), (2, .int n), (3, .int (nI at_))]) rfl ?_
  refine z_iload_n 1 C0 1 dX3_jump_0 rfl rfl rfl ?_
  refine z_bipush 3 C0 (v := (nI 15)) dX3_jump_1 rfl rfl ?_
  refine z_icmp_neN 6 17 C0 (by decide) (by decide) dX3_jump_3 rfl (by decide) (fun k3 => absurd k3 (by decide)) (fun k3 => ?_)
  refine z_aload_n 7 C0 0 dX3_jump_6 rfl rfl rfl ?_
  refine z_callVi 10 C0 [0, 1] [] [] 0 0 (As := []) (T := TX3) (N := 8) (C := RX3) (ci := 3) (n := 0) 0 (pop l_ E m ma ml ms mp mt h an em st (by omega)) (zGIV (fun _ => zTs_in) wk_352 wk_349 wk_350 wk_351 wk_18) rfl ⟨rfl, by decide, by decide, by decide +kernel⟩ rfl rfl rfl rfl (by decide) rfl rfl (Nat.le_of_ble_eq_true rfl) ⟨by decide, by decide⟩ rfl rfl ⟨by decide, by decide⟩ ⟨by decide, by decide⟩ dX3_jump_7 rfl (fun r7 w7 hB7 => ?_)
  obtain ⟨rfl, rfl⟩ := hB7
  refine z_perm [0, 1] [(m, zo 3 [.ref ma, .ref ml, .ref ms, .int (nI (h - 1)), .int an, .ref mp, .int (nI em), .ref mt]), (ms, zi E 8 st)] (by decide) rfl ?_
  refine z_if_eq 13 17 C0 dX3_jump_10 rfl (by decide) (fun k10 => ?_) (fun k10 => ?_)
  · skip
    refine z_iload_n 18 C0 2 dX3_jump_17 rfl rfl rfl ?_
    exact z_iret C0 rfl dX3_jump_18 ⟨(by first | rw [if_neg k10] | rw [if_pos k10]), rfl⟩ (by decide) (by decide)
  · skip
    refine z_iload_n 14 C0 3 dX3_jump_13 rfl rfl rfl ?_
    refine z_iconst 15 C0 (v := (nI 1)) dX3_jump_14 rfl rfl ?_
    refine z_iadd 16 C0 (v := (nI (at_ + 1))) dX3_jump_15 rfl (nI_add _ _) ?_
    exact z_iret C0 rfl dX3_jump_16 ⟨(by first | rw [if_neg k10] | rw [if_pos k10]), rfl⟩ (by decide) (by decide)

set_option maxHeartbeats 4000000 in
set_option maxRecDepth 100000 in
theorem combine (l_ : Launch) (E : zE) (m : Nat) (ma : Nat) (ml : Nat) (ms : Nat) (mp : Nat) (mt : Nat) (h : Nat) (an : Int32) (em : Nat) (st : Nat → Int32) (o : Nat) (h7 : 7 ≤ o) (h13 : o ≤ 13) (hh : 2 ≤ h) (hh8 : h ≤ 8) : zMv l_ E yX3_combine (zTs yX3_combine cX3_combine 4 none) ({ frames := 1, cells := 0, slots := 0, locals := 22 } : Room) [.ref m, .int (nI o)] [(m, zo 3 [.ref ma, .ref ml, .ref ms, .int (nI h), .int an, .ref mp, .int (nI em), .ref mt]), (ms, zi E 8 st)] (fun w_ => (w_ = [(m, zo 3 [.ref ma, .ref ml, .ref ms, .int (nI (h - 1)), .int an, .ref mp, .int (nI em), .ref mt]), (ms, zi E 8 (upd st (h - 2) (cmb o (st (h - 2)) (st (h - 1)))))])) 0 0 := by
  refine zMv.of (cc := cX3_combine) (nL := 4) (ret := none) (by decide) rfl (Nat.le_of_ble_eq_true rfl) ?_
  intro p_ e_ s_ m_ args_ below_ meth_ c_ A_ C0 hin0
  have C0 : zC E p_ s_ m_ args_ meth_ c_ cX3_combine 4 none RX3 (zTs yX3_combine cX3_combine 4 none) A_ := C0
  refine z_eqL (L1 := [(0, .ref m), (1, .int (nI o))]) rfl ?_
  refine z_aload_n 1 C0 0 dX3_combine_0 rfl rfl rfl ?_
  refine z_callVi 4 C0 [0, 1] [] [] 0 0 (As := []) (T := TX3) (N := 8) (C := RX3) (ci := 3) (n := 0) 0 (pop l_ E m ma ml ms mp mt h an em st (by omega)) (zGIV (fun _ => zTs_in) wk_352 wk_349 wk_350 wk_351 wk_18) rfl ⟨rfl, by decide, by decide, by decide +kernel⟩ rfl rfl rfl rfl (by decide) rfl rfl (Nat.le_of_ble_eq_true rfl) ⟨by decide, by decide⟩ rfl rfl ⟨by decide, by decide⟩ ⟨by decide, by decide⟩ dX3_combine_1 rfl (fun r1 w1 hB1 => ?_)
  obtain ⟨rfl, rfl⟩ := hB1
  refine z_perm [0, 1] [(m, zo 3 [.ref ma, .ref ml, .ref ms, .int (nI (h - 1)), .int an, .ref mp, .int (nI em), .ref mt]), (ms, zi E 8 st)] (by decide) rfl ?_
  refine z_istore_n 5 C0 [1, 2, 0] [(0, .ref m), (1, .int (nI o)), (2, .int (popV h st))] dX3_combine_4 rfl rfl (by decide) rfl ?_
  refine z_aload_n 6 C0 0 dX3_combine_5 rfl rfl rfl ?_
  refine z_callVi 9 C0 [0, 1] [] [] 0 0 (As := []) (T := TX3) (N := 8) (C := RX3) (ci := 3) (n := 0) 0 (pop l_ E m ma ml ms mp mt (h - 1) an em st (by omega)) (zGIV (fun _ => zTs_in) wk_352 wk_349 wk_350 wk_351 wk_18) rfl ⟨rfl, by decide, by decide, by decide +kernel⟩ rfl rfl rfl rfl (by decide) rfl rfl (Nat.le_of_ble_eq_true rfl) ⟨by decide, by decide⟩ rfl rfl ⟨by decide, by decide⟩ ⟨by decide, by decide⟩ dX3_combine_6 rfl (fun r6 w6 hB6 => ?_)
  obtain ⟨rfl, rfl⟩ := hB6
  refine z_perm [0, 1] [(m, zo 3 [.ref ma, .ref ml, .ref ms, .int (nI ((h - 1) - 1)), .int an, .ref mp, .int (nI em), .ref mt]), (ms, zi E 8 st)] (by decide) rfl ?_
  refine z_istore_n 10 C0 [1, 2, 3, 0] [(0, .ref m), (1, .int (nI o)), (2, .int (popV h st)), (3, .int (popV (h - 1) st))] dX3_combine_9 rfl rfl (by decide) rfl ?_
  refine z_aload_n 11 C0 0 dX3_combine_10 rfl rfl rfl ?_
  refine z_iload_n 12 C0 1 dX3_combine_11 rfl rfl rfl ?_
  refine z_iload_n 13 C0 3 dX3_combine_12 rfl rfl rfl ?_
  refine z_iload_n 14 C0 2 dX3_combine_13 rfl rfl rfl ?_
  refine z_callSi 17 C0 [] [0, 1] [(m, zo 3 [.ref ma, .ref ml, .ref ms, .int (nI ((h - 1) - 1)), .int an, .ref mp, .int (nI em), .ref mt]), (ms, zi E 8 st)] 0 0 (As := [.int (nI o), .int (popV (h - 1) st), .int (popV h st)]) (n := 3) (combined l_ E o (popV (h - 1) st) (popV h st) (by omega) (by omega)) (zGIS (fun _ => zTs_in) wk_367 wk_365 wk_366 wk_18) rfl ⟨by decide, by decide, by decide +kernel⟩ rfl rfl (by decide) rfl rfl (Nat.le_of_ble_eq_true rfl) ⟨by decide, by decide⟩ rfl rfl ⟨by decide, by decide⟩ ⟨by decide, by decide⟩ dX3_combine_14 rfl (fun r14 w14 hB14 => ?_)
  obtain ⟨rfl, rfl⟩ := hB14
  refine z_perm [0, 1] [(m, zo 3 [.ref ma, .ref ml, .ref ms, .int (nI ((h - 1) - 1)), .int an, .ref mp, .int (nI em), .ref mt]), (ms, zi E 8 st)] (by decide) rfl ?_
  refine z_callVv 20 C0 [0, 1] [] [] 0 0 (As := [.int (cmb o (popV (h - 1) st) (popV h st))]) (T := TX3) (N := 8) (C := RX3) (ci := 3) (n := 1) 0 (push l_ E m ma ml ms mp mt ((h - 1) - 1) an em st (cmb o (popV (h - 1) st) (popV h st)) (by omega)) (zGIV (fun _ => zTs_in) wk_371 wk_368 wk_369 wk_370 wk_18) rfl ⟨rfl, by decide, by decide, by decide +kernel⟩ rfl rfl rfl rfl (by decide) rfl rfl (Nat.le_of_ble_eq_true rfl) ⟨by decide, by decide⟩ rfl rfl ⟨by decide, by decide⟩ ⟨by decide, by decide⟩ dX3_combine_17 rfl (fun w17 hB17 => ?_)
  obtain rfl := hB17
  refine z_perm [0, 1] [(m, zo 3 [.ref ma, .ref ml, .ref ms, .int (nI (((h - 1) - 1) + 1)), .int an, .ref mp, .int (nI em), .ref mt]), (ms, zi E 8 (upd st ((h - 1) - 1) (cmb o (popV (h - 1) st) (popV h st))))] (by decide) rfl ?_
  exact z_vret C0 rfl dX3_combine_20 (by rw [popV_s (by omega), popV_s (by omega), show h - 1 - 1 = h - 2 by omega, show h - 2 + 1 = h - 1 by omega]) (by decide) (by decide)

set_option maxHeartbeats 4000000 in
set_option maxRecDepth 100000 in
theorem emit_ (l_ : Launch) (E : zE) (m : Nat) (ma : Nat) (ml : Nat) (ms : Nat) (mp : Nat) (mt : Nat) (h : Nat) (an : Int32) (em : Nat) (st : Nat → Int32) (mpk : Nat) (mpv : Nat) (f : Nat → Int32) (g : Nat → Int32) (n : Nat) (hh : 2 ≤ h) (hh8 : h ≤ 8) (hn : n ≤ 600) (hem : em < 2147483647) : zMv l_ E yX3_emit (zTs yX3_emit cX3_emit 3 none) ({ frames := 1, cells := 0, slots := 0, locals := 22 } : Room) [.ref m] [(m, zo 3 [.ref ma, .ref ml, .ref ms, .int (nI h), .int an, .ref mp, .int (nI em), .ref mt]), (ms, zi E 8 st), (mp, zo 4 [.ref mpk, .ref mpv, .int (nI n)]), (mpk, zi E 600 f), (mpv, zi E 600 g)] (fun w_ => (w_ = [(m, zo 3 [.ref ma, .ref ml, .ref ms, .int (nI (h - 2)), .int an, .ref mp, .int (nI (em + 1)), .ref mt]), (ms, zi E 8 st), (mp, zo 4 [.ref mpk, .ref mpv, .int (nI (capN 600 n))]), (mpk, zi E 600 (capU 600 n f (st (h - 2)))), (mpv, zi E 600 (capU 600 n g (st (h - 1))))])) 0 0 := by
  refine zMv.of (cc := cX3_emit) (nL := 3) (ret := none) (by decide) rfl (Nat.le_of_ble_eq_true rfl) ?_
  intro p_ e_ s_ m_ args_ below_ meth_ c_ A_ C0 hin0
  have C0 : zC E p_ s_ m_ args_ meth_ c_ cX3_emit 3 none RX3 (zTs yX3_emit cX3_emit 3 none) A_ := C0
  refine z_eqL (L1 := [(0, .ref m)]) rfl ?_
  refine z_aload_n 1 C0 0 dX3_emit_0 rfl rfl rfl ?_
  refine z_callVi 4 C0 [0, 1] [2, 3, 4] [(mp, zo 4 [.ref mpk, .ref mpv, .int (nI n)]), (mpk, zi E 600 f), (mpv, zi E 600 g)] 0 0 (As := []) (T := TX3) (N := 8) (C := RX3) (ci := 3) (n := 0) 0 (pop l_ E m ma ml ms mp mt h an em st (by omega)) (zGIV (fun _ => zTs_in) wk_352 wk_349 wk_350 wk_351 wk_18) rfl ⟨rfl, by decide, by decide, by decide +kernel⟩ rfl rfl rfl rfl (by decide) rfl rfl (Nat.le_of_ble_eq_true rfl) ⟨by decide, by decide⟩ rfl rfl ⟨by decide, by decide⟩ ⟨by decide, by decide⟩ dX3_emit_1 rfl (fun r1 w1 hB1 => ?_)
  obtain ⟨rfl, rfl⟩ := hB1
  refine z_perm [3, 4, 0, 1, 2] [(m, zo 3 [.ref ma, .ref ml, .ref ms, .int (nI (h - 1)), .int an, .ref mp, .int (nI em), .ref mt]), (ms, zi E 8 st), (mp, zo 4 [.ref mpk, .ref mpv, .int (nI n)]), (mpk, zi E 600 f), (mpv, zi E 600 g)] (by decide) rfl ?_
  refine z_istore_n 5 C0 [1, 0] [(0, .ref m), (1, .int (popV h st))] dX3_emit_4 rfl rfl (by decide) rfl ?_
  refine z_aload_n 6 C0 0 dX3_emit_5 rfl rfl rfl ?_
  refine z_callVi 9 C0 [0, 1] [2, 3, 4] [(mp, zo 4 [.ref mpk, .ref mpv, .int (nI n)]), (mpk, zi E 600 f), (mpv, zi E 600 g)] 0 0 (As := []) (T := TX3) (N := 8) (C := RX3) (ci := 3) (n := 0) 0 (pop l_ E m ma ml ms mp mt (h - 1) an em st (by omega)) (zGIV (fun _ => zTs_in) wk_352 wk_349 wk_350 wk_351 wk_18) rfl ⟨rfl, by decide, by decide, by decide +kernel⟩ rfl rfl rfl rfl (by decide) rfl rfl (Nat.le_of_ble_eq_true rfl) ⟨by decide, by decide⟩ rfl rfl ⟨by decide, by decide⟩ ⟨by decide, by decide⟩ dX3_emit_6 rfl (fun r6 w6 hB6 => ?_)
  obtain ⟨rfl, rfl⟩ := hB6
  refine z_perm [3, 4, 0, 1, 2] [(m, zo 3 [.ref ma, .ref ml, .ref ms, .int (nI ((h - 1) - 1)), .int an, .ref mp, .int (nI em), .ref mt]), (ms, zi E 8 st), (mp, zo 4 [.ref mpk, .ref mpv, .int (nI n)]), (mpk, zi E 600 f), (mpv, zi E 600 g)] (by decide) rfl ?_
  refine z_istore_n 10 C0 [1, 2, 0] [(0, .ref m), (1, .int (popV h st)), (2, .int (popV (h - 1) st))] dX3_emit_9 rfl rfl (by decide) rfl ?_
  refine z_aload_n 11 C0 0 dX3_emit_10 rfl rfl rfl ?_
  refine z_dup 12 C0 dX3_emit_11 rfl rfl ?_
  refine z_get 15 C0 0 6 wz_3 rfl (by decide) (zTs_in wk_127) dX3_emit_12 rfl rfl rfl ?_
  refine z_iconst 16 C0 (v := (nI 1)) dX3_emit_15 rfl rfl ?_
  refine z_iadd 17 C0 (v := (nI (em + 1))) dX3_emit_16 rfl (nI_add _ _) ?_
  refine z_put 20 C0 0 6 [(m, zo 3 [.ref ma, .ref ml, .ref ms, .int (nI ((h - 1) - 1)), .int an, .ref mp, .int (nI (em + 1)), .ref mt]), (ms, zi E 8 st), (mp, zo 4 [.ref mpk, .ref mpv, .int (nI n)]), (mpk, zi E 600 f), (mpv, zi E 600 g)] wz_3 rfl (by decide) (zTs_in wk_127) tyX3 tyX3_ok nmX3 rfl rfl rfl rfl dX3_emit_17 rfl rfl (Nat.le_of_ble_eq_true rfl) rfl ?_
  refine z_aload_n 21 C0 0 dX3_emit_20 rfl rfl rfl ?_
  refine z_get 24 C0 0 5 wz_3 rfl (by decide) (zTs_in wk_125) dX3_emit_21 rfl rfl rfl ?_
  refine z_iload_n 25 C0 2 dX3_emit_24 rfl rfl rfl ?_
  refine z_iload_n 26 C0 1 dX3_emit_25 rfl rfl rfl ?_
  refine z_callVi 29 C0 [2, 3, 4] [0, 1] [(m, zo 3 [.ref ma, .ref ml, .ref ms, .int (nI ((h - 1) - 1)), .int an, .ref mp, .int (nI (em + 1)), .ref mt]), (ms, zi E 8 st)] 0 0 (As := [.int (popV (h - 1) st), .int (popV h st)]) (T := TX4) (N := 3) (C := RX4) (ci := 4) (n := 2) 0 (rappend l_ E mp mpk mpv f g n 600 (popV (h - 1) st) (popV h st) (by omega) (by omega)) (zGIV (fun _ => zTs_in) wk_219 wk_384 wk_217 wk_218 wk_14) rfl ⟨rfl, by decide, by decide, by decide +kernel⟩ rfl rfl rfl rfl (by decide) rfl rfl (Nat.le_of_ble_eq_true rfl) ⟨by decide, by decide⟩ rfl rfl ⟨by decide, by decide⟩ ⟨by decide, by decide⟩ dX3_emit_26 rfl (fun r26 w26 hB26 => ?_)
  obtain ⟨rfl, rfl⟩ := hB26
  refine z_perm [0, 1, 2, 3, 4] [(m, zo 3 [.ref ma, .ref ml, .ref ms, .int (nI ((h - 1) - 1)), .int an, .ref mp, .int (nI (em + 1)), .ref mt]), (ms, zi E 8 st), (mp, zo 4 [.ref mpk, .ref mpv, .int (nI (capN 600 n))]), (mpk, zi E 600 (capU 600 n f (popV (h - 1) st))), (mpv, zi E 600 (capU 600 n g (popV h st)))] (by decide) rfl ?_
  refine z_pop 30 C0 dX3_emit_29 rfl rfl ?_
  exact z_vret C0 rfl dX3_emit_30 (by rw [popV_s (by omega), popV_s (by omega), show h - 1 - 1 = h - 2 by omega]) (by decide) (by decide)

set_option maxHeartbeats 4000000 in
set_option maxRecDepth 100000 in
theorem move0 (l_ : Launch) (E : zE) (m : Nat) (ma : Nat) (ml : Nat) (ms : Nat) (mp : Nat) (mt : Nat) (h : Nat) (an : Int32) (em : Nat) (ar : Nat → Int32) (lo : Nat → Int32) (st : Nat → Int32) (mpk : Nat) (mpv : Nat) (f : Nat → Int32) (g : Nat → Int32) (n : Nat) (nv : Int32) (hh8 : h ≤ 8) (hh : h < 8) : zMv l_ E yX3_move (zTs yX3_move cX3_move 6 none) ({ frames := 2, cells := 0, slots := 0, locals := 44 } : Room) [.ref m, .int (nI 0), .int nv] [(m, zo 3 [.ref ma, .ref ml, .ref ms, .int (nI h), .int an, .ref mp, .int (nI em), .ref mt]), (ma, zi E 3 ar), (ml, zi E 4 lo), (ms, zi E 8 st), (mp, zo 4 [.ref mpk, .ref mpv, .int (nI n)]), (mpk, zi E 600 f), (mpv, zi E 600 g)] (fun w_ => (w_ = [(m, zo 3 [.ref ma, .ref ml, .ref ms, .int (nI (h + 1)), .int an, .ref mp, .int (nI em), .ref mt]), (ma, zi E 3 ar), (ml, zi E 4 lo), (ms, zi E 8 (upd st h nv)), (mp, zo 4 [.ref mpk, .ref mpv, .int (nI n)]), (mpk, zi E 600 f), (mpv, zi E 600 g)])) 0 0 := by
  refine zMv.of (cc := cX3_move) (nL := 6) (ret := none) (by decide) rfl (Nat.le_of_ble_eq_true rfl) ?_
  intro p_ e_ s_ m_ args_ below_ meth_ c_ A_ C0 hin0
  have C0 : zC E p_ s_ m_ args_ meth_ c_ cX3_move 6 none RX3 (zTs yX3_move cX3_move 6 none) A_ := C0
  refine z_eqL (L1 := [(0, .ref m), (1, .int (nI 0)), (2, .int nv)]) rfl ?_
  refine z_iload_n 1 C0 1 dX3_move_0 rfl rfl rfl ?_
  refine z_switch 44 C0 dX3_move_1 (by decide) (by decide) rfl (by decide) ?_
  refine z_aload_n 45 C0 0 dX3_move_44 rfl rfl rfl ?_
  refine z_iload_n 46 C0 2 dX3_move_45 rfl rfl rfl ?_
  refine z_callVv 49 C0 [0, 3] [1, 2, 4, 5, 6] [(ma, zi E 3 ar), (ml, zi E 4 lo), (mp, zo 4 [.ref mpk, .ref mpv, .int (nI n)]), (mpk, zi E 600 f), (mpv, zi E 600 g)] 0 0 (As := [.int nv]) (T := TX3) (N := 8) (C := RX3) (ci := 3) (n := 1) 0 (push l_ E m ma ml ms mp mt h an em st nv (by omega)) (zGIV (fun _ => zTs_in) wk_371 wk_368 wk_369 wk_370 wk_18) rfl ⟨rfl, by decide, by decide, by decide +kernel⟩ rfl rfl rfl rfl (by decide) rfl rfl (Nat.le_of_ble_eq_true rfl) ⟨by decide, by decide⟩ rfl rfl ⟨by decide, by decide⟩ ⟨by decide, by decide⟩ dX3_move_46 rfl (fun w46 hB46 => ?_)
  obtain rfl := hB46
  refine z_perm [5, 0, 1, 6, 2, 3, 4] [(m, zo 3 [.ref ma, .ref ml, .ref ms, .int (nI (h + 1)), .int an, .ref mp, .int (nI em), .ref mt]), (ma, zi E 3 ar), (ml, zi E 4 lo), (ms, zi E 8 (upd st h nv)), (mp, zo 4 [.ref mpk, .ref mpv, .int (nI n)]), (mpk, zi E 600 f), (mpv, zi E 600 g)] (by decide) rfl ?_
  refine z_goto 173 C0 dX3_move_49 (by decide) ?_
  exact z_vret C0 rfl dX3_move_173 rfl (by decide) (by decide)

set_option maxHeartbeats 4000000 in
set_option maxRecDepth 100000 in
theorem move1 (l_ : Launch) (E : zE) (m : Nat) (ma : Nat) (ml : Nat) (ms : Nat) (mp : Nat) (mt : Nat) (h : Nat) (an : Int32) (em : Nat) (ar : Nat → Int32) (lo : Nat → Int32) (st : Nat → Int32) (mpk : Nat) (mpv : Nat) (f : Nat → Int32) (g : Nat → Int32) (n : Nat) (j : Nat) (hh8 : h ≤ 8) (hh : h < 8) (hj : j < 3) : zMv l_ E yX3_move (zTs yX3_move cX3_move 6 none) ({ frames := 2, cells := 0, slots := 0, locals := 44 } : Room) [.ref m, .int (nI 1), .int (nI j)] [(m, zo 3 [.ref ma, .ref ml, .ref ms, .int (nI h), .int an, .ref mp, .int (nI em), .ref mt]), (ma, zi E 3 ar), (ml, zi E 4 lo), (ms, zi E 8 st), (mp, zo 4 [.ref mpk, .ref mpv, .int (nI n)]), (mpk, zi E 600 f), (mpv, zi E 600 g)] (fun w_ => (w_ = [(m, zo 3 [.ref ma, .ref ml, .ref ms, .int (nI (h + 1)), .int an, .ref mp, .int (nI em), .ref mt]), (ma, zi E 3 ar), (ml, zi E 4 lo), (ms, zi E 8 (upd st h (ar j))), (mp, zo 4 [.ref mpk, .ref mpv, .int (nI n)]), (mpk, zi E 600 f), (mpv, zi E 600 g)])) 0 0 := by
  refine zMv.of (cc := cX3_move) (nL := 6) (ret := none) (by decide) rfl (Nat.le_of_ble_eq_true rfl) ?_
  intro p_ e_ s_ m_ args_ below_ meth_ c_ A_ C0 hin0
  have C0 : zC E p_ s_ m_ args_ meth_ c_ cX3_move 6 none RX3 (zTs yX3_move cX3_move 6 none) A_ := C0
  refine z_eqL (L1 := [(0, .ref m), (1, .int (nI 1)), (2, .int (nI j))]) rfl ?_
  refine z_iload_n 1 C0 1 dX3_move_0 rfl rfl rfl ?_
  refine z_switch 52 C0 dX3_move_1 (by decide) (by decide) rfl (by decide) ?_
  refine z_aload_n 53 C0 0 dX3_move_52 rfl rfl rfl ?_
  refine z_iload_n 54 C0 2 dX3_move_53 rfl rfl rfl ?_
  refine z_if_ltN 57 C0 71 (by omega) dX3_move_54 rfl (by decide) ?_
  refine z_iload_n 58 C0 2 dX3_move_57 rfl rfl rfl ?_
  refine z_iconst 59 C0 (v := (nI 3)) dX3_move_58 rfl rfl ?_
  refine z_icmp_geN 62 71 C0 (by omega) (by decide) dX3_move_59 rfl (by decide) (fun k59 => absurd k59 (by omega)) (fun k59 => ?_)
  refine z_aload_n 63 C0 0 dX3_move_62 rfl rfl rfl ?_
  refine z_get 66 C0 0 0 wz_3 rfl (by decide) (zTs_in wk_119) dX3_move_63 rfl rfl rfl ?_
  refine z_iload_n 67 C0 2 dX3_move_66 rfl rfl rfl ?_
  refine z_ialdN 68 C0 1 (v := (ar j)) dX3_move_67 rfl rfl (by omega) (by decide) rfl ?_
  refine z_goto 72 C0 dX3_move_68 (by decide) ?_
  refine z_callVv 75 C0 [0, 3] [1, 2, 4, 5, 6] [(ma, zi E 3 ar), (ml, zi E 4 lo), (mp, zo 4 [.ref mpk, .ref mpv, .int (nI n)]), (mpk, zi E 600 f), (mpv, zi E 600 g)] 0 0 (As := [.int (ar j)]) (T := TX3) (N := 8) (C := RX3) (ci := 3) (n := 1) 0 (push l_ E m ma ml ms mp mt h an em st (ar j) (by omega)) (zGIV (fun _ => zTs_in) wk_371 wk_368 wk_369 wk_370 wk_18) rfl ⟨rfl, by decide, by decide, by decide +kernel⟩ rfl rfl rfl rfl (by decide) rfl rfl (Nat.le_of_ble_eq_true rfl) ⟨by decide, by decide⟩ rfl rfl ⟨by decide, by decide⟩ ⟨by decide, by decide⟩ dX3_move_72 rfl (fun w72 hB72 => ?_)
  obtain rfl := hB72
  refine z_perm [5, 0, 1, 6, 2, 3, 4] [(m, zo 3 [.ref ma, .ref ml, .ref ms, .int (nI (h + 1)), .int an, .ref mp, .int (nI em), .ref mt]), (ma, zi E 3 ar), (ml, zi E 4 lo), (ms, zi E 8 (upd st h (ar j))), (mp, zo 4 [.ref mpk, .ref mpv, .int (nI n)]), (mpk, zi E 600 f), (mpv, zi E 600 g)] (by decide) rfl ?_
  refine z_goto 173 C0 dX3_move_75 (by decide) ?_
  exact z_vret C0 rfl dX3_move_173 rfl (by decide) (by decide)

set_option maxHeartbeats 4000000 in
set_option maxRecDepth 100000 in
theorem move2 (l_ : Launch) (E : zE) (m : Nat) (ma : Nat) (ml : Nat) (ms : Nat) (mp : Nat) (mt : Nat) (h : Nat) (an : Int32) (em : Nat) (ar : Nat → Int32) (lo : Nat → Int32) (st : Nat → Int32) (mpk : Nat) (mpv : Nat) (f : Nat → Int32) (g : Nat → Int32) (n : Nat) (j : Nat) (hh8 : h ≤ 8) (hh : h < 8) (hj : j < 4) : zMv l_ E yX3_move (zTs yX3_move cX3_move 6 none) ({ frames := 2, cells := 0, slots := 0, locals := 44 } : Room) [.ref m, .int (nI 2), .int (nI j)] [(m, zo 3 [.ref ma, .ref ml, .ref ms, .int (nI h), .int an, .ref mp, .int (nI em), .ref mt]), (ma, zi E 3 ar), (ml, zi E 4 lo), (ms, zi E 8 st), (mp, zo 4 [.ref mpk, .ref mpv, .int (nI n)]), (mpk, zi E 600 f), (mpv, zi E 600 g)] (fun w_ => (w_ = [(m, zo 3 [.ref ma, .ref ml, .ref ms, .int (nI (h + 1)), .int an, .ref mp, .int (nI em), .ref mt]), (ma, zi E 3 ar), (ml, zi E 4 lo), (ms, zi E 8 (upd st h (lo j))), (mp, zo 4 [.ref mpk, .ref mpv, .int (nI n)]), (mpk, zi E 600 f), (mpv, zi E 600 g)])) 0 0 := by
  refine zMv.of (cc := cX3_move) (nL := 6) (ret := none) (by decide) rfl (Nat.le_of_ble_eq_true rfl) ?_
  intro p_ e_ s_ m_ args_ below_ meth_ c_ A_ C0 hin0
  have C0 : zC E p_ s_ m_ args_ meth_ c_ cX3_move 6 none RX3 (zTs yX3_move cX3_move 6 none) A_ := C0
  refine z_eqL (L1 := [(0, .ref m), (1, .int (nI 2)), (2, .int (nI j))]) rfl ?_
  refine z_iload_n 1 C0 1 dX3_move_0 rfl rfl rfl ?_
  refine z_switch 78 C0 dX3_move_1 (by decide) (by decide) rfl (by decide) ?_
  refine z_aload_n 79 C0 0 dX3_move_78 rfl rfl rfl ?_
  refine z_iload_n 80 C0 2 dX3_move_79 rfl rfl rfl ?_
  refine z_if_ltN 83 C0 97 (by omega) dX3_move_80 rfl (by decide) ?_
  refine z_iload_n 84 C0 2 dX3_move_83 rfl rfl rfl ?_
  refine z_iconst 85 C0 (v := (nI 4)) dX3_move_84 rfl rfl ?_
  refine z_icmp_geN 88 97 C0 (by omega) (by decide) dX3_move_85 rfl (by decide) (fun k85 => absurd k85 (by omega)) (fun k85 => ?_)
  refine z_aload_n 89 C0 0 dX3_move_88 rfl rfl rfl ?_
  refine z_get 92 C0 0 1 wz_3 rfl (by decide) (zTs_in wk_120) dX3_move_89 rfl rfl rfl ?_
  refine z_iload_n 93 C0 2 dX3_move_92 rfl rfl rfl ?_
  refine z_ialdN 94 C0 2 (v := (lo j)) dX3_move_93 rfl rfl (by omega) (by decide) rfl ?_
  refine z_goto 98 C0 dX3_move_94 (by decide) ?_
  refine z_callVv 101 C0 [0, 3] [1, 2, 4, 5, 6] [(ma, zi E 3 ar), (ml, zi E 4 lo), (mp, zo 4 [.ref mpk, .ref mpv, .int (nI n)]), (mpk, zi E 600 f), (mpv, zi E 600 g)] 0 0 (As := [.int (lo j)]) (T := TX3) (N := 8) (C := RX3) (ci := 3) (n := 1) 0 (push l_ E m ma ml ms mp mt h an em st (lo j) (by omega)) (zGIV (fun _ => zTs_in) wk_371 wk_368 wk_369 wk_370 wk_18) rfl ⟨rfl, by decide, by decide, by decide +kernel⟩ rfl rfl rfl rfl (by decide) rfl rfl (Nat.le_of_ble_eq_true rfl) ⟨by decide, by decide⟩ rfl rfl ⟨by decide, by decide⟩ ⟨by decide, by decide⟩ dX3_move_98 rfl (fun w98 hB98 => ?_)
  obtain rfl := hB98
  refine z_perm [5, 0, 1, 6, 2, 3, 4] [(m, zo 3 [.ref ma, .ref ml, .ref ms, .int (nI (h + 1)), .int an, .ref mp, .int (nI em), .ref mt]), (ma, zi E 3 ar), (ml, zi E 4 lo), (ms, zi E 8 (upd st h (lo j))), (mp, zo 4 [.ref mpk, .ref mpv, .int (nI n)]), (mpk, zi E 600 f), (mpv, zi E 600 g)] (by decide) rfl ?_
  refine z_goto 173 C0 dX3_move_101 (by decide) ?_
  exact z_vret C0 rfl dX3_move_173 rfl (by decide) (by decide)

set_option maxHeartbeats 4000000 in
set_option maxRecDepth 100000 in
theorem move3 (l_ : Launch) (E : zE) (m : Nat) (ma : Nat) (ml : Nat) (ms : Nat) (mp : Nat) (mt : Nat) (h : Nat) (an : Int32) (em : Nat) (ar : Nat → Int32) (lo : Nat → Int32) (st : Nat → Int32) (mpk : Nat) (mpv : Nat) (f : Nat → Int32) (g : Nat → Int32) (n : Nat) (j : Nat) (hh8 : h ≤ 8) (hh : 1 ≤ h) (hj : j < 4) : zMv l_ E yX3_move (zTs yX3_move cX3_move 6 none) ({ frames := 2, cells := 0, slots := 0, locals := 44 } : Room) [.ref m, .int (nI 3), .int (nI j)] [(m, zo 3 [.ref ma, .ref ml, .ref ms, .int (nI h), .int an, .ref mp, .int (nI em), .ref mt]), (ma, zi E 3 ar), (ml, zi E 4 lo), (ms, zi E 8 st), (mp, zo 4 [.ref mpk, .ref mpv, .int (nI n)]), (mpk, zi E 600 f), (mpv, zi E 600 g)] (fun w_ => (w_ = [(m, zo 3 [.ref ma, .ref ml, .ref ms, .int (nI (h - 1)), .int an, .ref mp, .int (nI em), .ref mt]), (ma, zi E 3 ar), (ml, zi E 4 (upd lo j (st (h - 1)))), (ms, zi E 8 st), (mp, zo 4 [.ref mpk, .ref mpv, .int (nI n)]), (mpk, zi E 600 f), (mpv, zi E 600 g)])) 0 0 := by
  refine zMv.of (cc := cX3_move) (nL := 6) (ret := none) (by decide) rfl (Nat.le_of_ble_eq_true rfl) ?_
  intro p_ e_ s_ m_ args_ below_ meth_ c_ A_ C0 hin0
  have C0 : zC E p_ s_ m_ args_ meth_ c_ cX3_move 6 none RX3 (zTs yX3_move cX3_move 6 none) A_ := C0
  refine z_eqL (L1 := [(0, .ref m), (1, .int (nI 3)), (2, .int (nI j))]) rfl ?_
  refine z_iload_n 1 C0 1 dX3_move_0 rfl rfl rfl ?_
  refine z_switch 104 C0 dX3_move_1 (by decide) (by decide) rfl (by decide) ?_
  refine z_aload_n 105 C0 0 dX3_move_104 rfl rfl rfl ?_
  refine z_iload_n 106 C0 2 dX3_move_105 rfl rfl rfl ?_
  refine z_aload_n 107 C0 0 dX3_move_106 rfl rfl rfl ?_
  refine z_callVi 110 C0 [0, 3] [1, 2, 4, 5, 6] [(ma, zi E 3 ar), (ml, zi E 4 lo), (mp, zo 4 [.ref mpk, .ref mpv, .int (nI n)]), (mpk, zi E 600 f), (mpv, zi E 600 g)] 0 0 (As := []) (T := TX3) (N := 8) (C := RX3) (ci := 3) (n := 0) 0 (pop l_ E m ma ml ms mp mt h an em st (by omega)) (zGIV (fun _ => zTs_in) wk_352 wk_349 wk_350 wk_351 wk_18) rfl ⟨rfl, by decide, by decide, by decide +kernel⟩ rfl rfl rfl rfl (by decide) rfl rfl (Nat.le_of_ble_eq_true rfl) ⟨by decide, by decide⟩ rfl rfl ⟨by decide, by decide⟩ ⟨by decide, by decide⟩ dX3_move_107 rfl (fun r107 w107 hB107 => ?_)
  obtain ⟨rfl, rfl⟩ := hB107
  refine z_perm [5, 0, 1, 6, 2, 3, 4] [(m, zo 3 [.ref ma, .ref ml, .ref ms, .int (nI (h - 1)), .int an, .ref mp, .int (nI em), .ref mt]), (ma, zi E 3 ar), (ml, zi E 4 lo), (ms, zi E 8 st), (mp, zo 4 [.ref mpk, .ref mpv, .int (nI n)]), (mpk, zi E 600 f), (mpv, zi E 600 g)] (by decide) rfl ?_
  refine z_callVv 113 C0 [0, 2] [1, 3, 4, 5, 6] [(ma, zi E 3 ar), (ms, zi E 8 st), (mp, zo 4 [.ref mpk, .ref mpv, .int (nI n)]), (mpk, zi E 600 f), (mpv, zi E 600 g)] 0 0 (As := [.int (nI j), .int (popV h st)]) (T := TX3) (N := 8) (C := RX3) (ci := 3) (n := 2) 0 (store l_ E m ma ml ms mp mt (h - 1) an em lo j (popV h st) (by omega)) (zGIV (fun _ => zTs_in) wk_379 wk_376 wk_377 wk_378 wk_18) rfl ⟨rfl, by decide, by decide, by decide +kernel⟩ rfl rfl rfl rfl (by decide) rfl rfl (Nat.le_of_ble_eq_true rfl) ⟨by decide, by decide⟩ rfl rfl ⟨by decide, by decide⟩ ⟨by decide, by decide⟩ dX3_move_110 rfl (fun w110 hB110 => ?_)
  obtain rfl := hB110
  refine z_perm [5, 0, 6, 1, 2, 3, 4] [(m, zo 3 [.ref ma, .ref ml, .ref ms, .int (nI (h - 1)), .int an, .ref mp, .int (nI em), .ref mt]), (ma, zi E 3 ar), (ml, zi E 4 (upd lo j (popV h st))), (ms, zi E 8 st), (mp, zo 4 [.ref mpk, .ref mpv, .int (nI n)]), (mpk, zi E 600 f), (mpv, zi E 600 g)] (by decide) rfl ?_
  refine z_goto 173 C0 dX3_move_113 (by decide) ?_
  exact z_vret C0 rfl dX3_move_173 (by rw [popV_s (by omega)]) (by decide) (by decide)

set_option maxHeartbeats 4000000 in
set_option maxRecDepth 100000 in
theorem move4 (l_ : Launch) (E : zE) (m : Nat) (ma : Nat) (ml : Nat) (ms : Nat) (mp : Nat) (mt : Nat) (h : Nat) (an : Int32) (em : Nat) (ar : Nat → Int32) (lo : Nat → Int32) (st : Nat → Int32) (mpk : Nat) (mpv : Nat) (f : Nat → Int32) (g : Nat → Int32) (n : Nat) (nv : Int32) (hh8 : h ≤ 8) (hh : 1 ≤ h) (hh2 : h < 8) : zMv l_ E yX3_move (zTs yX3_move cX3_move 6 none) ({ frames := 2, cells := 0, slots := 0, locals := 44 } : Room) [.ref m, .int (nI 4), .int nv] [(m, zo 3 [.ref ma, .ref ml, .ref ms, .int (nI h), .int an, .ref mp, .int (nI em), .ref mt]), (ma, zi E 3 ar), (ml, zi E 4 lo), (ms, zi E 8 st), (mp, zo 4 [.ref mpk, .ref mpv, .int (nI n)]), (mpk, zi E 600 f), (mpv, zi E 600 g)] (fun w_ => (w_ = [(m, zo 3 [.ref ma, .ref ml, .ref ms, .int (nI (h + 1)), .int an, .ref mp, .int (nI em), .ref mt]), (ma, zi E 3 ar), (ml, zi E 4 lo), (ms, zi E 8 (upd st h (st (h - 1)))), (mp, zo 4 [.ref mpk, .ref mpv, .int (nI n)]), (mpk, zi E 600 f), (mpv, zi E 600 g)])) 0 0 := by
  refine zMv.of (cc := cX3_move) (nL := 6) (ret := none) (by decide) rfl (Nat.le_of_ble_eq_true rfl) ?_
  intro p_ e_ s_ m_ args_ below_ meth_ c_ A_ C0 hin0
  have C0 : zC E p_ s_ m_ args_ meth_ c_ cX3_move 6 none RX3 (zTs yX3_move cX3_move 6 none) A_ := C0
  refine z_eqL (L1 := [(0, .ref m), (1, .int (nI 4)), (2, .int nv)]) rfl ?_
  refine z_iload_n 1 C0 1 dX3_move_0 rfl rfl rfl ?_
  refine z_switch 116 C0 dX3_move_1 (by decide) (by decide) rfl (by decide) ?_
  refine z_aload_n 117 C0 0 dX3_move_116 rfl rfl rfl ?_
  refine z_callVi 120 C0 [0, 3] [1, 2, 4, 5, 6] [(ma, zi E 3 ar), (ml, zi E 4 lo), (mp, zo 4 [.ref mpk, .ref mpv, .int (nI n)]), (mpk, zi E 600 f), (mpv, zi E 600 g)] 0 0 (As := []) (T := TX3) (N := 8) (C := RX3) (ci := 3) (n := 0) 0 (pop l_ E m ma ml ms mp mt h an em st (by omega)) (zGIV (fun _ => zTs_in) wk_352 wk_349 wk_350 wk_351 wk_18) rfl ⟨rfl, by decide, by decide, by decide +kernel⟩ rfl rfl rfl rfl (by decide) rfl rfl (Nat.le_of_ble_eq_true rfl) ⟨by decide, by decide⟩ rfl rfl ⟨by decide, by decide⟩ ⟨by decide, by decide⟩ dX3_move_117 rfl (fun r117 w117 hB117 => ?_)
  obtain ⟨rfl, rfl⟩ := hB117
  refine z_perm [5, 0, 1, 6, 2, 3, 4] [(m, zo 3 [.ref ma, .ref ml, .ref ms, .int (nI (h - 1)), .int an, .ref mp, .int (nI em), .ref mt]), (ma, zi E 3 ar), (ml, zi E 4 lo), (ms, zi E 8 st), (mp, zo 4 [.ref mpk, .ref mpv, .int (nI n)]), (mpk, zi E 600 f), (mpv, zi E 600 g)] (by decide) rfl ?_
  refine z_istore_n 121 C0 [1, 2, 3, 0] [(0, .ref m), (1, .int (nI 4)), (2, .int nv), (3, .int (popV h st))] dX3_move_120 rfl rfl (by decide) rfl ?_
  refine z_aload_n 122 C0 0 dX3_move_121 rfl rfl rfl ?_
  refine z_iload_n 123 C0 3 dX3_move_122 rfl rfl rfl ?_
  refine z_callVv 126 C0 [0, 3] [1, 2, 4, 5, 6] [(ma, zi E 3 ar), (ml, zi E 4 lo), (mp, zo 4 [.ref mpk, .ref mpv, .int (nI n)]), (mpk, zi E 600 f), (mpv, zi E 600 g)] 0 0 (As := [.int (popV h st)]) (T := TX3) (N := 8) (C := RX3) (ci := 3) (n := 1) 0 (push l_ E m ma ml ms mp mt (h - 1) an em st (popV h st) (by omega)) (zGIV (fun _ => zTs_in) wk_371 wk_368 wk_369 wk_370 wk_18) rfl ⟨rfl, by decide, by decide, by decide +kernel⟩ rfl rfl rfl rfl (by decide) rfl rfl (Nat.le_of_ble_eq_true rfl) ⟨by decide, by decide⟩ rfl rfl ⟨by decide, by decide⟩ ⟨by decide, by decide⟩ dX3_move_123 rfl (fun w123 hB123 => ?_)
  obtain rfl := hB123
  refine z_perm [5, 0, 1, 6, 2, 3, 4] [(m, zo 3 [.ref ma, .ref ml, .ref ms, .int (nI ((h - 1) + 1)), .int an, .ref mp, .int (nI em), .ref mt]), (ma, zi E 3 ar), (ml, zi E 4 lo), (ms, zi E 8 (upd st (h - 1) (popV h st))), (mp, zo 4 [.ref mpk, .ref mpv, .int (nI n)]), (mpk, zi E 600 f), (mpv, zi E 600 g)] (by decide) rfl ?_
  refine z_aload_n 127 C0 0 dX3_move_126 rfl rfl rfl ?_
  refine z_iload_n 128 C0 3 dX3_move_127 rfl rfl rfl ?_
  refine z_callVv 131 C0 [0, 3] [1, 2, 4, 5, 6] [(ma, zi E 3 ar), (ml, zi E 4 lo), (mp, zo 4 [.ref mpk, .ref mpv, .int (nI n)]), (mpk, zi E 600 f), (mpv, zi E 600 g)] 0 0 (As := [.int (popV h st)]) (T := TX3) (N := 8) (C := RX3) (ci := 3) (n := 1) 0 (push l_ E m ma ml ms mp mt ((h - 1) + 1) an em (upd st (h - 1) (popV h st)) (popV h st) (by omega)) (zGIV (fun _ => zTs_in) wk_371 wk_368 wk_369 wk_370 wk_18) rfl ⟨rfl, by decide, by decide, by decide +kernel⟩ rfl rfl rfl rfl (by decide) rfl rfl (Nat.le_of_ble_eq_true rfl) ⟨by decide, by decide⟩ rfl rfl ⟨by decide, by decide⟩ ⟨by decide, by decide⟩ dX3_move_128 rfl (fun w128 hB128 => ?_)
  obtain rfl := hB128
  refine z_perm [5, 0, 1, 6, 2, 3, 4] [(m, zo 3 [.ref ma, .ref ml, .ref ms, .int (nI (((h - 1) + 1) + 1)), .int an, .ref mp, .int (nI em), .ref mt]), (ma, zi E 3 ar), (ml, zi E 4 lo), (ms, zi E 8 (upd (upd st (h - 1) (popV h st)) ((h - 1) + 1) (popV h st))), (mp, zo 4 [.ref mpk, .ref mpv, .int (nI n)]), (mpk, zi E 600 f), (mpv, zi E 600 g)] (by decide) rfl ?_
  refine z_goto 173 C0 dX3_move_131 (by decide) ?_
  exact z_vret C0 rfl dX3_move_173 (by rw [popV_s (by omega), upd_self, show h - 1 + 1 = h by omega]) (by decide) (by decide)

set_option maxHeartbeats 4000000 in
set_option maxRecDepth 100000 in
theorem move5 (l_ : Launch) (E : zE) (m : Nat) (ma : Nat) (ml : Nat) (ms : Nat) (mp : Nat) (mt : Nat) (h : Nat) (an : Int32) (em : Nat) (ar : Nat → Int32) (lo : Nat → Int32) (st : Nat → Int32) (mpk : Nat) (mpv : Nat) (f : Nat → Int32) (g : Nat → Int32) (n : Nat) (nv : Int32) (hh8 : h ≤ 8) (hh : 2 ≤ h) : zMv l_ E yX3_move (zTs yX3_move cX3_move 6 none) ({ frames := 2, cells := 0, slots := 0, locals := 44 } : Room) [.ref m, .int (nI 5), .int nv] [(m, zo 3 [.ref ma, .ref ml, .ref ms, .int (nI h), .int an, .ref mp, .int (nI em), .ref mt]), (ma, zi E 3 ar), (ml, zi E 4 lo), (ms, zi E 8 st), (mp, zo 4 [.ref mpk, .ref mpv, .int (nI n)]), (mpk, zi E 600 f), (mpv, zi E 600 g)] (fun w_ => (w_ = [(m, zo 3 [.ref ma, .ref ml, .ref ms, .int (nI h), .int an, .ref mp, .int (nI em), .ref mt]), (ma, zi E 3 ar), (ml, zi E 4 lo), (ms, zi E 8 (upd (upd st (h - 2) (st (h - 1))) (h - 1) (st (h - 2)))), (mp, zo 4 [.ref mpk, .ref mpv, .int (nI n)]), (mpk, zi E 600 f), (mpv, zi E 600 g)])) 0 0 := by
  refine zMv.of (cc := cX3_move) (nL := 6) (ret := none) (by decide) rfl (Nat.le_of_ble_eq_true rfl) ?_
  intro p_ e_ s_ m_ args_ below_ meth_ c_ A_ C0 hin0
  have C0 : zC E p_ s_ m_ args_ meth_ c_ cX3_move 6 none RX3 (zTs yX3_move cX3_move 6 none) A_ := C0
  refine z_eqL (L1 := [(0, .ref m), (1, .int (nI 5)), (2, .int nv)]) rfl ?_
  refine z_iload_n 1 C0 1 dX3_move_0 rfl rfl rfl ?_
  refine z_switch 134 C0 dX3_move_1 (by decide) (by decide) rfl (by decide) ?_
  refine z_aload_n 135 C0 0 dX3_move_134 rfl rfl rfl ?_
  refine z_callVi 138 C0 [0, 3] [1, 2, 4, 5, 6] [(ma, zi E 3 ar), (ml, zi E 4 lo), (mp, zo 4 [.ref mpk, .ref mpv, .int (nI n)]), (mpk, zi E 600 f), (mpv, zi E 600 g)] 0 0 (As := []) (T := TX3) (N := 8) (C := RX3) (ci := 3) (n := 0) 0 (pop l_ E m ma ml ms mp mt h an em st (by omega)) (zGIV (fun _ => zTs_in) wk_352 wk_349 wk_350 wk_351 wk_18) rfl ⟨rfl, by decide, by decide, by decide +kernel⟩ rfl rfl rfl rfl (by decide) rfl rfl (Nat.le_of_ble_eq_true rfl) ⟨by decide, by decide⟩ rfl rfl ⟨by decide, by decide⟩ ⟨by decide, by decide⟩ dX3_move_135 rfl (fun r135 w135 hB135 => ?_)
  obtain ⟨rfl, rfl⟩ := hB135
  refine z_perm [5, 0, 1, 6, 2, 3, 4] [(m, zo 3 [.ref ma, .ref ml, .ref ms, .int (nI (h - 1)), .int an, .ref mp, .int (nI em), .ref mt]), (ma, zi E 3 ar), (ml, zi E 4 lo), (ms, zi E 8 st), (mp, zo 4 [.ref mpk, .ref mpv, .int (nI n)]), (mpk, zi E 600 f), (mpv, zi E 600 g)] (by decide) rfl ?_
  refine z_istore 140 C0 [1, 2, 3, 0] [(0, .ref m), (1, .int (nI 5)), (2, .int nv), (4, .int (popV h st))] dX3_move_138 rfl (by decide) rfl ?_
  refine z_aload_n 141 C0 0 dX3_move_140 rfl rfl rfl ?_
  refine z_callVi 144 C0 [0, 3] [1, 2, 4, 5, 6] [(ma, zi E 3 ar), (ml, zi E 4 lo), (mp, zo 4 [.ref mpk, .ref mpv, .int (nI n)]), (mpk, zi E 600 f), (mpv, zi E 600 g)] 0 0 (As := []) (T := TX3) (N := 8) (C := RX3) (ci := 3) (n := 0) 0 (pop l_ E m ma ml ms mp mt (h - 1) an em st (by omega)) (zGIV (fun _ => zTs_in) wk_352 wk_349 wk_350 wk_351 wk_18) rfl ⟨rfl, by decide, by decide, by decide +kernel⟩ rfl rfl rfl rfl (by decide) rfl rfl (Nat.le_of_ble_eq_true rfl) ⟨by decide, by decide⟩ rfl rfl ⟨by decide, by decide⟩ ⟨by decide, by decide⟩ dX3_move_141 rfl (fun r141 w141 hB141 => ?_)
  obtain ⟨rfl, rfl⟩ := hB141
  refine z_perm [5, 0, 1, 6, 2, 3, 4] [(m, zo 3 [.ref ma, .ref ml, .ref ms, .int (nI ((h - 1) - 1)), .int an, .ref mp, .int (nI em), .ref mt]), (ma, zi E 3 ar), (ml, zi E 4 lo), (ms, zi E 8 st), (mp, zo 4 [.ref mpk, .ref mpv, .int (nI n)]), (mpk, zi E 600 f), (mpv, zi E 600 g)] (by decide) rfl ?_
  refine z_istore 146 C0 [1, 2, 3, 4, 0] [(0, .ref m), (1, .int (nI 5)), (2, .int nv), (4, .int (popV h st)), (5, .int (popV (h - 1) st))] dX3_move_144 rfl (by decide) rfl ?_
  refine z_aload_n 147 C0 0 dX3_move_146 rfl rfl rfl ?_
  refine z_iload 149 C0 3 dX3_move_147 rfl rfl ?_
  refine z_callVv 152 C0 [0, 3] [1, 2, 4, 5, 6] [(ma, zi E 3 ar), (ml, zi E 4 lo), (mp, zo 4 [.ref mpk, .ref mpv, .int (nI n)]), (mpk, zi E 600 f), (mpv, zi E 600 g)] 0 0 (As := [.int (popV h st)]) (T := TX3) (N := 8) (C := RX3) (ci := 3) (n := 1) 0 (push l_ E m ma ml ms mp mt ((h - 1) - 1) an em st (popV h st) (by omega)) (zGIV (fun _ => zTs_in) wk_371 wk_368 wk_369 wk_370 wk_18) rfl ⟨rfl, by decide, by decide, by decide +kernel⟩ rfl rfl rfl rfl (by decide) rfl rfl (Nat.le_of_ble_eq_true rfl) ⟨by decide, by decide⟩ rfl rfl ⟨by decide, by decide⟩ ⟨by decide, by decide⟩ dX3_move_149 rfl (fun w149 hB149 => ?_)
  obtain rfl := hB149
  refine z_perm [5, 0, 1, 6, 2, 3, 4] [(m, zo 3 [.ref ma, .ref ml, .ref ms, .int (nI (((h - 1) - 1) + 1)), .int an, .ref mp, .int (nI em), .ref mt]), (ma, zi E 3 ar), (ml, zi E 4 lo), (ms, zi E 8 (upd st ((h - 1) - 1) (popV h st))), (mp, zo 4 [.ref mpk, .ref mpv, .int (nI n)]), (mpk, zi E 600 f), (mpv, zi E 600 g)] (by decide) rfl ?_
  refine z_aload_n 153 C0 0 dX3_move_152 rfl rfl rfl ?_
  refine z_iload 155 C0 4 dX3_move_153 rfl rfl ?_
  refine z_callVv 158 C0 [0, 3] [1, 2, 4, 5, 6] [(ma, zi E 3 ar), (ml, zi E 4 lo), (mp, zo 4 [.ref mpk, .ref mpv, .int (nI n)]), (mpk, zi E 600 f), (mpv, zi E 600 g)] 0 0 (As := [.int (popV (h - 1) st)]) (T := TX3) (N := 8) (C := RX3) (ci := 3) (n := 1) 0 (push l_ E m ma ml ms mp mt (((h - 1) - 1) + 1) an em (upd st ((h - 1) - 1) (popV h st)) (popV (h - 1) st) (by omega)) (zGIV (fun _ => zTs_in) wk_371 wk_368 wk_369 wk_370 wk_18) rfl ⟨rfl, by decide, by decide, by decide +kernel⟩ rfl rfl rfl rfl (by decide) rfl rfl (Nat.le_of_ble_eq_true rfl) ⟨by decide, by decide⟩ rfl rfl ⟨by decide, by decide⟩ ⟨by decide, by decide⟩ dX3_move_155 rfl (fun w155 hB155 => ?_)
  obtain rfl := hB155
  refine z_perm [5, 0, 1, 6, 2, 3, 4] [(m, zo 3 [.ref ma, .ref ml, .ref ms, .int (nI ((((h - 1) - 1) + 1) + 1)), .int an, .ref mp, .int (nI em), .ref mt]), (ma, zi E 3 ar), (ml, zi E 4 lo), (ms, zi E 8 (upd (upd st ((h - 1) - 1) (popV h st)) (((h - 1) - 1) + 1) (popV (h - 1) st))), (mp, zo 4 [.ref mpk, .ref mpv, .int (nI n)]), (mpk, zi E 600 f), (mpv, zi E 600 g)] (by decide) rfl ?_
  refine z_goto 173 C0 dX3_move_158 (by decide) ?_
  exact z_vret C0 rfl dX3_move_173 (by rw [popV_s (by omega), popV_s (by omega), show h - 1 - 1 = h - 2 by omega, show h - 2 + 1 = h - 1 by omega, show h - 1 + 1 = h by omega]) (by decide) (by decide)

set_option maxHeartbeats 4000000 in
set_option maxRecDepth 100000 in
theorem move6 (l_ : Launch) (E : zE) (m : Nat) (ma : Nat) (ml : Nat) (ms : Nat) (mp : Nat) (mt : Nat) (h : Nat) (an : Int32) (em : Nat) (ar : Nat → Int32) (lo : Nat → Int32) (st : Nat → Int32) (mpk : Nat) (mpv : Nat) (f : Nat → Int32) (g : Nat → Int32) (n : Nat) (nv : Int32) (hh8 : h ≤ 8) (hh : 1 ≤ h) : zMv l_ E yX3_move (zTs yX3_move cX3_move 6 none) ({ frames := 2, cells := 0, slots := 0, locals := 44 } : Room) [.ref m, .int (nI 6), .int nv] [(m, zo 3 [.ref ma, .ref ml, .ref ms, .int (nI h), .int an, .ref mp, .int (nI em), .ref mt]), (ma, zi E 3 ar), (ml, zi E 4 lo), (ms, zi E 8 st), (mp, zo 4 [.ref mpk, .ref mpv, .int (nI n)]), (mpk, zi E 600 f), (mpv, zi E 600 g)] (fun w_ => (w_ = [(m, zo 3 [.ref ma, .ref ml, .ref ms, .int (nI (h - 1)), .int an, .ref mp, .int (nI em), .ref mt]), (ma, zi E 3 ar), (ml, zi E 4 lo), (ms, zi E 8 st), (mp, zo 4 [.ref mpk, .ref mpv, .int (nI n)]), (mpk, zi E 600 f), (mpv, zi E 600 g)])) 0 0 := by
  refine zMv.of (cc := cX3_move) (nL := 6) (ret := none) (by decide) rfl (Nat.le_of_ble_eq_true rfl) ?_
  intro p_ e_ s_ m_ args_ below_ meth_ c_ A_ C0 hin0
  have C0 : zC E p_ s_ m_ args_ meth_ c_ cX3_move 6 none RX3 (zTs yX3_move cX3_move 6 none) A_ := C0
  refine z_eqL (L1 := [(0, .ref m), (1, .int (nI 6)), (2, .int nv)]) rfl ?_
  refine z_iload_n 1 C0 1 dX3_move_0 rfl rfl rfl ?_
  refine z_switch 161 C0 dX3_move_1 (by decide) (by decide) rfl (by decide) ?_
  refine z_aload_n 162 C0 0 dX3_move_161 rfl rfl rfl ?_
  refine z_callVi 165 C0 [0, 3] [1, 2, 4, 5, 6] [(ma, zi E 3 ar), (ml, zi E 4 lo), (mp, zo 4 [.ref mpk, .ref mpv, .int (nI n)]), (mpk, zi E 600 f), (mpv, zi E 600 g)] 0 0 (As := []) (T := TX3) (N := 8) (C := RX3) (ci := 3) (n := 0) 0 (pop l_ E m ma ml ms mp mt h an em st (by omega)) (zGIV (fun _ => zTs_in) wk_352 wk_349 wk_350 wk_351 wk_18) rfl ⟨rfl, by decide, by decide, by decide +kernel⟩ rfl rfl rfl rfl (by decide) rfl rfl (Nat.le_of_ble_eq_true rfl) ⟨by decide, by decide⟩ rfl rfl ⟨by decide, by decide⟩ ⟨by decide, by decide⟩ dX3_move_162 rfl (fun r162 w162 hB162 => ?_)
  obtain ⟨rfl, rfl⟩ := hB162
  refine z_perm [5, 0, 1, 6, 2, 3, 4] [(m, zo 3 [.ref ma, .ref ml, .ref ms, .int (nI (h - 1)), .int an, .ref mp, .int (nI em), .ref mt]), (ma, zi E 3 ar), (ml, zi E 4 lo), (ms, zi E 8 st), (mp, zo 4 [.ref mpk, .ref mpv, .int (nI n)]), (mpk, zi E 600 f), (mpv, zi E 600 g)] (by decide) rfl ?_
  refine z_pop 166 C0 dX3_move_165 rfl rfl ?_
  refine z_goto 173 C0 dX3_move_166 (by decide) ?_
  exact z_vret C0 rfl dX3_move_173 rfl (by decide) (by decide)

set_option maxHeartbeats 4000000 in
set_option maxRecDepth 100000 in
theorem move16 (l_ : Launch) (E : zE) (m : Nat) (ma : Nat) (ml : Nat) (ms : Nat) (mp : Nat) (mt : Nat) (h : Nat) (an : Int32) (em : Nat) (ar : Nat → Int32) (lo : Nat → Int32) (st : Nat → Int32) (mpk : Nat) (mpv : Nat) (f : Nat → Int32) (g : Nat → Int32) (n : Nat) (nv : Int32) (hh8 : h ≤ 8) (hh : 2 ≤ h) (hn : n ≤ 600) (hem : em < 2147483647) : zMv l_ E yX3_move (zTs yX3_move cX3_move 6 none) ({ frames := 2, cells := 0, slots := 0, locals := 44 } : Room) [.ref m, .int (nI 16), .int nv] [(m, zo 3 [.ref ma, .ref ml, .ref ms, .int (nI h), .int an, .ref mp, .int (nI em), .ref mt]), (ma, zi E 3 ar), (ml, zi E 4 lo), (ms, zi E 8 st), (mp, zo 4 [.ref mpk, .ref mpv, .int (nI n)]), (mpk, zi E 600 f), (mpv, zi E 600 g)] (fun w_ => (w_ = [(m, zo 3 [.ref ma, .ref ml, .ref ms, .int (nI (h - 2)), .int an, .ref mp, .int (nI (em + 1)), .ref mt]), (ma, zi E 3 ar), (ml, zi E 4 lo), (ms, zi E 8 st), (mp, zo 4 [.ref mpk, .ref mpv, .int (nI (capN 600 n))]), (mpk, zi E 600 (capU 600 n f (st (h - 2)))), (mpv, zi E 600 (capU 600 n g (st (h - 1))))])) 0 0 := by
  refine zMv.of (cc := cX3_move) (nL := 6) (ret := none) (by decide) rfl (Nat.le_of_ble_eq_true rfl) ?_
  intro p_ e_ s_ m_ args_ below_ meth_ c_ A_ C0 hin0
  have C0 : zC E p_ s_ m_ args_ meth_ c_ cX3_move 6 none RX3 (zTs yX3_move cX3_move 6 none) A_ := C0
  refine z_eqL (L1 := [(0, .ref m), (1, .int (nI 16)), (2, .int nv)]) rfl ?_
  refine z_iload_n 1 C0 1 dX3_move_0 rfl rfl rfl ?_
  refine z_switchO 169 C0 dX3_move_1 (by decide) (by decide) ?_
  refine z_aload_n 170 C0 0 dX3_move_169 rfl rfl rfl ?_
  refine z_callVv 173 C0 [0, 3, 4, 5, 6] [1, 2] [(ma, zi E 3 ar), (ml, zi E 4 lo)] 0 0 (As := []) (T := TX3) (N := 8) (C := RX3) (ci := 3) (n := 0) 0 (emit_ l_ E m ma ml ms mp mt h an em st mpk mpv f g n (by omega) (by omega) (by omega) (by omega)) (zGIV (fun _ => zTs_in) wk_383 wk_380 wk_381 wk_382 wk_18) rfl ⟨rfl, by decide, by decide, by decide +kernel⟩ rfl rfl rfl rfl (by decide) rfl rfl (Nat.le_of_ble_eq_true rfl) ⟨by decide, by decide⟩ rfl rfl ⟨by decide, by decide⟩ ⟨by decide, by decide⟩ dX3_move_170 rfl (fun w170 hB170 => ?_)
  obtain rfl := hB170
  refine z_perm [2, 0, 1, 3, 4, 5, 6] [(m, zo 3 [.ref ma, .ref ml, .ref ms, .int (nI (h - 2)), .int an, .ref mp, .int (nI (em + 1)), .ref mt]), (ma, zi E 3 ar), (ml, zi E 4 lo), (ms, zi E 8 st), (mp, zo 4 [.ref mpk, .ref mpv, .int (nI (capN 600 n))]), (mpk, zi E 600 (capU 600 n f (st (h - 2)))), (mpv, zi E 600 (capU 600 n g (st (h - 1))))] (by decide) rfl ?_
  exact z_vret C0 rfl dX3_move_173 rfl (by decide) (by decide)
end
section
/-- a row with room for cap, behind whose first n come the pairs P -/
def rwN (cap n : Nat) (P : List (Int32 × Int32)) : Nat := if n + P.length ≤ cap then n + P.length else cap
def rwK (cap n : Nat) (f : Nat → Int32) (P : List (Int32 × Int32)) : Nat → Int32 := fun j => if n ≤ j ∧ j < cap ∧ j - n < P.length then (P.getD (j - n) (0, 0)).1 else f j
def rwV (cap n : Nat) (f : Nat → Int32) (P : List (Int32 × Int32)) : Nat → Int32 := fun j => if n ≤ j ∧ j < cap ∧ j - n < P.length then (P.getD (j - n) (0, 0)).2 else f j
theorem rwN_le {cap n : Nat} {P : List (Int32 × Int32)} (_ : n ≤ cap) : rwN cap n P ≤ cap := by unfold rwN; split <;> omega
theorem rwN_0 {cap n : Nat} (h : n ≤ cap) : rwN cap n [] = n := by unfold rwN; rw [if_pos (by simpa using h)]; rfl
theorem rwK_0 {cap n : Nat} {f : Nat → Int32} : rwK cap n f [] = f := by funext j; unfold rwK; rw [if_neg (fun q => absurd q.2.2 (Nat.not_lt_zero _))]
theorem rwV_0 {cap n : Nat} {f : Nat → Int32} : rwV cap n f [] = f := by funext j; unfold rwV; rw [if_neg (fun q => absurd q.2.2 (Nat.not_lt_zero _))]
theorem rwN_s {cap n : Nat} {P : List (Int32 × Int32)} {x : Int32 × Int32} (h : n ≤ cap) : rwN cap n (P ++ [x]) = capN cap (rwN cap n P) := by
  unfold rwN capN
  rw [List.length_append, List.length_singleton]
  split <;> split <;> split <;> omega
theorem getD_snoc {P : List (Int32 × Int32)} {x d : Int32 × Int32} {i : Nat} (h : i < P.length + 1) : (P ++ [x]).getD i d = if i < P.length then P.getD i d else x := by
  by_cases hi : i < P.length
  · rw [if_pos hi, List.getD_eq_getElem?_getD, List.getD_eq_getElem?_getD, List.getElem?_append_left hi]
  · rw [if_neg hi]
    have : i = P.length := by omega
    subst this
    simp
theorem rwK_s {cap n : Nat} {f : Nat → Int32} {P : List (Int32 × Int32)} {x : Int32 × Int32} (h : n ≤ cap) : rwK cap n f (P ++ [x]) = capU cap (rwN cap n P) (rwK cap n f P) x.1 := by
  funext j
  have hl : (P ++ [x]).length = P.length + 1 := by simp
  by_cases hc : n + P.length < cap
  · have hN : rwN cap n P = n + P.length := by unfold rwN; rw [if_pos (by omega)]
    rw [hN, capU_t hc]
    show rwK cap n f (P ++ [x]) j = if j = n + P.length then x.1 else rwK cap n f P j
    unfold rwK
    rw [hl]
    by_cases hj : j = n + P.length
    · rw [if_pos hj, if_pos ⟨by omega, by omega, by omega⟩, getD_snoc (by omega), if_neg (by omega)]
    · rw [if_neg hj]
      by_cases hin : n ≤ j ∧ j < cap ∧ j - n < P.length
      · rw [if_pos hin, if_pos ⟨hin.1, hin.2.1, by omega⟩, getD_snoc (by omega), if_pos hin.2.2]
      · rw [if_neg hin, if_neg (fun q => hin ⟨q.1, q.2.1, by omega⟩)]
  · have hN : rwN cap n P = cap := by unfold rwN; split <;> omega
    rw [hN, capU_f (Nat.le_refl cap)]
    unfold rwK
    rw [hl]
    by_cases hin : n ≤ j ∧ j < cap ∧ j - n < P.length
    · rw [if_pos hin, if_pos ⟨hin.1, hin.2.1, by omega⟩, getD_snoc (by omega), if_pos hin.2.2]
    · rw [if_neg hin, if_neg (fun q => hin ⟨q.1, q.2.1, by omega⟩)]
theorem rwV_s {cap n : Nat} {f : Nat → Int32} {P : List (Int32 × Int32)} {x : Int32 × Int32} (h : n ≤ cap) : rwV cap n f (P ++ [x]) = capU cap (rwN cap n P) (rwV cap n f P) x.2 := by
  funext j
  have hl : (P ++ [x]).length = P.length + 1 := by simp
  by_cases hc : n + P.length < cap
  · have hN : rwN cap n P = n + P.length := by unfold rwN; rw [if_pos (by omega)]
    rw [hN, capU_t hc]
    show rwV cap n f (P ++ [x]) j = if j = n + P.length then x.2 else rwV cap n f P j
    unfold rwV
    rw [hl]
    by_cases hj : j = n + P.length
    · rw [if_pos hj, if_pos ⟨by omega, by omega, by omega⟩, getD_snoc (by omega), if_neg (by omega)]
    · rw [if_neg hj]
      by_cases hin : n ≤ j ∧ j < cap ∧ j - n < P.length
      · rw [if_pos hin, if_pos ⟨hin.1, hin.2.1, by omega⟩, getD_snoc (by omega), if_pos hin.2.2]
      · rw [if_neg hin, if_neg (fun q => hin ⟨q.1, q.2.1, by omega⟩)]
  · have hN : rwN cap n P = cap := by unfold rwN; split <;> omega
    rw [hN, capU_f (Nat.le_refl cap)]
    unfold rwV
    rw [hl]
    by_cases hin : n ≤ j ∧ j < cap ∧ j - n < P.length
    · rw [if_pos hin, if_pos ⟨hin.1, hin.2.1, by omega⟩, getD_snoc (by omega), if_pos hin.2.2]
    · rw [if_neg hin, if_neg (fun q => hin ⟨q.1, q.2.1, by omega⟩)]
theorem argV_at (a b d : Int32) (ar : Nat → Int32) (j : Nat) (hj : j < 3) : upd (upd (upd ar 0 a) 1 b) 2 d j = argV a b d j := by
  rcases (show j = 0 ∨ j = 1 ∨ j = 2 by omega) with rfl | rfl | rfl <;> simp [upd, argV]
/-- the steps of all calls that have not failed, by kind -/
def stpU (stp : Nat → Nat) (kd : Nat) (R : aT) : Nat → Nat := if R.1 = 0 then stp else va_up stp kd (stp kd + R.2.2.1)
set_option maxHeartbeats 4000000 in
set_option maxRecDepth 100000 in
theorem call (l_ : Launch) (E : zE) (m : Nat) (ma : Nat) (ml : Nat) (ms : Nat) (mp : Nat) (mt : Nat) (h : Nat) (an : Int32) (em : Nat) (ar : Nat → Int32) (lo : Nat → Int32) (st : Nat → Int32) (mpk : Nat) (mpv : Nat) (f : Nat → Int32) (g : Nat → Int32) (n : Nat) (stp : Nat → Nat) (p : Nat) (po : Nat) (pn : Nat) (kd : Nat) (op : Nat → Int32) (nn : Nat → Int32) (len : Nat) (a : Int32) (b : Int32) (d : Int32) (hG : Good kd op nn len) (hkd : kd < 4) (hlen : len ≤ 64) (hn : n ≤ 600) : zMi l_ E yX3_call (zTs yX3_call cX3_call 9 (some .int)) ({ frames := 3, cells := 0, slots := 0, locals := 69 } : Room) [.ref m, .ref p, .int a, .int b, .int d] [(m, zo 3 [.ref ma, .ref ml, .ref ms, .int (nI h), .int an, .ref mp, .int (nI em), .ref mt]), (ma, zi E 3 ar), (ml, zi E 4 lo), (ms, zi E 8 st), (mp, zo 4 [.ref mpk, .ref mpv, .int (nI n)]), (mpk, zi E 600 f), (mpv, zi E 600 g), (mt, zi E 4 (zn stp)), (p, zo 5 [.int (nI kd), .ref po, .ref pn, .int (nI len)]), (po, zi E 64 op), (pn, zi E 64 nn)] (fun r_ w_ => ∃ h2 : Nat, ∃ an2 : Int32, ∃ ar2 : Nat → Int32, ∃ lo2 : Nat → Int32, ∃ st2 : Nat → Int32, (r_ = (nI ((callR op nn a b d).1)) ∧ w_ = [(m, zo 3 [.ref ma, .ref ml, .ref ms, .int (nI h2), .int an2, .ref mp, .int (nI ((callR op nn a b d).2.2.2.length)), .ref mt]), (ma, zi E 3 ar2), (ml, zi E 4 lo2), (ms, zi E 8 st2), (mp, zo 4 [.ref mpk, .ref mpv, .int (nI (rwN 600 n (callR op nn a b d).2.2.2))]), (mpk, zi E 600 (rwK 600 n f (callR op nn a b d).2.2.2)), (mpv, zi E 600 (rwV 600 n g (callR op nn a b d).2.2.2)), (mt, zi E 4 (zn (stpU stp kd (callR op nn a b d)))), (p, zo 5 [.int (nI kd), .ref po, .ref pn, .int (nI len)]), (po, zi E 64 op), (pn, zi E 64 nn)]) ∧ (h2 ≤ 8) ∧ ((callR op nn a b d).1 ≠ 0 → an2 = (callR op nn a b d).2.1)) 0 0 := by
  refine zMi.of (cc := cX3_call) (nL := 9) (ret := (some .int)) (by decide) rfl (Nat.le_of_ble_eq_true rfl) ?_
  intro p_ e_ s_ m_ args_ below_ meth_ c_ A_ C0 hin0
  have C0 : zC E p_ s_ m_ args_ meth_ c_ cX3_call 9 (some .int) RX3 (zTs yX3_call cX3_call 9 (some .int)) A_ := C0
  refine z_eqL (L1 := [(0, .ref m), (1, .ref p), (2, .int a), (3, .int b), (4, .int d)]) rfl ?_
  refine z_aload_n 1 C0 0 dX3_call_0 rfl rfl rfl ?_
  refine z_iload_n 2 C0 2 dX3_call_1 rfl rfl rfl ?_
  refine z_iload_n 3 C0 3 dX3_call_2 rfl rfl rfl ?_
  refine z_iload 5 C0 4 dX3_call_3 rfl rfl ?_
  refine z_callVv 8 C0 [0, 1, 2] [3, 4, 5, 6, 7, 8, 9, 10] [(ms, zi E 8 st), (mp, zo 4 [.ref mpk, .ref mpv, .int (nI n)]), (mpk, zi E 600 f), (mpv, zi E 600 g), (mt, zi E 4 (zn stp)), (p, zo 5 [.int (nI kd), .ref po, .ref pn, .int (nI len)]), (po, zi E 64 op), (pn, zi E 64 nn)] 0 0 (As := [.int a, .int b, .int d]) (T := TX3) (N := 8) (C := RX3) (ci := 3) (n := 3) 0 (begin l_ E m ma ml ms mp mt h an em ar lo a b d ) (zGIV (fun _ => zTs_in) wk_347 wk_344 wk_345 wk_346 wk_18) rfl ⟨rfl, by decide, by decide, by decide +kernel⟩ rfl rfl rfl rfl (by decide) rfl rfl (Nat.le_of_ble_eq_true rfl) ⟨by decide, by decide⟩ rfl rfl ⟨by decide, by decide⟩ ⟨by decide, by decide⟩ dX3_call_5 rfl (fun w5 hB5 => ?_)
  obtain rfl := hB5
  refine z_perm [8, 9, 10, 0, 1, 2, 3, 4, 5, 6, 7] [(m, zo 3 [.ref ma, .ref ml, .ref ms, .int (nI 0), .int an, .ref mp, .int (nI 0), .ref mt]), (ma, zi E 3 (upd (upd (upd ar 0 a) 1 b) 2 d)), (ml, zi E 4 (fun _ => 0)), (ms, zi E 8 st), (mp, zo 4 [.ref mpk, .ref mpv, .int (nI n)]), (mpk, zi E 600 f), (mpv, zi E 600 g), (mt, zi E 4 (zn stp)), (p, zo 5 [.int (nI kd), .ref po, .ref pn, .int (nI len)]), (po, zi E 64 op), (pn, zi E 64 nn)] (by decide) rfl ?_
  generalize har1 : upd (upd (upd ar 0 a) 1 b) 2 d = ar1
  refine z_eq (L1 := [(0, .ref m), (1, .ref p), (2, .int a), (3, .int b), (4, .int d)]) (st1 := []) (w1 := [(m, zo 3 [.ref ma, .ref ml, .ref ms, .int (nI 0), .int an, .ref mp, .int (nI (([] : List (Int32 × Int32)).length)), .ref mt]), (ma, zi E 3 ar1), (ml, zi E 4 (fun _ => 0)), (ms, zi E 8 st), (mp, zo 4 [.ref mpk, .ref mpv, .int (nI (rwN 600 n ([] : List (Int32 × Int32))))]), (mpk, zi E 600 (rwK 600 n f ([] : List (Int32 × Int32)))), (mpv, zi E 600 (rwV 600 n g ([] : List (Int32 × Int32)))), (mt, zi E 4 (zn stp)), (p, zo 5 [.int (nI kd), .ref po, .ref pn, .int (nI len)]), (po, zi E 64 op), (pn, zi E 64 nn)]) rfl rfl (by rw [rwK_0, rwV_0, rwN_0 hn]; rfl) ?_
  refine z_iconst 9 C0 (v := (nI 0)) dX3_call_8 rfl rfl ?_
  refine z_istore 11 C0 [1, 2, 3, 4, 5, 0] [(0, .ref m), (1, .ref p), (2, .int a), (3, .int b), (4, .int d), (5, .int (nI 0))] dX3_call_9 rfl (by decide) rfl ?_
  refine z_iconst 12 C0 (v := (nI 1)) dX3_call_11 rfl rfl ?_
  refine z_istore 14 C0 [1, 2, 3, 4, 5, 6, 0] [(0, .ref m), (1, .ref p), (2, .int a), (3, .int b), (4, .int d), (5, .int (nI 0)), (6, .int (nI 1))] dX3_call_12 rfl (by decide) rfl ?_
  have CUT14 : ∀ (N14 : Nat) (k : Nat) (fu : Nat) (i : Nat) (h : Nat) (lo : Nat → Int32) (st : Nat → Int32) (P : List (Int32 × Int32)), (fu + k = 300) → (Rch kd op nn len i h) → (P.length ≤ 20) → (mRun op nn ar1 fu k i h st lo P = (callR op nn a b d)) → fu + 1 < N14 → Z E p_ l_ e_ ({ frames := 3, cells := 0, slots := 0, locals := 69 } : Room) s_ m_ args_ below_ meth_ c_ (MQ below_ (va_Qi (fun r_ w_ => ∃ h2 : Nat, ∃ an2 : Int32, ∃ ar2 : Nat → Int32, ∃ lo2 : Nat → Int32, ∃ st2 : Nat → Int32, (r_ = (nI ((callR op nn a b d).1)) ∧ w_ = [(m, zo 3 [.ref ma, .ref ml, .ref ms, .int (nI h2), .int an2, .ref mp, .int (nI ((callR op nn a b d).2.2.2.length)), .ref mt]), (ma, zi E 3 ar2), (ml, zi E 4 lo2), (ms, zi E 8 st2), (mp, zo 4 [.ref mpk, .ref mpv, .int (nI (rwN 600 n (callR op nn a b d).2.2.2))]), (mpk, zi E 600 (rwK 600 n f (callR op nn a b d).2.2.2)), (mpv, zi E 600 (rwV 600 n g (callR op nn a b d).2.2.2)), (mt, zi E 4 (zn (stpU stp kd (callR op nn a b d)))), (p, zo 5 [.int (nI kd), .ref po, .ref pn, .int (nI len)]), (po, zi E 64 op), (pn, zi E 64 nn)]) ∧ (h2 ≤ 8) ∧ ((callR op nn a b d).1 ≠ 0 → an2 = (callR op nn a b d).2.1)) (zPost E A_) A_) args_ s_ 0 0 A_) A_ 9 14 [(0, .ref m), (1, .ref p), (5, .int (nI i)), (6, .int (nI (k + 1)))] [] [(m, zo 3 [.ref ma, .ref ml, .ref ms, .int (nI h), .int an, .ref mp, .int (nI (P.length)), .ref mt]), (ma, zi E 3 ar1), (ml, zi E 4 lo), (ms, zi E 8 st), (mp, zo 4 [.ref mpk, .ref mpv, .int (nI (rwN 600 n P))]), (mpk, zi E 600 (rwK 600 n f P)), (mpv, zi E 600 (rwV 600 n g P)), (mt, zi E 4 (zn stp)), (p, zo 5 [.int (nI kd), .ref po, .ref pn, .int (nI len)]), (po, zi E 64 op), (pn, zi E 64 nn)] 0 0 := by
    intro N14
    induction N14 with
    | zero => intro k fu i h lo st P hfu hR hP hM hm14; exact absurd hm14 (Nat.not_lt_zero _)
    | succ N14 ih14 =>
      intro k fu i h lo st P hfu hR hP hM hm14
      refine z_iload 16 C0 3 dX3_call_14 rfl rfl ?_
      refine z_sipush 19 C0 (v := (nI 300)) dX3_call_16 rfl rfl ?_
      refine z_icmp_gtN 22 173 C0 (by omega) (by decide) dX3_call_19 rfl (by decide) (fun k19 => ?_) (fun k19 => ?_)
      · skip
        refine z_iconst 174 C0 (v := (nI 0)) dX3_call_173 rfl rfl ?_
        have hh8 := (hG.at hR).2.1
        have hres : (callR op nn a b d) = (0, 0, 0, P) := by rw [← hM, show fu = 0 by omega]; rfl
        exact z_iret C0 rfl dX3_call_174 ⟨h, an, ar1, lo, st, ⟨(by rw [hres]), (by rw [hres]; rfl)⟩, (by omega), (fun q => absurd (by rw [hres]) q)⟩ (by decide) (by decide)
      · skip
        obtain ⟨fu, rfl⟩ : ∃ z, fu = z + 1 := ⟨fu - 1, by omega⟩
        refine z_aload_n 23 C0 1 dX3_call_22 rfl rfl rfl ?_
        refine z_iload 25 C0 2 dX3_call_23 rfl rfl ?_
        refine z_callVi 28 C0 [8] [0, 1, 2, 3, 4, 5, 6, 7, 9, 10] [(m, zo 3 [.ref ma, .ref ml, .ref ms, .int (nI h), .int an, .ref mp, .int (nI (P.length)), .ref mt]), (ma, zi E 3 ar1), (ml, zi E 4 lo), (ms, zi E 8 st), (mp, zo 4 [.ref mpk, .ref mpv, .int (nI (rwN 600 n P))]), (mpk, zi E 600 (rwK 600 n f P)), (mpv, zi E 600 (rwV 600 n g P)), (mt, zi E 4 (zn stp)), (po, zi E 64 op), (pn, zi E 64 nn)] 0 0 (As := [.int (nI i)]) (T := TX5) (N := 4) (C := RX5) (ci := 5) (n := 1) 0 (has_n l_ E p po pn kd len i (by have := (hG.at hR).1; omega) (by omega)) (zGIV (fun _ => zTs_in) wk_280 wk_348 wk_278 wk_279 wk_15) rfl ⟨rfl, by decide, by decide, by decide +kernel⟩ rfl rfl rfl rfl (by decide) rfl rfl (Nat.le_of_ble_eq_true rfl) ⟨by decide, by decide⟩ rfl rfl ⟨by decide, by decide⟩ ⟨by decide, by decide⟩ dX3_call_25 rfl (fun r25 w25 hB25 => ?_)
        obtain ⟨rfl, rfl⟩ := hB25
        refine z_perm [0, 1, 2, 3, 4, 5, 6, 7, 10, 8, 9] [(m, zo 3 [.ref ma, .ref ml, .ref ms, .int (nI h), .int an, .ref mp, .int (nI (P.length)), .ref mt]), (ma, zi E 3 ar1), (ml, zi E 4 lo), (ms, zi E 8 st), (mp, zo 4 [.ref mpk, .ref mpv, .int (nI (rwN 600 n P))]), (mpk, zi E 600 (rwK 600 n f P)), (mpv, zi E 600 (rwV 600 n g P)), (mt, zi E 4 (zn stp)), (p, zo 5 [.int (nI kd), .ref po, .ref pn, .int (nI len)]), (po, zi E 64 op), (pn, zi E 64 nn)] (by decide) rfl ?_
        refine z_if_eqP 31 173 C0 dX3_call_28 rfl (by decide) (fun k28 => absurd k28 (fun q => q (hG.at hR).1)) (fun k28 => ?_)
        obtain ⟨hi, hh8, o, ho⟩ := hG.at hR
        have hop := ho.1.2.1
        rcases le18 ho.1.1 with rfl | rfl | rfl | rfl | rfl | rfl | rfl | rfl | rfl | rfl | rfl | rfl | rfl | rfl | rfl | rfl | rfl | rfl | rfl
        · skip
          have hnd : 0 ≤ h := by have := ho.2.2.1; simpa [pNeed, nNeed] using this
          have hup : h + 1 - 0 ≤ 8 := ho.2.2.2
          have hcl : (nn i).toNatClampNeg = (nn i).toNatClampNeg := rfl
          refine z_aload_n 32 C0 1 dX3_call_31 rfl rfl rfl ?_
          refine z_get 35 C0 8 1 wz_5 rfl (by decide) (zTs_in wk_71) dX3_call_32 rfl rfl rfl ?_
          refine z_iload 37 C0 2 dX3_call_35 rfl rfl ?_
          refine z_ialdN 38 C0 9 (v := (nI 0)) dX3_call_37 rfl rfl (by omega) (by decide) hop ?_
          refine z_istore 40 C0 [1, 2, 3, 4, 0] [(0, .ref m), (1, .ref p), (5, .int (nI i)), (6, .int (nI (k + 1))), (7, .int (nI 0))] dX3_call_38 rfl (by decide) rfl ?_
          refine z_aload_n 41 C0 1 dX3_call_40 rfl rfl rfl ?_
          refine z_get 44 C0 8 2 wz_5 rfl (by decide) (zTs_in wk_74) dX3_call_41 rfl rfl rfl ?_
          refine z_iload 46 C0 2 dX3_call_44 rfl rfl ?_
          refine z_ialdN 47 C0 10 (v := (nn i)) dX3_call_46 rfl rfl (by omega) (by decide) rfl ?_
          refine z_istore 49 C0 [1, 2, 3, 4, 5, 0] [(0, .ref m), (1, .ref p), (5, .int (nI i)), (6, .int (nI (k + 1))), (7, .int (nI 0)), (8, .int (nn i))] dX3_call_47 rfl (by decide) rfl ?_
          refine z_iload 51 C0 4 dX3_call_49 rfl rfl ?_
          refine z_bipush 53 C0 (v := (nI 17)) dX3_call_51 rfl rfl ?_
          refine z_icmp_eqN 56 63 C0 (by decide) (by decide) dX3_call_53 rfl (by decide) (fun k53 => absurd k53 (by omega)) (fun k53 => ?_)
          refine z_iload 58 C0 4 dX3_call_56 rfl rfl ?_
          refine z_bipush 60 C0 (v := (nI 18)) dX3_call_58 rfl rfl ?_
          refine z_icmp_neN 63 98 C0 (by decide) (by decide) dX3_call_60 rfl (by decide) (fun k60 => ?_) (fun k60 => absurd k60 (by omega))
          refine z_iload 100 C0 4 dX3_call_98 rfl rfl ?_
          refine z_bipush 102 C0 (v := (nI 16)) dX3_call_100 rfl rfl ?_
          refine z_icmp_neN 105 116 C0 (by decide) (by decide) dX3_call_102 rfl (by decide) (fun k102 => ?_) (fun k102 => absurd k102 (by omega))
          refine z_iload 118 C0 4 dX3_call_116 rfl rfl ?_
          refine z_callSNi 121 C0 [] [0, 1, 2, 3, 4, 5, 6, 7, 8, 9, 10] [(m, zo 3 [.ref ma, .ref ml, .ref ms, .int (nI h), .int an, .ref mp, .int (nI (P.length)), .ref mt]), (ma, zi E 3 ar1), (ml, zi E 4 lo), (ms, zi E 8 st), (mp, zo 4 [.ref mpk, .ref mpv, .int (nI (rwN 600 n P))]), (mpk, zi E 600 (rwK 600 n f P)), (mpv, zi E 600 (rwV 600 n g P)), (mt, zi E 4 (zn stp)), (p, zo 5 [.int (nI kd), .ref po, .ref pn, .int (nI len)]), (po, zi E 64 op), (pn, zi E 64 nn)] 0 0 (As := [.int (nI 0)]) (n := 1) (isJump l_ E 0 (by omega)) (zTs_good (fun _ => zTs_in) wk_276) rfl C0.2.2.2.2.2.2.2.2.2.1.1.2.2.2.2.1 (zTs_in wk_12) (zTs_in wk_275) ⟨by decide, by decide, by decide +kernel⟩ rfl rfl (by decide) rfl rfl (Nat.le_of_ble_eq_true rfl) ⟨by decide, by decide⟩ rfl rfl ⟨by decide, by decide⟩ ⟨by decide, by decide⟩ dX3_call_118 rfl (fun r118 w118 hB118 => ?_)
          obtain ⟨rfl, rfl⟩ := hB118
          refine z_perm [0, 1, 2, 3, 4, 5, 6, 7, 8, 9, 10] [(m, zo 3 [.ref ma, .ref ml, .ref ms, .int (nI h), .int an, .ref mp, .int (nI (P.length)), .ref mt]), (ma, zi E 3 ar1), (ml, zi E 4 lo), (ms, zi E 8 st), (mp, zo 4 [.ref mpk, .ref mpv, .int (nI (rwN 600 n P))]), (mpk, zi E 600 (rwK 600 n f P)), (mpv, zi E 600 (rwV 600 n g P)), (mt, zi E 4 (zn stp)), (p, zo 5 [.int (nI kd), .ref po, .ref pn, .int (nI len)]), (po, zi E 64 op), (pn, zi E 64 nn)] (by decide) rfl ?_
          refine z_if_eqP 124 139 C0 dX3_call_121 rfl (by decide) (fun k121 => ?_) (fun k121 => absurd k121 (by omega))
          refine z_iload 141 C0 4 dX3_call_139 rfl rfl ?_
          refine z_callSNi 144 C0 [] [0, 1, 2, 3, 4, 5, 6, 7, 8, 9, 10] [(m, zo 3 [.ref ma, .ref ml, .ref ms, .int (nI h), .int an, .ref mp, .int (nI (P.length)), .ref mt]), (ma, zi E 3 ar1), (ml, zi E 4 lo), (ms, zi E 8 st), (mp, zo 4 [.ref mpk, .ref mpv, .int (nI (rwN 600 n P))]), (mpk, zi E 600 (rwK 600 n f P)), (mpv, zi E 600 (rwV 600 n g P)), (mt, zi E 4 (zn stp)), (p, zo 5 [.int (nI kd), .ref po, .ref pn, .int (nI len)]), (po, zi E 64 op), (pn, zi E 64 nn)] 0 0 (As := [.int (nI 0)]) (n := 1) (isComb l_ E 0 (by omega)) (zTs_good (fun _ => zTs_in) wk_360) rfl C0.2.2.2.2.2.2.2.2.2.1.1.2.2.2.2.2 (zTs_in wk_12) (zTs_in wk_359) ⟨by decide, by decide, by decide +kernel⟩ rfl rfl (by decide) rfl rfl (Nat.le_of_ble_eq_true rfl) ⟨by decide, by decide⟩ rfl rfl ⟨by decide, by decide⟩ ⟨by decide, by decide⟩ dX3_call_141 rfl (fun r141 w141 hB141 => ?_)
          obtain ⟨rfl, rfl⟩ := hB141
          refine z_perm [0, 1, 2, 3, 4, 5, 6, 7, 8, 9, 10] [(m, zo 3 [.ref ma, .ref ml, .ref ms, .int (nI h), .int an, .ref mp, .int (nI (P.length)), .ref mt]), (ma, zi E 3 ar1), (ml, zi E 4 lo), (ms, zi E 8 st), (mp, zo 4 [.ref mpk, .ref mpv, .int (nI (rwN 600 n P))]), (mpk, zi E 600 (rwK 600 n f P)), (mpv, zi E 600 (rwV 600 n g P)), (mt, zi E 4 (zn stp)), (p, zo 5 [.int (nI kd), .ref po, .ref pn, .int (nI len)]), (po, zi E 64 op), (pn, zi E 64 nn)] (by decide) rfl ?_
          refine z_if_eqP 147 156 C0 dX3_call_144 rfl (by decide) (fun k144 => ?_) (fun k144 => absurd k144 (by omega))
          refine z_aload_n 157 C0 0 dX3_call_156 rfl rfl rfl ?_
          refine z_iload 159 C0 4 dX3_call_157 rfl rfl ?_
          refine z_iload 161 C0 5 dX3_call_159 rfl rfl ?_
          refine z_callVv 164 C0 [0, 1, 2, 3, 4, 5, 6] [7, 8, 9, 10] [(mt, zi E 4 (zn stp)), (p, zo 5 [.int (nI kd), .ref po, .ref pn, .int (nI len)]), (po, zi E 64 op), (pn, zi E 64 nn)] 0 0 (As := [.int (nI 0), .int (nn i)]) (T := TX3) (N := 8) (C := RX3) (ci := 3) (n := 2) 0 (move0 l_ E m ma ml ms mp mt h an (P.length) ar1 lo st mpk mpv (rwK 600 n f P) (rwV 600 n g P) (rwN 600 n P) (nn i) (by omega) (by omega)) (zGIV (fun _ => zTs_in) wk_375 wk_372 wk_373 wk_374 wk_18) rfl ⟨rfl, by decide, by decide, by decide +kernel⟩ rfl rfl rfl rfl (by decide) rfl rfl (Nat.le_of_ble_eq_true rfl) ⟨by decide, by decide⟩ rfl rfl ⟨by decide, by decide⟩ ⟨by decide, by decide⟩ dX3_call_161 rfl (fun w161 hB161 => ?_)
          obtain rfl := hB161
          refine z_perm [4, 5, 6, 7, 8, 9, 10, 0, 1, 2, 3] [(m, zo 3 [.ref ma, .ref ml, .ref ms, .int (nI (h + 1)), .int an, .ref mp, .int (nI (P.length)), .ref mt]), (ma, zi E 3 ar1), (ml, zi E 4 lo), (ms, zi E 8 (upd st h (nn i))), (mp, zo 4 [.ref mpk, .ref mpv, .int (nI (rwN 600 n P))]), (mpk, zi E 600 (rwK 600 n f P)), (mpv, zi E 600 (rwV 600 n g P)), (mt, zi E 4 (zn stp)), (p, zo 5 [.int (nI kd), .ref po, .ref pn, .int (nI len)]), (po, zi E 64 op), (pn, zi E 64 nn)] (by decide) rfl ?_
          refine z_iinc 167 C0 2 [1, 2, 0, 3, 4, 5] [(0, .ref m), (1, .ref p), (5, .int (nI (i + 1))), (6, .int (nI (k + 1))), (7, .int (nI 0)), (8, .int (nn i))] (v := (nI (i + 1))) dX3_call_164 rfl rfl (z_incN _ _) (by decide) rfl ?_
          refine z_iinc 170 C0 3 [1, 2, 3, 0, 4, 5] [(0, .ref m), (1, .ref p), (5, .int (nI (i + 1))), (6, .int (nI (k + 2))), (7, .int (nI 0)), (8, .int (nn i))] (v := (nI (k + 2))) dX3_call_167 rfl rfl ((z_incN (k + 1) 1).trans (congrArg nI (by omega))) (by decide) rfl ?_
          refine z_goto 14 C0 dX3_call_170 (by decide) ?_
          refine z_loc [0, 1, 2, 3] [(0, .ref m), (1, .ref p), (5, .int (nI (i + 1))), (6, .int (nI (k + 2)))] rfl ?_
          exact ih14 (k + 1) fu (i + 1) (h + 1) lo (upd st h (nn i)) P (by omega) (hR.next ho ⟨by decide, by decide, by decide⟩) hP ((mRun_step hop (by decide) (by decide) (by decide) (fun q => absurd q.1 (by decide)) hcl).symm.trans hM) (by omega)
        · skip
          have hnd : 0 ≤ h := by have := ho.2.2.1; simpa [pNeed, nNeed] using this
          have hup : h + 1 - 0 ≤ 8 := ho.2.2.2
          obtain ⟨j, hj, hnn⟩ := ho.1.2.2.2.2.1 rfl
          have hj3 : j < 3 := by have := nArg_le kd; omega
          have hcl : (nn i).toNatClampNeg = j := by rw [hnn]; exact nI_clamp (by omega)
          refine z_aload_n 32 C0 1 dX3_call_31 rfl rfl rfl ?_
          refine z_get 35 C0 8 1 wz_5 rfl (by decide) (zTs_in wk_71) dX3_call_32 rfl rfl rfl ?_
          refine z_iload 37 C0 2 dX3_call_35 rfl rfl ?_
          refine z_ialdN 38 C0 9 (v := (nI 1)) dX3_call_37 rfl rfl (by omega) (by decide) hop ?_
          refine z_istore 40 C0 [1, 2, 3, 4, 0] [(0, .ref m), (1, .ref p), (5, .int (nI i)), (6, .int (nI (k + 1))), (7, .int (nI 1))] dX3_call_38 rfl (by decide) rfl ?_
          refine z_aload_n 41 C0 1 dX3_call_40 rfl rfl rfl ?_
          refine z_get 44 C0 8 2 wz_5 rfl (by decide) (zTs_in wk_74) dX3_call_41 rfl rfl rfl ?_
          refine z_iload 46 C0 2 dX3_call_44 rfl rfl ?_
          refine z_ialdN 47 C0 10 (v := (nI j)) dX3_call_46 rfl rfl (by omega) (by decide) hnn ?_
          refine z_istore 49 C0 [1, 2, 3, 4, 5, 0] [(0, .ref m), (1, .ref p), (5, .int (nI i)), (6, .int (nI (k + 1))), (7, .int (nI 1)), (8, .int (nI j))] dX3_call_47 rfl (by decide) rfl ?_
          refine z_iload 51 C0 4 dX3_call_49 rfl rfl ?_
          refine z_bipush 53 C0 (v := (nI 17)) dX3_call_51 rfl rfl ?_
          refine z_icmp_eqN 56 63 C0 (by decide) (by decide) dX3_call_53 rfl (by decide) (fun k53 => absurd k53 (by omega)) (fun k53 => ?_)
          refine z_iload 58 C0 4 dX3_call_56 rfl rfl ?_
          refine z_bipush 60 C0 (v := (nI 18)) dX3_call_58 rfl rfl ?_
          refine z_icmp_neN 63 98 C0 (by decide) (by decide) dX3_call_60 rfl (by decide) (fun k60 => ?_) (fun k60 => absurd k60 (by omega))
          refine z_iload 100 C0 4 dX3_call_98 rfl rfl ?_
          refine z_bipush 102 C0 (v := (nI 16)) dX3_call_100 rfl rfl ?_
          refine z_icmp_neN 105 116 C0 (by decide) (by decide) dX3_call_102 rfl (by decide) (fun k102 => ?_) (fun k102 => absurd k102 (by omega))
          refine z_iload 118 C0 4 dX3_call_116 rfl rfl ?_
          refine z_callSNi 121 C0 [] [0, 1, 2, 3, 4, 5, 6, 7, 8, 9, 10] [(m, zo 3 [.ref ma, .ref ml, .ref ms, .int (nI h), .int an, .ref mp, .int (nI (P.length)), .ref mt]), (ma, zi E 3 ar1), (ml, zi E 4 lo), (ms, zi E 8 st), (mp, zo 4 [.ref mpk, .ref mpv, .int (nI (rwN 600 n P))]), (mpk, zi E 600 (rwK 600 n f P)), (mpv, zi E 600 (rwV 600 n g P)), (mt, zi E 4 (zn stp)), (p, zo 5 [.int (nI kd), .ref po, .ref pn, .int (nI len)]), (po, zi E 64 op), (pn, zi E 64 nn)] 0 0 (As := [.int (nI 1)]) (n := 1) (isJump l_ E 1 (by omega)) (zTs_good (fun _ => zTs_in) wk_276) rfl C0.2.2.2.2.2.2.2.2.2.1.1.2.2.2.2.1 (zTs_in wk_12) (zTs_in wk_275) ⟨by decide, by decide, by decide +kernel⟩ rfl rfl (by decide) rfl rfl (Nat.le_of_ble_eq_true rfl) ⟨by decide, by decide⟩ rfl rfl ⟨by decide, by decide⟩ ⟨by decide, by decide⟩ dX3_call_118 rfl (fun r118 w118 hB118 => ?_)
          obtain ⟨rfl, rfl⟩ := hB118
          refine z_perm [0, 1, 2, 3, 4, 5, 6, 7, 8, 9, 10] [(m, zo 3 [.ref ma, .ref ml, .ref ms, .int (nI h), .int an, .ref mp, .int (nI (P.length)), .ref mt]), (ma, zi E 3 ar1), (ml, zi E 4 lo), (ms, zi E 8 st), (mp, zo 4 [.ref mpk, .ref mpv, .int (nI (rwN 600 n P))]), (mpk, zi E 600 (rwK 600 n f P)), (mpv, zi E 600 (rwV 600 n g P)), (mt, zi E 4 (zn stp)), (p, zo 5 [.int (nI kd), .ref po, .ref pn, .int (nI len)]), (po, zi E 64 op), (pn, zi E 64 nn)] (by decide) rfl ?_
          refine z_if_eqP 124 139 C0 dX3_call_121 rfl (by decide) (fun k121 => ?_) (fun k121 => absurd k121 (by omega))
          refine z_iload 141 C0 4 dX3_call_139 rfl rfl ?_
          refine z_callSNi 144 C0 [] [0, 1, 2, 3, 4, 5, 6, 7, 8, 9, 10] [(m, zo 3 [.ref ma, .ref ml, .ref ms, .int (nI h), .int an, .ref mp, .int (nI (P.length)), .ref mt]), (ma, zi E 3 ar1), (ml, zi E 4 lo), (ms, zi E 8 st), (mp, zo 4 [.ref mpk, .ref mpv, .int (nI (rwN 600 n P))]), (mpk, zi E 600 (rwK 600 n f P)), (mpv, zi E 600 (rwV 600 n g P)), (mt, zi E 4 (zn stp)), (p, zo 5 [.int (nI kd), .ref po, .ref pn, .int (nI len)]), (po, zi E 64 op), (pn, zi E 64 nn)] 0 0 (As := [.int (nI 1)]) (n := 1) (isComb l_ E 1 (by omega)) (zTs_good (fun _ => zTs_in) wk_360) rfl C0.2.2.2.2.2.2.2.2.2.1.1.2.2.2.2.2 (zTs_in wk_12) (zTs_in wk_359) ⟨by decide, by decide, by decide +kernel⟩ rfl rfl (by decide) rfl rfl (Nat.le_of_ble_eq_true rfl) ⟨by decide, by decide⟩ rfl rfl ⟨by decide, by decide⟩ ⟨by decide, by decide⟩ dX3_call_141 rfl (fun r141 w141 hB141 => ?_)
          obtain ⟨rfl, rfl⟩ := hB141
          refine z_perm [0, 1, 2, 3, 4, 5, 6, 7, 8, 9, 10] [(m, zo 3 [.ref ma, .ref ml, .ref ms, .int (nI h), .int an, .ref mp, .int (nI (P.length)), .ref mt]), (ma, zi E 3 ar1), (ml, zi E 4 lo), (ms, zi E 8 st), (mp, zo 4 [.ref mpk, .ref mpv, .int (nI (rwN 600 n P))]), (mpk, zi E 600 (rwK 600 n f P)), (mpv, zi E 600 (rwV 600 n g P)), (mt, zi E 4 (zn stp)), (p, zo 5 [.int (nI kd), .ref po, .ref pn, .int (nI len)]), (po, zi E 64 op), (pn, zi E 64 nn)] (by decide) rfl ?_
          refine z_if_eqP 147 156 C0 dX3_call_144 rfl (by decide) (fun k144 => ?_) (fun k144 => absurd k144 (by omega))
          refine z_aload_n 157 C0 0 dX3_call_156 rfl rfl rfl ?_
          refine z_iload 159 C0 4 dX3_call_157 rfl rfl ?_
          refine z_iload 161 C0 5 dX3_call_159 rfl rfl ?_
          refine z_callVv 164 C0 [0, 1, 2, 3, 4, 5, 6] [7, 8, 9, 10] [(mt, zi E 4 (zn stp)), (p, zo 5 [.int (nI kd), .ref po, .ref pn, .int (nI len)]), (po, zi E 64 op), (pn, zi E 64 nn)] 0 0 (As := [.int (nI 1), .int (nI j)]) (T := TX3) (N := 8) (C := RX3) (ci := 3) (n := 2) 0 (move1 l_ E m ma ml ms mp mt h an (P.length) ar1 lo st mpk mpv (rwK 600 n f P) (rwV 600 n g P) (rwN 600 n P) j (by omega) (by omega) (by omega)) (zGIV (fun _ => zTs_in) wk_375 wk_372 wk_373 wk_374 wk_18) rfl ⟨rfl, by decide, by decide, by decide +kernel⟩ rfl rfl rfl rfl (by decide) rfl rfl (Nat.le_of_ble_eq_true rfl) ⟨by decide, by decide⟩ rfl rfl ⟨by decide, by decide⟩ ⟨by decide, by decide⟩ dX3_call_161 rfl (fun w161 hB161 => ?_)
          obtain rfl := hB161
          refine z_perm [4, 5, 6, 7, 8, 9, 10, 0, 1, 2, 3] [(m, zo 3 [.ref ma, .ref ml, .ref ms, .int (nI (h + 1)), .int an, .ref mp, .int (nI (P.length)), .ref mt]), (ma, zi E 3 ar1), (ml, zi E 4 lo), (ms, zi E 8 (upd st h (ar1 j))), (mp, zo 4 [.ref mpk, .ref mpv, .int (nI (rwN 600 n P))]), (mpk, zi E 600 (rwK 600 n f P)), (mpv, zi E 600 (rwV 600 n g P)), (mt, zi E 4 (zn stp)), (p, zo 5 [.int (nI kd), .ref po, .ref pn, .int (nI len)]), (po, zi E 64 op), (pn, zi E 64 nn)] (by decide) rfl ?_
          refine z_iinc 167 C0 2 [1, 2, 0, 3, 4, 5] [(0, .ref m), (1, .ref p), (5, .int (nI (i + 1))), (6, .int (nI (k + 1))), (7, .int (nI 1)), (8, .int (nI j))] (v := (nI (i + 1))) dX3_call_164 rfl rfl (z_incN _ _) (by decide) rfl ?_
          refine z_iinc 170 C0 3 [1, 2, 3, 0, 4, 5] [(0, .ref m), (1, .ref p), (5, .int (nI (i + 1))), (6, .int (nI (k + 2))), (7, .int (nI 1)), (8, .int (nI j))] (v := (nI (k + 2))) dX3_call_167 rfl rfl ((z_incN (k + 1) 1).trans (congrArg nI (by omega))) (by decide) rfl ?_
          refine z_goto 14 C0 dX3_call_170 (by decide) ?_
          refine z_loc [0, 1, 2, 3] [(0, .ref m), (1, .ref p), (5, .int (nI (i + 1))), (6, .int (nI (k + 2)))] rfl ?_
          exact ih14 (k + 1) fu (i + 1) (h + 1) lo (upd st h (ar1 j)) P (by omega) (hR.next ho ⟨by decide, by decide, by decide⟩) hP ((mRun_step hop (by decide) (by decide) (by decide) (fun q => absurd q.1 (by decide)) hcl).symm.trans hM) (by omega)
        · skip
          have hnd : 0 ≤ h := by have := ho.2.2.1; simpa [pNeed, nNeed] using this
          have hup : h + 1 - 0 ≤ 8 := ho.2.2.2
          obtain ⟨j, hj, hnn⟩ := ho.1.2.2.2.2.2.1 (by omega)
          have hcl : (nn i).toNatClampNeg = j := by rw [hnn]; exact nI_clamp (by omega)
          refine z_aload_n 32 C0 1 dX3_call_31 rfl rfl rfl ?_
          refine z_get 35 C0 8 1 wz_5 rfl (by decide) (zTs_in wk_71) dX3_call_32 rfl rfl rfl ?_
          refine z_iload 37 C0 2 dX3_call_35 rfl rfl ?_
          refine z_ialdN 38 C0 9 (v := (nI 2)) dX3_call_37 rfl rfl (by omega) (by decide) hop ?_
          refine z_istore 40 C0 [1, 2, 3, 4, 0] [(0, .ref m), (1, .ref p), (5, .int (nI i)), (6, .int (nI (k + 1))), (7, .int (nI 2))] dX3_call_38 rfl (by decide) rfl ?_
          refine z_aload_n 41 C0 1 dX3_call_40 rfl rfl rfl ?_
          refine z_get 44 C0 8 2 wz_5 rfl (by decide) (zTs_in wk_74) dX3_call_41 rfl rfl rfl ?_
          refine z_iload 46 C0 2 dX3_call_44 rfl rfl ?_
          refine z_ialdN 47 C0 10 (v := (nI j)) dX3_call_46 rfl rfl (by omega) (by decide) hnn ?_
          refine z_istore 49 C0 [1, 2, 3, 4, 5, 0] [(0, .ref m), (1, .ref p), (5, .int (nI i)), (6, .int (nI (k + 1))), (7, .int (nI 2)), (8, .int (nI j))] dX3_call_47 rfl (by decide) rfl ?_
          refine z_iload 51 C0 4 dX3_call_49 rfl rfl ?_
          refine z_bipush 53 C0 (v := (nI 17)) dX3_call_51 rfl rfl ?_
          refine z_icmp_eqN 56 63 C0 (by decide) (by decide) dX3_call_53 rfl (by decide) (fun k53 => absurd k53 (by omega)) (fun k53 => ?_)
          refine z_iload 58 C0 4 dX3_call_56 rfl rfl ?_
          refine z_bipush 60 C0 (v := (nI 18)) dX3_call_58 rfl rfl ?_
          refine z_icmp_neN 63 98 C0 (by decide) (by decide) dX3_call_60 rfl (by decide) (fun k60 => ?_) (fun k60 => absurd k60 (by omega))
          refine z_iload 100 C0 4 dX3_call_98 rfl rfl ?_
          refine z_bipush 102 C0 (v := (nI 16)) dX3_call_100 rfl rfl ?_
          refine z_icmp_neN 105 116 C0 (by decide) (by decide) dX3_call_102 rfl (by decide) (fun k102 => ?_) (fun k102 => absurd k102 (by omega))
          refine z_iload 118 C0 4 dX3_call_116 rfl rfl ?_
          refine z_callSNi 121 C0 [] [0, 1, 2, 3, 4, 5, 6, 7, 8, 9, 10] [(m, zo 3 [.ref ma, .ref ml, .ref ms, .int (nI h), .int an, .ref mp, .int (nI (P.length)), .ref mt]), (ma, zi E 3 ar1), (ml, zi E 4 lo), (ms, zi E 8 st), (mp, zo 4 [.ref mpk, .ref mpv, .int (nI (rwN 600 n P))]), (mpk, zi E 600 (rwK 600 n f P)), (mpv, zi E 600 (rwV 600 n g P)), (mt, zi E 4 (zn stp)), (p, zo 5 [.int (nI kd), .ref po, .ref pn, .int (nI len)]), (po, zi E 64 op), (pn, zi E 64 nn)] 0 0 (As := [.int (nI 2)]) (n := 1) (isJump l_ E 2 (by omega)) (zTs_good (fun _ => zTs_in) wk_276) rfl C0.2.2.2.2.2.2.2.2.2.1.1.2.2.2.2.1 (zTs_in wk_12) (zTs_in wk_275) ⟨by decide, by decide, by decide +kernel⟩ rfl rfl (by decide) rfl rfl (Nat.le_of_ble_eq_true rfl) ⟨by decide, by decide⟩ rfl rfl ⟨by decide, by decide⟩ ⟨by decide, by decide⟩ dX3_call_118 rfl (fun r118 w118 hB118 => ?_)
          obtain ⟨rfl, rfl⟩ := hB118
          refine z_perm [0, 1, 2, 3, 4, 5, 6, 7, 8, 9, 10] [(m, zo 3 [.ref ma, .ref ml, .ref ms, .int (nI h), .int an, .ref mp, .int (nI (P.length)), .ref mt]), (ma, zi E 3 ar1), (ml, zi E 4 lo), (ms, zi E 8 st), (mp, zo 4 [.ref mpk, .ref mpv, .int (nI (rwN 600 n P))]), (mpk, zi E 600 (rwK 600 n f P)), (mpv, zi E 600 (rwV 600 n g P)), (mt, zi E 4 (zn stp)), (p, zo 5 [.int (nI kd), .ref po, .ref pn, .int (nI len)]), (po, zi E 64 op), (pn, zi E 64 nn)] (by decide) rfl ?_
          refine z_if_eqP 124 139 C0 dX3_call_121 rfl (by decide) (fun k121 => ?_) (fun k121 => absurd k121 (by omega))
          refine z_iload 141 C0 4 dX3_call_139 rfl rfl ?_
          refine z_callSNi 144 C0 [] [0, 1, 2, 3, 4, 5, 6, 7, 8, 9, 10] [(m, zo 3 [.ref ma, .ref ml, .ref ms, .int (nI h), .int an, .ref mp, .int (nI (P.length)), .ref mt]), (ma, zi E 3 ar1), (ml, zi E 4 lo), (ms, zi E 8 st), (mp, zo 4 [.ref mpk, .ref mpv, .int (nI (rwN 600 n P))]), (mpk, zi E 600 (rwK 600 n f P)), (mpv, zi E 600 (rwV 600 n g P)), (mt, zi E 4 (zn stp)), (p, zo 5 [.int (nI kd), .ref po, .ref pn, .int (nI len)]), (po, zi E 64 op), (pn, zi E 64 nn)] 0 0 (As := [.int (nI 2)]) (n := 1) (isComb l_ E 2 (by omega)) (zTs_good (fun _ => zTs_in) wk_360) rfl C0.2.2.2.2.2.2.2.2.2.1.1.2.2.2.2.2 (zTs_in wk_12) (zTs_in wk_359) ⟨by decide, by decide, by decide +kernel⟩ rfl rfl (by decide) rfl rfl (Nat.le_of_ble_eq_true rfl) ⟨by decide, by decide⟩ rfl rfl ⟨by decide, by decide⟩ ⟨by decide, by decide⟩ dX3_call_141 rfl (fun r141 w141 hB141 => ?_)
          obtain ⟨rfl, rfl⟩ := hB141
          refine z_perm [0, 1, 2, 3, 4, 5, 6, 7, 8, 9, 10] [(m, zo 3 [.ref ma, .ref ml, .ref ms, .int (nI h), .int an, .ref mp, .int (nI (P.length)), .ref mt]), (ma, zi E 3 ar1), (ml, zi E 4 lo), (ms, zi E 8 st), (mp, zo 4 [.ref mpk, .ref mpv, .int (nI (rwN 600 n P))]), (mpk, zi E 600 (rwK 600 n f P)), (mpv, zi E 600 (rwV 600 n g P)), (mt, zi E 4 (zn stp)), (p, zo 5 [.int (nI kd), .ref po, .ref pn, .int (nI len)]), (po, zi E 64 op), (pn, zi E 64 nn)] (by decide) rfl ?_
          refine z_if_eqP 147 156 C0 dX3_call_144 rfl (by decide) (fun k144 => ?_) (fun k144 => absurd k144 (by omega))
          refine z_aload_n 157 C0 0 dX3_call_156 rfl rfl rfl ?_
          refine z_iload 159 C0 4 dX3_call_157 rfl rfl ?_
          refine z_iload 161 C0 5 dX3_call_159 rfl rfl ?_
          refine z_callVv 164 C0 [0, 1, 2, 3, 4, 5, 6] [7, 8, 9, 10] [(mt, zi E 4 (zn stp)), (p, zo 5 [.int (nI kd), .ref po, .ref pn, .int (nI len)]), (po, zi E 64 op), (pn, zi E 64 nn)] 0 0 (As := [.int (nI 2), .int (nI j)]) (T := TX3) (N := 8) (C := RX3) (ci := 3) (n := 2) 0 (move2 l_ E m ma ml ms mp mt h an (P.length) ar1 lo st mpk mpv (rwK 600 n f P) (rwV 600 n g P) (rwN 600 n P) j (by omega) (by omega) (by omega)) (zGIV (fun _ => zTs_in) wk_375 wk_372 wk_373 wk_374 wk_18) rfl ⟨rfl, by decide, by decide, by decide +kernel⟩ rfl rfl rfl rfl (by decide) rfl rfl (Nat.le_of_ble_eq_true rfl) ⟨by decide, by decide⟩ rfl rfl ⟨by decide, by decide⟩ ⟨by decide, by decide⟩ dX3_call_161 rfl (fun w161 hB161 => ?_)
          obtain rfl := hB161
          refine z_perm [4, 5, 6, 7, 8, 9, 10, 0, 1, 2, 3] [(m, zo 3 [.ref ma, .ref ml, .ref ms, .int (nI (h + 1)), .int an, .ref mp, .int (nI (P.length)), .ref mt]), (ma, zi E 3 ar1), (ml, zi E 4 lo), (ms, zi E 8 (upd st h (lo j))), (mp, zo 4 [.ref mpk, .ref mpv, .int (nI (rwN 600 n P))]), (mpk, zi E 600 (rwK 600 n f P)), (mpv, zi E 600 (rwV 600 n g P)), (mt, zi E 4 (zn stp)), (p, zo 5 [.int (nI kd), .ref po, .ref pn, .int (nI len)]), (po, zi E 64 op), (pn, zi E 64 nn)] (by decide) rfl ?_
          refine z_iinc 167 C0 2 [1, 2, 0, 3, 4, 5] [(0, .ref m), (1, .ref p), (5, .int (nI (i + 1))), (6, .int (nI (k + 1))), (7, .int (nI 2)), (8, .int (nI j))] (v := (nI (i + 1))) dX3_call_164 rfl rfl (z_incN _ _) (by decide) rfl ?_
          refine z_iinc 170 C0 3 [1, 2, 3, 0, 4, 5] [(0, .ref m), (1, .ref p), (5, .int (nI (i + 1))), (6, .int (nI (k + 2))), (7, .int (nI 2)), (8, .int (nI j))] (v := (nI (k + 2))) dX3_call_167 rfl rfl ((z_incN (k + 1) 1).trans (congrArg nI (by omega))) (by decide) rfl ?_
          refine z_goto 14 C0 dX3_call_170 (by decide) ?_
          refine z_loc [0, 1, 2, 3] [(0, .ref m), (1, .ref p), (5, .int (nI (i + 1))), (6, .int (nI (k + 2)))] rfl ?_
          exact ih14 (k + 1) fu (i + 1) (h + 1) lo (upd st h (lo j)) P (by omega) (hR.next ho ⟨by decide, by decide, by decide⟩) hP ((mRun_step hop (by decide) (by decide) (by decide) (fun q => absurd q.1 (by decide)) hcl).symm.trans hM) (by omega)
        · skip
          have hnd : 1 ≤ h := by have := ho.2.2.1; simpa [pNeed, nNeed] using this
          have hup : h + 0 - 1 ≤ 8 := ho.2.2.2
          obtain ⟨j, hj, hnn⟩ := ho.1.2.2.2.2.2.1 (by omega)
          have hcl : (nn i).toNatClampNeg = j := by rw [hnn]; exact nI_clamp (by omega)
          refine z_aload_n 32 C0 1 dX3_call_31 rfl rfl rfl ?_
          refine z_get 35 C0 8 1 wz_5 rfl (by decide) (zTs_in wk_71) dX3_call_32 rfl rfl rfl ?_
          refine z_iload 37 C0 2 dX3_call_35 rfl rfl ?_
          refine z_ialdN 38 C0 9 (v := (nI 3)) dX3_call_37 rfl rfl (by omega) (by decide) hop ?_
          refine z_istore 40 C0 [1, 2, 3, 4, 0] [(0, .ref m), (1, .ref p), (5, .int (nI i)), (6, .int (nI (k + 1))), (7, .int (nI 3))] dX3_call_38 rfl (by decide) rfl ?_
          refine z_aload_n 41 C0 1 dX3_call_40 rfl rfl rfl ?_
          refine z_get 44 C0 8 2 wz_5 rfl (by decide) (zTs_in wk_74) dX3_call_41 rfl rfl rfl ?_
          refine z_iload 46 C0 2 dX3_call_44 rfl rfl ?_
          refine z_ialdN 47 C0 10 (v := (nI j)) dX3_call_46 rfl rfl (by omega) (by decide) hnn ?_
          refine z_istore 49 C0 [1, 2, 3, 4, 5, 0] [(0, .ref m), (1, .ref p), (5, .int (nI i)), (6, .int (nI (k + 1))), (7, .int (nI 3)), (8, .int (nI j))] dX3_call_47 rfl (by decide) rfl ?_
          refine z_iload 51 C0 4 dX3_call_49 rfl rfl ?_
          refine z_bipush 53 C0 (v := (nI 17)) dX3_call_51 rfl rfl ?_
          refine z_icmp_eqN 56 63 C0 (by decide) (by decide) dX3_call_53 rfl (by decide) (fun k53 => absurd k53 (by omega)) (fun k53 => ?_)
          refine z_iload 58 C0 4 dX3_call_56 rfl rfl ?_
          refine z_bipush 60 C0 (v := (nI 18)) dX3_call_58 rfl rfl ?_
          refine z_icmp_neN 63 98 C0 (by decide) (by decide) dX3_call_60 rfl (by decide) (fun k60 => ?_) (fun k60 => absurd k60 (by omega))
          refine z_iload 100 C0 4 dX3_call_98 rfl rfl ?_
          refine z_bipush 102 C0 (v := (nI 16)) dX3_call_100 rfl rfl ?_
          refine z_icmp_neN 105 116 C0 (by decide) (by decide) dX3_call_102 rfl (by decide) (fun k102 => ?_) (fun k102 => absurd k102 (by omega))
          refine z_iload 118 C0 4 dX3_call_116 rfl rfl ?_
          refine z_callSNi 121 C0 [] [0, 1, 2, 3, 4, 5, 6, 7, 8, 9, 10] [(m, zo 3 [.ref ma, .ref ml, .ref ms, .int (nI h), .int an, .ref mp, .int (nI (P.length)), .ref mt]), (ma, zi E 3 ar1), (ml, zi E 4 lo), (ms, zi E 8 st), (mp, zo 4 [.ref mpk, .ref mpv, .int (nI (rwN 600 n P))]), (mpk, zi E 600 (rwK 600 n f P)), (mpv, zi E 600 (rwV 600 n g P)), (mt, zi E 4 (zn stp)), (p, zo 5 [.int (nI kd), .ref po, .ref pn, .int (nI len)]), (po, zi E 64 op), (pn, zi E 64 nn)] 0 0 (As := [.int (nI 3)]) (n := 1) (isJump l_ E 3 (by omega)) (zTs_good (fun _ => zTs_in) wk_276) rfl C0.2.2.2.2.2.2.2.2.2.1.1.2.2.2.2.1 (zTs_in wk_12) (zTs_in wk_275) ⟨by decide, by decide, by decide +kernel⟩ rfl rfl (by decide) rfl rfl (Nat.le_of_ble_eq_true rfl) ⟨by decide, by decide⟩ rfl rfl ⟨by decide, by decide⟩ ⟨by decide, by decide⟩ dX3_call_118 rfl (fun r118 w118 hB118 => ?_)
          obtain ⟨rfl, rfl⟩ := hB118
          refine z_perm [0, 1, 2, 3, 4, 5, 6, 7, 8, 9, 10] [(m, zo 3 [.ref ma, .ref ml, .ref ms, .int (nI h), .int an, .ref mp, .int (nI (P.length)), .ref mt]), (ma, zi E 3 ar1), (ml, zi E 4 lo), (ms, zi E 8 st), (mp, zo 4 [.ref mpk, .ref mpv, .int (nI (rwN 600 n P))]), (mpk, zi E 600 (rwK 600 n f P)), (mpv, zi E 600 (rwV 600 n g P)), (mt, zi E 4 (zn stp)), (p, zo 5 [.int (nI kd), .ref po, .ref pn, .int (nI len)]), (po, zi E 64 op), (pn, zi E 64 nn)] (by decide) rfl ?_
          refine z_if_eqP 124 139 C0 dX3_call_121 rfl (by decide) (fun k121 => ?_) (fun k121 => absurd k121 (by omega))
          refine z_iload 141 C0 4 dX3_call_139 rfl rfl ?_
          refine z_callSNi 144 C0 [] [0, 1, 2, 3, 4, 5, 6, 7, 8, 9, 10] [(m, zo 3 [.ref ma, .ref ml, .ref ms, .int (nI h), .int an, .ref mp, .int (nI (P.length)), .ref mt]), (ma, zi E 3 ar1), (ml, zi E 4 lo), (ms, zi E 8 st), (mp, zo 4 [.ref mpk, .ref mpv, .int (nI (rwN 600 n P))]), (mpk, zi E 600 (rwK 600 n f P)), (mpv, zi E 600 (rwV 600 n g P)), (mt, zi E 4 (zn stp)), (p, zo 5 [.int (nI kd), .ref po, .ref pn, .int (nI len)]), (po, zi E 64 op), (pn, zi E 64 nn)] 0 0 (As := [.int (nI 3)]) (n := 1) (isComb l_ E 3 (by omega)) (zTs_good (fun _ => zTs_in) wk_360) rfl C0.2.2.2.2.2.2.2.2.2.1.1.2.2.2.2.2 (zTs_in wk_12) (zTs_in wk_359) ⟨by decide, by decide, by decide +kernel⟩ rfl rfl (by decide) rfl rfl (Nat.le_of_ble_eq_true rfl) ⟨by decide, by decide⟩ rfl rfl ⟨by decide, by decide⟩ ⟨by decide, by decide⟩ dX3_call_141 rfl (fun r141 w141 hB141 => ?_)
          obtain ⟨rfl, rfl⟩ := hB141
          refine z_perm [0, 1, 2, 3, 4, 5, 6, 7, 8, 9, 10] [(m, zo 3 [.ref ma, .ref ml, .ref ms, .int (nI h), .int an, .ref mp, .int (nI (P.length)), .ref mt]), (ma, zi E 3 ar1), (ml, zi E 4 lo), (ms, zi E 8 st), (mp, zo 4 [.ref mpk, .ref mpv, .int (nI (rwN 600 n P))]), (mpk, zi E 600 (rwK 600 n f P)), (mpv, zi E 600 (rwV 600 n g P)), (mt, zi E 4 (zn stp)), (p, zo 5 [.int (nI kd), .ref po, .ref pn, .int (nI len)]), (po, zi E 64 op), (pn, zi E 64 nn)] (by decide) rfl ?_
          refine z_if_eqP 147 156 C0 dX3_call_144 rfl (by decide) (fun k144 => ?_) (fun k144 => absurd k144 (by omega))
          refine z_aload_n 157 C0 0 dX3_call_156 rfl rfl rfl ?_
          refine z_iload 159 C0 4 dX3_call_157 rfl rfl ?_
          refine z_iload 161 C0 5 dX3_call_159 rfl rfl ?_
          refine z_callVv 164 C0 [0, 1, 2, 3, 4, 5, 6] [7, 8, 9, 10] [(mt, zi E 4 (zn stp)), (p, zo 5 [.int (nI kd), .ref po, .ref pn, .int (nI len)]), (po, zi E 64 op), (pn, zi E 64 nn)] 0 0 (As := [.int (nI 3), .int (nI j)]) (T := TX3) (N := 8) (C := RX3) (ci := 3) (n := 2) 0 (move3 l_ E m ma ml ms mp mt h an (P.length) ar1 lo st mpk mpv (rwK 600 n f P) (rwV 600 n g P) (rwN 600 n P) j (by omega) (by omega) (by omega)) (zGIV (fun _ => zTs_in) wk_375 wk_372 wk_373 wk_374 wk_18) rfl ⟨rfl, by decide, by decide, by decide +kernel⟩ rfl rfl rfl rfl (by decide) rfl rfl (Nat.le_of_ble_eq_true rfl) ⟨by decide, by decide⟩ rfl rfl ⟨by decide, by decide⟩ ⟨by decide, by decide⟩ dX3_call_161 rfl (fun w161 hB161 => ?_)
          obtain rfl := hB161
          refine z_perm [4, 5, 6, 7, 8, 9, 10, 0, 1, 2, 3] [(m, zo 3 [.ref ma, .ref ml, .ref ms, .int (nI (h - 1)), .int an, .ref mp, .int (nI (P.length)), .ref mt]), (ma, zi E 3 ar1), (ml, zi E 4 (upd lo j (st (h - 1)))), (ms, zi E 8 st), (mp, zo 4 [.ref mpk, .ref mpv, .int (nI (rwN 600 n P))]), (mpk, zi E 600 (rwK 600 n f P)), (mpv, zi E 600 (rwV 600 n g P)), (mt, zi E 4 (zn stp)), (p, zo 5 [.int (nI kd), .ref po, .ref pn, .int (nI len)]), (po, zi E 64 op), (pn, zi E 64 nn)] (by decide) rfl ?_
          refine z_iinc 167 C0 2 [1, 2, 0, 3, 4, 5] [(0, .ref m), (1, .ref p), (5, .int (nI (i + 1))), (6, .int (nI (k + 1))), (7, .int (nI 3)), (8, .int (nI j))] (v := (nI (i + 1))) dX3_call_164 rfl rfl (z_incN _ _) (by decide) rfl ?_
          refine z_iinc 170 C0 3 [1, 2, 3, 0, 4, 5] [(0, .ref m), (1, .ref p), (5, .int (nI (i + 1))), (6, .int (nI (k + 2))), (7, .int (nI 3)), (8, .int (nI j))] (v := (nI (k + 2))) dX3_call_167 rfl rfl ((z_incN (k + 1) 1).trans (congrArg nI (by omega))) (by decide) rfl ?_
          refine z_goto 14 C0 dX3_call_170 (by decide) ?_
          refine z_loc [0, 1, 2, 3] [(0, .ref m), (1, .ref p), (5, .int (nI (i + 1))), (6, .int (nI (k + 2)))] rfl ?_
          exact ih14 (k + 1) fu (i + 1) (h - 1) (upd lo j (st (h - 1))) st P (by omega) (hR.next ho ⟨by decide, by decide, by decide⟩) hP ((mRun_step hop (by decide) (by decide) (by decide) (fun q => absurd q.1 (by decide)) hcl).symm.trans hM) (by omega)
        · skip
          have hnd : 1 ≤ h := by have := ho.2.2.1; simpa [pNeed, nNeed] using this
          have hup : h + 1 - 0 ≤ 8 := ho.2.2.2
          have hcl : (nn i).toNatClampNeg = (nn i).toNatClampNeg := rfl
          refine z_aload_n 32 C0 1 dX3_call_31 rfl rfl rfl ?_
          refine z_get 35 C0 8 1 wz_5 rfl (by decide) (zTs_in wk_71) dX3_call_32 rfl rfl rfl ?_
          refine z_iload 37 C0 2 dX3_call_35 rfl rfl ?_
          refine z_ialdN 38 C0 9 (v := (nI 4)) dX3_call_37 rfl rfl (by omega) (by decide) hop ?_
          refine z_istore 40 C0 [1, 2, 3, 4, 0] [(0, .ref m), (1, .ref p), (5, .int (nI i)), (6, .int (nI (k + 1))), (7, .int (nI 4))] dX3_call_38 rfl (by decide) rfl ?_
          refine z_aload_n 41 C0 1 dX3_call_40 rfl rfl rfl ?_
          refine z_get 44 C0 8 2 wz_5 rfl (by decide) (zTs_in wk_74) dX3_call_41 rfl rfl rfl ?_
          refine z_iload 46 C0 2 dX3_call_44 rfl rfl ?_
          refine z_ialdN 47 C0 10 (v := (nn i)) dX3_call_46 rfl rfl (by omega) (by decide) rfl ?_
          refine z_istore 49 C0 [1, 2, 3, 4, 5, 0] [(0, .ref m), (1, .ref p), (5, .int (nI i)), (6, .int (nI (k + 1))), (7, .int (nI 4)), (8, .int (nn i))] dX3_call_47 rfl (by decide) rfl ?_
          refine z_iload 51 C0 4 dX3_call_49 rfl rfl ?_
          refine z_bipush 53 C0 (v := (nI 17)) dX3_call_51 rfl rfl ?_
          refine z_icmp_eqN 56 63 C0 (by decide) (by decide) dX3_call_53 rfl (by decide) (fun k53 => absurd k53 (by omega)) (fun k53 => ?_)
          refine z_iload 58 C0 4 dX3_call_56 rfl rfl ?_
          refine z_bipush 60 C0 (v := (nI 18)) dX3_call_58 rfl rfl ?_
          refine z_icmp_neN 63 98 C0 (by decide) (by decide) dX3_call_60 rfl (by decide) (fun k60 => ?_) (fun k60 => absurd k60 (by omega))
          refine z_iload 100 C0 4 dX3_call_98 rfl rfl ?_
          refine z_bipush 102 C0 (v := (nI 16)) dX3_call_100 rfl rfl ?_
          refine z_icmp_neN 105 116 C0 (by decide) (by decide) dX3_call_102 rfl (by decide) (fun k102 => ?_) (fun k102 => absurd k102 (by omega))
          refine z_iload 118 C0 4 dX3_call_116 rfl rfl ?_
          refine z_callSNi 121 C0 [] [0, 1, 2, 3, 4, 5, 6, 7, 8, 9, 10] [(m, zo 3 [.ref ma, .ref ml, .ref ms, .int (nI h), .int an, .ref mp, .int (nI (P.length)), .ref mt]), (ma, zi E 3 ar1), (ml, zi E 4 lo), (ms, zi E 8 st), (mp, zo 4 [.ref mpk, .ref mpv, .int (nI (rwN 600 n P))]), (mpk, zi E 600 (rwK 600 n f P)), (mpv, zi E 600 (rwV 600 n g P)), (mt, zi E 4 (zn stp)), (p, zo 5 [.int (nI kd), .ref po, .ref pn, .int (nI len)]), (po, zi E 64 op), (pn, zi E 64 nn)] 0 0 (As := [.int (nI 4)]) (n := 1) (isJump l_ E 4 (by omega)) (zTs_good (fun _ => zTs_in) wk_276) rfl C0.2.2.2.2.2.2.2.2.2.1.1.2.2.2.2.1 (zTs_in wk_12) (zTs_in wk_275) ⟨by decide, by decide, by decide +kernel⟩ rfl rfl (by decide) rfl rfl (Nat.le_of_ble_eq_true rfl) ⟨by decide, by decide⟩ rfl rfl ⟨by decide, by decide⟩ ⟨by decide, by decide⟩ dX3_call_118 rfl (fun r118 w118 hB118 => ?_)
          obtain ⟨rfl, rfl⟩ := hB118
          refine z_perm [0, 1, 2, 3, 4, 5, 6, 7, 8, 9, 10] [(m, zo 3 [.ref ma, .ref ml, .ref ms, .int (nI h), .int an, .ref mp, .int (nI (P.length)), .ref mt]), (ma, zi E 3 ar1), (ml, zi E 4 lo), (ms, zi E 8 st), (mp, zo 4 [.ref mpk, .ref mpv, .int (nI (rwN 600 n P))]), (mpk, zi E 600 (rwK 600 n f P)), (mpv, zi E 600 (rwV 600 n g P)), (mt, zi E 4 (zn stp)), (p, zo 5 [.int (nI kd), .ref po, .ref pn, .int (nI len)]), (po, zi E 64 op), (pn, zi E 64 nn)] (by decide) rfl ?_
          refine z_if_eqP 124 139 C0 dX3_call_121 rfl (by decide) (fun k121 => ?_) (fun k121 => absurd k121 (by omega))
          refine z_iload 141 C0 4 dX3_call_139 rfl rfl ?_
          refine z_callSNi 144 C0 [] [0, 1, 2, 3, 4, 5, 6, 7, 8, 9, 10] [(m, zo 3 [.ref ma, .ref ml, .ref ms, .int (nI h), .int an, .ref mp, .int (nI (P.length)), .ref mt]), (ma, zi E 3 ar1), (ml, zi E 4 lo), (ms, zi E 8 st), (mp, zo 4 [.ref mpk, .ref mpv, .int (nI (rwN 600 n P))]), (mpk, zi E 600 (rwK 600 n f P)), (mpv, zi E 600 (rwV 600 n g P)), (mt, zi E 4 (zn stp)), (p, zo 5 [.int (nI kd), .ref po, .ref pn, .int (nI len)]), (po, zi E 64 op), (pn, zi E 64 nn)] 0 0 (As := [.int (nI 4)]) (n := 1) (isComb l_ E 4 (by omega)) (zTs_good (fun _ => zTs_in) wk_360) rfl C0.2.2.2.2.2.2.2.2.2.1.1.2.2.2.2.2 (zTs_in wk_12) (zTs_in wk_359) ⟨by decide, by decide, by decide +kernel⟩ rfl rfl (by decide) rfl rfl (Nat.le_of_ble_eq_true rfl) ⟨by decide, by decide⟩ rfl rfl ⟨by decide, by decide⟩ ⟨by decide, by decide⟩ dX3_call_141 rfl (fun r141 w141 hB141 => ?_)
          obtain ⟨rfl, rfl⟩ := hB141
          refine z_perm [0, 1, 2, 3, 4, 5, 6, 7, 8, 9, 10] [(m, zo 3 [.ref ma, .ref ml, .ref ms, .int (nI h), .int an, .ref mp, .int (nI (P.length)), .ref mt]), (ma, zi E 3 ar1), (ml, zi E 4 lo), (ms, zi E 8 st), (mp, zo 4 [.ref mpk, .ref mpv, .int (nI (rwN 600 n P))]), (mpk, zi E 600 (rwK 600 n f P)), (mpv, zi E 600 (rwV 600 n g P)), (mt, zi E 4 (zn stp)), (p, zo 5 [.int (nI kd), .ref po, .ref pn, .int (nI len)]), (po, zi E 64 op), (pn, zi E 64 nn)] (by decide) rfl ?_
          refine z_if_eqP 147 156 C0 dX3_call_144 rfl (by decide) (fun k144 => ?_) (fun k144 => absurd k144 (by omega))
          refine z_aload_n 157 C0 0 dX3_call_156 rfl rfl rfl ?_
          refine z_iload 159 C0 4 dX3_call_157 rfl rfl ?_
          refine z_iload 161 C0 5 dX3_call_159 rfl rfl ?_
          refine z_callVv 164 C0 [0, 1, 2, 3, 4, 5, 6] [7, 8, 9, 10] [(mt, zi E 4 (zn stp)), (p, zo 5 [.int (nI kd), .ref po, .ref pn, .int (nI len)]), (po, zi E 64 op), (pn, zi E 64 nn)] 0 0 (As := [.int (nI 4), .int (nn i)]) (T := TX3) (N := 8) (C := RX3) (ci := 3) (n := 2) 0 (move4 l_ E m ma ml ms mp mt h an (P.length) ar1 lo st mpk mpv (rwK 600 n f P) (rwV 600 n g P) (rwN 600 n P) (nn i) (by omega) (by omega) (by omega)) (zGIV (fun _ => zTs_in) wk_375 wk_372 wk_373 wk_374 wk_18) rfl ⟨rfl, by decide, by decide, by decide +kernel⟩ rfl rfl rfl rfl (by decide) rfl rfl (Nat.le_of_ble_eq_true rfl) ⟨by decide, by decide⟩ rfl rfl ⟨by decide, by decide⟩ ⟨by decide, by decide⟩ dX3_call_161 rfl (fun w161 hB161 => ?_)
          obtain rfl := hB161
          refine z_perm [4, 5, 6, 7, 8, 9, 10, 0, 1, 2, 3] [(m, zo 3 [.ref ma, .ref ml, .ref ms, .int (nI (h + 1)), .int an, .ref mp, .int (nI (P.length)), .ref mt]), (ma, zi E 3 ar1), (ml, zi E 4 lo), (ms, zi E 8 (upd st h (st (h - 1)))), (mp, zo 4 [.ref mpk, .ref mpv, .int (nI (rwN 600 n P))]), (mpk, zi E 600 (rwK 600 n f P)), (mpv, zi E 600 (rwV 600 n g P)), (mt, zi E 4 (zn stp)), (p, zo 5 [.int (nI kd), .ref po, .ref pn, .int (nI len)]), (po, zi E 64 op), (pn, zi E 64 nn)] (by decide) rfl ?_
          refine z_iinc 167 C0 2 [1, 2, 0, 3, 4, 5] [(0, .ref m), (1, .ref p), (5, .int (nI (i + 1))), (6, .int (nI (k + 1))), (7, .int (nI 4)), (8, .int (nn i))] (v := (nI (i + 1))) dX3_call_164 rfl rfl (z_incN _ _) (by decide) rfl ?_
          refine z_iinc 170 C0 3 [1, 2, 3, 0, 4, 5] [(0, .ref m), (1, .ref p), (5, .int (nI (i + 1))), (6, .int (nI (k + 2))), (7, .int (nI 4)), (8, .int (nn i))] (v := (nI (k + 2))) dX3_call_167 rfl rfl ((z_incN (k + 1) 1).trans (congrArg nI (by omega))) (by decide) rfl ?_
          refine z_goto 14 C0 dX3_call_170 (by decide) ?_
          refine z_loc [0, 1, 2, 3] [(0, .ref m), (1, .ref p), (5, .int (nI (i + 1))), (6, .int (nI (k + 2)))] rfl ?_
          exact ih14 (k + 1) fu (i + 1) (h + 1) lo (upd st h (st (h - 1))) P (by omega) (hR.next ho ⟨by decide, by decide, by decide⟩) hP ((mRun_step hop (by decide) (by decide) (by decide) (fun q => absurd q.1 (by decide)) hcl).symm.trans hM) (by omega)
        · skip
          have hnd : 2 ≤ h := by have := ho.2.2.1; simpa [pNeed, nNeed] using this
          have hup : h + 0 - 0 ≤ 8 := ho.2.2.2
          have hcl : (nn i).toNatClampNeg = (nn i).toNatClampNeg := rfl
          refine z_aload_n 32 C0 1 dX3_call_31 rfl rfl rfl ?_
          refine z_get 35 C0 8 1 wz_5 rfl (by decide) (zTs_in wk_71) dX3_call_32 rfl rfl rfl ?_
          refine z_iload 37 C0 2 dX3_call_35 rfl rfl ?_
          refine z_ialdN 38 C0 9 (v := (nI 5)) dX3_call_37 rfl rfl (by omega) (by decide) hop ?_
          refine z_istore 40 C0 [1, 2, 3, 4, 0] [(0, .ref m), (1, .ref p), (5, .int (nI i)), (6, .int (nI (k + 1))), (7, .int (nI 5))] dX3_call_38 rfl (by decide) rfl ?_
          refine z_aload_n 41 C0 1 dX3_call_40 rfl rfl rfl ?_
          refine z_get 44 C0 8 2 wz_5 rfl (by decide) (zTs_in wk_74) dX3_call_41 rfl rfl rfl ?_
          refine z_iload 46 C0 2 dX3_call_44 rfl rfl ?_
          refine z_ialdN 47 C0 10 (v := (nn i)) dX3_call_46 rfl rfl (by omega) (by decide) rfl ?_
          refine z_istore 49 C0 [1, 2, 3, 4, 5, 0] [(0, .ref m), (1, .ref p), (5, .int (nI i)), (6, .int (nI (k + 1))), (7, .int (nI 5)), (8, .int (nn i))] dX3_call_47 rfl (by decide) rfl ?_
          refine z_iload 51 C0 4 dX3_call_49 rfl rfl ?_
          refine z_bipush 53 C0 (v := (nI 17)) dX3_call_51 rfl rfl ?_
          refine z_icmp_eqN 56 63 C0 (by decide) (by decide) dX3_call_53 rfl (by decide) (fun k53 => absurd k53 (by omega)) (fun k53 => ?_)
          refine z_iload 58 C0 4 dX3_call_56 rfl rfl ?_
          refine z_bipush 60 C0 (v := (nI 18)) dX3_call_58 rfl rfl ?_
          refine z_icmp_neN 63 98 C0 (by decide) (by decide) dX3_call_60 rfl (by decide) (fun k60 => ?_) (fun k60 => absurd k60 (by omega))
          refine z_iload 100 C0 4 dX3_call_98 rfl rfl ?_
          refine z_bipush 102 C0 (v := (nI 16)) dX3_call_100 rfl rfl ?_
          refine z_icmp_neN 105 116 C0 (by decide) (by decide) dX3_call_102 rfl (by decide) (fun k102 => ?_) (fun k102 => absurd k102 (by omega))
          refine z_iload 118 C0 4 dX3_call_116 rfl rfl ?_
          refine z_callSNi 121 C0 [] [0, 1, 2, 3, 4, 5, 6, 7, 8, 9, 10] [(m, zo 3 [.ref ma, .ref ml, .ref ms, .int (nI h), .int an, .ref mp, .int (nI (P.length)), .ref mt]), (ma, zi E 3 ar1), (ml, zi E 4 lo), (ms, zi E 8 st), (mp, zo 4 [.ref mpk, .ref mpv, .int (nI (rwN 600 n P))]), (mpk, zi E 600 (rwK 600 n f P)), (mpv, zi E 600 (rwV 600 n g P)), (mt, zi E 4 (zn stp)), (p, zo 5 [.int (nI kd), .ref po, .ref pn, .int (nI len)]), (po, zi E 64 op), (pn, zi E 64 nn)] 0 0 (As := [.int (nI 5)]) (n := 1) (isJump l_ E 5 (by omega)) (zTs_good (fun _ => zTs_in) wk_276) rfl C0.2.2.2.2.2.2.2.2.2.1.1.2.2.2.2.1 (zTs_in wk_12) (zTs_in wk_275) ⟨by decide, by decide, by decide +kernel⟩ rfl rfl (by decide) rfl rfl (Nat.le_of_ble_eq_true rfl) ⟨by decide, by decide⟩ rfl rfl ⟨by decide, by decide⟩ ⟨by decide, by decide⟩ dX3_call_118 rfl (fun r118 w118 hB118 => ?_)
          obtain ⟨rfl, rfl⟩ := hB118
          refine z_perm [0, 1, 2, 3, 4, 5, 6, 7, 8, 9, 10] [(m, zo 3 [.ref ma, .ref ml, .ref ms, .int (nI h), .int an, .ref mp, .int (nI (P.length)), .ref mt]), (ma, zi E 3 ar1), (ml, zi E 4 lo), (ms, zi E 8 st), (mp, zo 4 [.ref mpk, .ref mpv, .int (nI (rwN 600 n P))]), (mpk, zi E 600 (rwK 600 n f P)), (mpv, zi E 600 (rwV 600 n g P)), (mt, zi E 4 (zn stp)), (p, zo 5 [.int (nI kd), .ref po, .ref pn, .int (nI len)]), (po, zi E 64 op), (pn, zi E 64 nn)] (by decide) rfl ?_
          refine z_if_eqP 124 139 C0 dX3_call_121 rfl (by decide) (fun k121 => ?_) (fun k121 => absurd k121 (by omega))
          refine z_iload 141 C0 4 dX3_call_139 rfl rfl ?_
          refine z_callSNi 144 C0 [] [0, 1, 2, 3, 4, 5, 6, 7, 8, 9, 10] [(m, zo 3 [.ref ma, .ref ml, .ref ms, .int (nI h), .int an, .ref mp, .int (nI (P.length)), .ref mt]), (ma, zi E 3 ar1), (ml, zi E 4 lo), (ms, zi E 8 st), (mp, zo 4 [.ref mpk, .ref mpv, .int (nI (rwN 600 n P))]), (mpk, zi E 600 (rwK 600 n f P)), (mpv, zi E 600 (rwV 600 n g P)), (mt, zi E 4 (zn stp)), (p, zo 5 [.int (nI kd), .ref po, .ref pn, .int (nI len)]), (po, zi E 64 op), (pn, zi E 64 nn)] 0 0 (As := [.int (nI 5)]) (n := 1) (isComb l_ E 5 (by omega)) (zTs_good (fun _ => zTs_in) wk_360) rfl C0.2.2.2.2.2.2.2.2.2.1.1.2.2.2.2.2 (zTs_in wk_12) (zTs_in wk_359) ⟨by decide, by decide, by decide +kernel⟩ rfl rfl (by decide) rfl rfl (Nat.le_of_ble_eq_true rfl) ⟨by decide, by decide⟩ rfl rfl ⟨by decide, by decide⟩ ⟨by decide, by decide⟩ dX3_call_141 rfl (fun r141 w141 hB141 => ?_)
          obtain ⟨rfl, rfl⟩ := hB141
          refine z_perm [0, 1, 2, 3, 4, 5, 6, 7, 8, 9, 10] [(m, zo 3 [.ref ma, .ref ml, .ref ms, .int (nI h), .int an, .ref mp, .int (nI (P.length)), .ref mt]), (ma, zi E 3 ar1), (ml, zi E 4 lo), (ms, zi E 8 st), (mp, zo 4 [.ref mpk, .ref mpv, .int (nI (rwN 600 n P))]), (mpk, zi E 600 (rwK 600 n f P)), (mpv, zi E 600 (rwV 600 n g P)), (mt, zi E 4 (zn stp)), (p, zo 5 [.int (nI kd), .ref po, .ref pn, .int (nI len)]), (po, zi E 64 op), (pn, zi E 64 nn)] (by decide) rfl ?_
          refine z_if_eqP 147 156 C0 dX3_call_144 rfl (by decide) (fun k144 => ?_) (fun k144 => absurd k144 (by omega))
          refine z_aload_n 157 C0 0 dX3_call_156 rfl rfl rfl ?_
          refine z_iload 159 C0 4 dX3_call_157 rfl rfl ?_
          refine z_iload 161 C0 5 dX3_call_159 rfl rfl ?_
          refine z_callVv 164 C0 [0, 1, 2, 3, 4, 5, 6] [7, 8, 9, 10] [(mt, zi E 4 (zn stp)), (p, zo 5 [.int (nI kd), .ref po, .ref pn, .int (nI len)]), (po, zi E 64 op), (pn, zi E 64 nn)] 0 0 (As := [.int (nI 5), .int (nn i)]) (T := TX3) (N := 8) (C := RX3) (ci := 3) (n := 2) 0 (move5 l_ E m ma ml ms mp mt h an (P.length) ar1 lo st mpk mpv (rwK 600 n f P) (rwV 600 n g P) (rwN 600 n P) (nn i) (by omega) (by omega)) (zGIV (fun _ => zTs_in) wk_375 wk_372 wk_373 wk_374 wk_18) rfl ⟨rfl, by decide, by decide, by decide +kernel⟩ rfl rfl rfl rfl (by decide) rfl rfl (Nat.le_of_ble_eq_true rfl) ⟨by decide, by decide⟩ rfl rfl ⟨by decide, by decide⟩ ⟨by decide, by decide⟩ dX3_call_161 rfl (fun w161 hB161 => ?_)
          obtain rfl := hB161
          refine z_perm [4, 5, 6, 7, 8, 9, 10, 0, 1, 2, 3] [(m, zo 3 [.ref ma, .ref ml, .ref ms, .int (nI h), .int an, .ref mp, .int (nI (P.length)), .ref mt]), (ma, zi E 3 ar1), (ml, zi E 4 lo), (ms, zi E 8 (upd (upd st (h - 2) (st (h - 1))) (h - 1) (st (h - 2)))), (mp, zo 4 [.ref mpk, .ref mpv, .int (nI (rwN 600 n P))]), (mpk, zi E 600 (rwK 600 n f P)), (mpv, zi E 600 (rwV 600 n g P)), (mt, zi E 4 (zn stp)), (p, zo 5 [.int (nI kd), .ref po, .ref pn, .int (nI len)]), (po, zi E 64 op), (pn, zi E 64 nn)] (by decide) rfl ?_
          refine z_iinc 167 C0 2 [1, 2, 0, 3, 4, 5] [(0, .ref m), (1, .ref p), (5, .int (nI (i + 1))), (6, .int (nI (k + 1))), (7, .int (nI 5)), (8, .int (nn i))] (v := (nI (i + 1))) dX3_call_164 rfl rfl (z_incN _ _) (by decide) rfl ?_
          refine z_iinc 170 C0 3 [1, 2, 3, 0, 4, 5] [(0, .ref m), (1, .ref p), (5, .int (nI (i + 1))), (6, .int (nI (k + 2))), (7, .int (nI 5)), (8, .int (nn i))] (v := (nI (k + 2))) dX3_call_167 rfl rfl ((z_incN (k + 1) 1).trans (congrArg nI (by omega))) (by decide) rfl ?_
          refine z_goto 14 C0 dX3_call_170 (by decide) ?_
          refine z_loc [0, 1, 2, 3] [(0, .ref m), (1, .ref p), (5, .int (nI (i + 1))), (6, .int (nI (k + 2)))] rfl ?_
          exact ih14 (k + 1) fu (i + 1) h lo (upd (upd st (h - 2) (st (h - 1))) (h - 1) (st (h - 2))) P (by omega) (hR.next ho ⟨by decide, by decide, by decide⟩) hP ((mRun_step hop (by decide) (by decide) (by decide) (fun q => absurd q.1 (by decide)) hcl).symm.trans hM) (by omega)
        · skip
          have hnd : 1 ≤ h := by have := ho.2.2.1; simpa [pNeed, nNeed] using this
          have hup : h + 0 - 1 ≤ 8 := ho.2.2.2
          have hcl : (nn i).toNatClampNeg = (nn i).toNatClampNeg := rfl
          refine z_aload_n 32 C0 1 dX3_call_31 rfl rfl rfl ?_
          refine z_get 35 C0 8 1 wz_5 rfl (by decide) (zTs_in wk_71) dX3_call_32 rfl rfl rfl ?_
          refine z_iload 37 C0 2 dX3_call_35 rfl rfl ?_
          refine z_ialdN 38 C0 9 (v := (nI 6)) dX3_call_37 rfl rfl (by omega) (by decide) hop ?_
          refine z_istore 40 C0 [1, 2, 3, 4, 0] [(0, .ref m), (1, .ref p), (5, .int (nI i)), (6, .int (nI (k + 1))), (7, .int (nI 6))] dX3_call_38 rfl (by decide) rfl ?_
          refine z_aload_n 41 C0 1 dX3_call_40 rfl rfl rfl ?_
          refine z_get 44 C0 8 2 wz_5 rfl (by decide) (zTs_in wk_74) dX3_call_41 rfl rfl rfl ?_
          refine z_iload 46 C0 2 dX3_call_44 rfl rfl ?_
          refine z_ialdN 47 C0 10 (v := (nn i)) dX3_call_46 rfl rfl (by omega) (by decide) rfl ?_
          refine z_istore 49 C0 [1, 2, 3, 4, 5, 0] [(0, .ref m), (1, .ref p), (5, .int (nI i)), (6, .int (nI (k + 1))), (7, .int (nI 6)), (8, .int (nn i))] dX3_call_47 rfl (by decide) rfl ?_
          refine z_iload 51 C0 4 dX3_call_49 rfl rfl ?_
          refine z_bipush 53 C0 (v := (nI 17)) dX3_call_51 rfl rfl ?_
          refine z_icmp_eqN 56 63 C0 (by decide) (by decide) dX3_call_53 rfl (by decide) (fun k53 => absurd k53 (by omega)) (fun k53 => ?_)
          refine z_iload 58 C0 4 dX3_call_56 rfl rfl ?_
          refine z_bipush 60 C0 (v := (nI 18)) dX3_call_58 rfl rfl ?_
          refine z_icmp_neN 63 98 C0 (by decide) (by decide) dX3_call_60 rfl (by decide) (fun k60 => ?_) (fun k60 => absurd k60 (by omega))
          refine z_iload 100 C0 4 dX3_call_98 rfl rfl ?_
          refine z_bipush 102 C0 (v := (nI 16)) dX3_call_100 rfl rfl ?_
          refine z_icmp_neN 105 116 C0 (by decide) (by decide) dX3_call_102 rfl (by decide) (fun k102 => ?_) (fun k102 => absurd k102 (by omega))
          refine z_iload 118 C0 4 dX3_call_116 rfl rfl ?_
          refine z_callSNi 121 C0 [] [0, 1, 2, 3, 4, 5, 6, 7, 8, 9, 10] [(m, zo 3 [.ref ma, .ref ml, .ref ms, .int (nI h), .int an, .ref mp, .int (nI (P.length)), .ref mt]), (ma, zi E 3 ar1), (ml, zi E 4 lo), (ms, zi E 8 st), (mp, zo 4 [.ref mpk, .ref mpv, .int (nI (rwN 600 n P))]), (mpk, zi E 600 (rwK 600 n f P)), (mpv, zi E 600 (rwV 600 n g P)), (mt, zi E 4 (zn stp)), (p, zo 5 [.int (nI kd), .ref po, .ref pn, .int (nI len)]), (po, zi E 64 op), (pn, zi E 64 nn)] 0 0 (As := [.int (nI 6)]) (n := 1) (isJump l_ E 6 (by omega)) (zTs_good (fun _ => zTs_in) wk_276) rfl C0.2.2.2.2.2.2.2.2.2.1.1.2.2.2.2.1 (zTs_in wk_12) (zTs_in wk_275) ⟨by decide, by decide, by decide +kernel⟩ rfl rfl (by decide) rfl rfl (Nat.le_of_ble_eq_true rfl) ⟨by decide, by decide⟩ rfl rfl ⟨by decide, by decide⟩ ⟨by decide, by decide⟩ dX3_call_118 rfl (fun r118 w118 hB118 => ?_)
          obtain ⟨rfl, rfl⟩ := hB118
          refine z_perm [0, 1, 2, 3, 4, 5, 6, 7, 8, 9, 10] [(m, zo 3 [.ref ma, .ref ml, .ref ms, .int (nI h), .int an, .ref mp, .int (nI (P.length)), .ref mt]), (ma, zi E 3 ar1), (ml, zi E 4 lo), (ms, zi E 8 st), (mp, zo 4 [.ref mpk, .ref mpv, .int (nI (rwN 600 n P))]), (mpk, zi E 600 (rwK 600 n f P)), (mpv, zi E 600 (rwV 600 n g P)), (mt, zi E 4 (zn stp)), (p, zo 5 [.int (nI kd), .ref po, .ref pn, .int (nI len)]), (po, zi E 64 op), (pn, zi E 64 nn)] (by decide) rfl ?_
          refine z_if_eqP 124 139 C0 dX3_call_121 rfl (by decide) (fun k121 => ?_) (fun k121 => absurd k121 (by omega))
          refine z_iload 141 C0 4 dX3_call_139 rfl rfl ?_
          refine z_callSNi 144 C0 [] [0, 1, 2, 3, 4, 5, 6, 7, 8, 9, 10] [(m, zo 3 [.ref ma, .ref ml, .ref ms, .int (nI h), .int an, .ref mp, .int (nI (P.length)), .ref mt]), (ma, zi E 3 ar1), (ml, zi E 4 lo), (ms, zi E 8 st), (mp, zo 4 [.ref mpk, .ref mpv, .int (nI (rwN 600 n P))]), (mpk, zi E 600 (rwK 600 n f P)), (mpv, zi E 600 (rwV 600 n g P)), (mt, zi E 4 (zn stp)), (p, zo 5 [.int (nI kd), .ref po, .ref pn, .int (nI len)]), (po, zi E 64 op), (pn, zi E 64 nn)] 0 0 (As := [.int (nI 6)]) (n := 1) (isComb l_ E 6 (by omega)) (zTs_good (fun _ => zTs_in) wk_360) rfl C0.2.2.2.2.2.2.2.2.2.1.1.2.2.2.2.2 (zTs_in wk_12) (zTs_in wk_359) ⟨by decide, by decide, by decide +kernel⟩ rfl rfl (by decide) rfl rfl (Nat.le_of_ble_eq_true rfl) ⟨by decide, by decide⟩ rfl rfl ⟨by decide, by decide⟩ ⟨by decide, by decide⟩ dX3_call_141 rfl (fun r141 w141 hB141 => ?_)
          obtain ⟨rfl, rfl⟩ := hB141
          refine z_perm [0, 1, 2, 3, 4, 5, 6, 7, 8, 9, 10] [(m, zo 3 [.ref ma, .ref ml, .ref ms, .int (nI h), .int an, .ref mp, .int (nI (P.length)), .ref mt]), (ma, zi E 3 ar1), (ml, zi E 4 lo), (ms, zi E 8 st), (mp, zo 4 [.ref mpk, .ref mpv, .int (nI (rwN 600 n P))]), (mpk, zi E 600 (rwK 600 n f P)), (mpv, zi E 600 (rwV 600 n g P)), (mt, zi E 4 (zn stp)), (p, zo 5 [.int (nI kd), .ref po, .ref pn, .int (nI len)]), (po, zi E 64 op), (pn, zi E 64 nn)] (by decide) rfl ?_
          refine z_if_eqP 147 156 C0 dX3_call_144 rfl (by decide) (fun k144 => ?_) (fun k144 => absurd k144 (by omega))
          refine z_aload_n 157 C0 0 dX3_call_156 rfl rfl rfl ?_
          refine z_iload 159 C0 4 dX3_call_157 rfl rfl ?_
          refine z_iload 161 C0 5 dX3_call_159 rfl rfl ?_
          refine z_callVv 164 C0 [0, 1, 2, 3, 4, 5, 6] [7, 8, 9, 10] [(mt, zi E 4 (zn stp)), (p, zo 5 [.int (nI kd), .ref po, .ref pn, .int (nI len)]), (po, zi E 64 op), (pn, zi E 64 nn)] 0 0 (As := [.int (nI 6), .int (nn i)]) (T := TX3) (N := 8) (C := RX3) (ci := 3) (n := 2) 0 (move6 l_ E m ma ml ms mp mt h an (P.length) ar1 lo st mpk mpv (rwK 600 n f P) (rwV 600 n g P) (rwN 600 n P) (nn i) (by omega) (by omega)) (zGIV (fun _ => zTs_in) wk_375 wk_372 wk_373 wk_374 wk_18) rfl ⟨rfl, by decide, by decide, by decide +kernel⟩ rfl rfl rfl rfl (by decide) rfl rfl (Nat.le_of_ble_eq_true rfl) ⟨by decide, by decide⟩ rfl rfl ⟨by decide, by decide⟩ ⟨by decide, by decide⟩ dX3_call_161 rfl (fun w161 hB161 => ?_)
          obtain rfl := hB161
          refine z_perm [4, 5, 6, 7, 8, 9, 10, 0, 1, 2, 3] [(m, zo 3 [.ref ma, .ref ml, .ref ms, .int (nI (h - 1)), .int an, .ref mp, .int (nI (P.length)), .ref mt]), (ma, zi E 3 ar1), (ml, zi E 4 lo), (ms, zi E 8 st), (mp, zo 4 [.ref mpk, .ref mpv, .int (nI (rwN 600 n P))]), (mpk, zi E 600 (rwK 600 n f P)), (mpv, zi E 600 (rwV 600 n g P)), (mt, zi E 4 (zn stp)), (p, zo 5 [.int (nI kd), .ref po, .ref pn, .int (nI len)]), (po, zi E 64 op), (pn, zi E 64 nn)] (by decide) rfl ?_
          refine z_iinc 167 C0 2 [1, 2, 0, 3, 4, 5] [(0, .ref m), (1, .ref p), (5, .int (nI (i + 1))), (6, .int (nI (k + 1))), (7, .int (nI 6)), (8, .int (nn i))] (v := (nI (i + 1))) dX3_call_164 rfl rfl (z_incN _ _) (by decide) rfl ?_
          refine z_iinc 170 C0 3 [1, 2, 3, 0, 4, 5] [(0, .ref m), (1, .ref p), (5, .int (nI (i + 1))), (6, .int (nI (k + 2))), (7, .int (nI 6)), (8, .int (nn i))] (v := (nI (k + 2))) dX3_call_167 rfl rfl ((z_incN (k + 1) 1).trans (congrArg nI (by omega))) (by decide) rfl ?_
          refine z_goto 14 C0 dX3_call_170 (by decide) ?_
          refine z_loc [0, 1, 2, 3] [(0, .ref m), (1, .ref p), (5, .int (nI (i + 1))), (6, .int (nI (k + 2)))] rfl ?_
          exact ih14 (k + 1) fu (i + 1) (h - 1) lo st P (by omega) (hR.next ho ⟨by decide, by decide, by decide⟩) hP ((mRun_step hop (by decide) (by decide) (by decide) (fun q => absurd q.1 (by decide)) hcl).symm.trans hM) (by omega)
        · skip
          have hnd : 2 ≤ h := by have := ho.2.2.1; simpa [pNeed, nNeed] using this
          have hup : h + 0 - 1 ≤ 8 := ho.2.2.2
          have hcl : (nn i).toNatClampNeg = (nn i).toNatClampNeg := rfl
          refine z_aload_n 32 C0 1 dX3_call_31 rfl rfl rfl ?_
          refine z_get 35 C0 8 1 wz_5 rfl (by decide) (zTs_in wk_71) dX3_call_32 rfl rfl rfl ?_
          refine z_iload 37 C0 2 dX3_call_35 rfl rfl ?_
          refine z_ialdN 38 C0 9 (v := (nI 7)) dX3_call_37 rfl rfl (by omega) (by decide) hop ?_
          refine z_istore 40 C0 [1, 2, 3, 4, 0] [(0, .ref m), (1, .ref p), (5, .int (nI i)), (6, .int (nI (k + 1))), (7, .int (nI 7))] dX3_call_38 rfl (by decide) rfl ?_
          refine z_aload_n 41 C0 1 dX3_call_40 rfl rfl rfl ?_
          refine z_get 44 C0 8 2 wz_5 rfl (by decide) (zTs_in wk_74) dX3_call_41 rfl rfl rfl ?_
          refine z_iload 46 C0 2 dX3_call_44 rfl rfl ?_
          refine z_ialdN 47 C0 10 (v := (nn i)) dX3_call_46 rfl rfl (by omega) (by decide) rfl ?_
          refine z_istore 49 C0 [1, 2, 3, 4, 5, 0] [(0, .ref m), (1, .ref p), (5, .int (nI i)), (6, .int (nI (k + 1))), (7, .int (nI 7)), (8, .int (nn i))] dX3_call_47 rfl (by decide) rfl ?_
          refine z_iload 51 C0 4 dX3_call_49 rfl rfl ?_
          refine z_bipush 53 C0 (v := (nI 17)) dX3_call_51 rfl rfl ?_
          refine z_icmp_eqN 56 63 C0 (by decide) (by decide) dX3_call_53 rfl (by decide) (fun k53 => absurd k53 (by omega)) (fun k53 => ?_)
          refine z_iload 58 C0 4 dX3_call_56 rfl rfl ?_
          refine z_bipush 60 C0 (v := (nI 18)) dX3_call_58 rfl rfl ?_
          refine z_icmp_neN 63 98 C0 (by decide) (by decide) dX3_call_60 rfl (by decide) (fun k60 => ?_) (fun k60 => absurd k60 (by omega))
          refine z_iload 100 C0 4 dX3_call_98 rfl rfl ?_
          refine z_bipush 102 C0 (v := (nI 16)) dX3_call_100 rfl rfl ?_
          refine z_icmp_neN 105 116 C0 (by decide) (by decide) dX3_call_102 rfl (by decide) (fun k102 => ?_) (fun k102 => absurd k102 (by omega))
          refine z_iload 118 C0 4 dX3_call_116 rfl rfl ?_
          refine z_callSNi 121 C0 [] [0, 1, 2, 3, 4, 5, 6, 7, 8, 9, 10] [(m, zo 3 [.ref ma, .ref ml, .ref ms, .int (nI h), .int an, .ref mp, .int (nI (P.length)), .ref mt]), (ma, zi E 3 ar1), (ml, zi E 4 lo), (ms, zi E 8 st), (mp, zo 4 [.ref mpk, .ref mpv, .int (nI (rwN 600 n P))]), (mpk, zi E 600 (rwK 600 n f P)), (mpv, zi E 600 (rwV 600 n g P)), (mt, zi E 4 (zn stp)), (p, zo 5 [.int (nI kd), .ref po, .ref pn, .int (nI len)]), (po, zi E 64 op), (pn, zi E 64 nn)] 0 0 (As := [.int (nI 7)]) (n := 1) (isJump l_ E 7 (by omega)) (zTs_good (fun _ => zTs_in) wk_276) rfl C0.2.2.2.2.2.2.2.2.2.1.1.2.2.2.2.1 (zTs_in wk_12) (zTs_in wk_275) ⟨by decide, by decide, by decide +kernel⟩ rfl rfl (by decide) rfl rfl (Nat.le_of_ble_eq_true rfl) ⟨by decide, by decide⟩ rfl rfl ⟨by decide, by decide⟩ ⟨by decide, by decide⟩ dX3_call_118 rfl (fun r118 w118 hB118 => ?_)
          obtain ⟨rfl, rfl⟩ := hB118
          refine z_perm [0, 1, 2, 3, 4, 5, 6, 7, 8, 9, 10] [(m, zo 3 [.ref ma, .ref ml, .ref ms, .int (nI h), .int an, .ref mp, .int (nI (P.length)), .ref mt]), (ma, zi E 3 ar1), (ml, zi E 4 lo), (ms, zi E 8 st), (mp, zo 4 [.ref mpk, .ref mpv, .int (nI (rwN 600 n P))]), (mpk, zi E 600 (rwK 600 n f P)), (mpv, zi E 600 (rwV 600 n g P)), (mt, zi E 4 (zn stp)), (p, zo 5 [.int (nI kd), .ref po, .ref pn, .int (nI len)]), (po, zi E 64 op), (pn, zi E 64 nn)] (by decide) rfl ?_
          refine z_if_eqP 124 139 C0 dX3_call_121 rfl (by decide) (fun k121 => ?_) (fun k121 => absurd k121 (by omega))
          refine z_iload 141 C0 4 dX3_call_139 rfl rfl ?_
          refine z_callSNi 144 C0 [] [0, 1, 2, 3, 4, 5, 6, 7, 8, 9, 10] [(m, zo 3 [.ref ma, .ref ml, .ref ms, .int (nI h), .int an, .ref mp, .int (nI (P.length)), .ref mt]), (ma, zi E 3 ar1), (ml, zi E 4 lo), (ms, zi E 8 st), (mp, zo 4 [.ref mpk, .ref mpv, .int (nI (rwN 600 n P))]), (mpk, zi E 600 (rwK 600 n f P)), (mpv, zi E 600 (rwV 600 n g P)), (mt, zi E 4 (zn stp)), (p, zo 5 [.int (nI kd), .ref po, .ref pn, .int (nI len)]), (po, zi E 64 op), (pn, zi E 64 nn)] 0 0 (As := [.int (nI 7)]) (n := 1) (isComb l_ E 7 (by omega)) (zTs_good (fun _ => zTs_in) wk_360) rfl C0.2.2.2.2.2.2.2.2.2.1.1.2.2.2.2.2 (zTs_in wk_12) (zTs_in wk_359) ⟨by decide, by decide, by decide +kernel⟩ rfl rfl (by decide) rfl rfl (Nat.le_of_ble_eq_true rfl) ⟨by decide, by decide⟩ rfl rfl ⟨by decide, by decide⟩ ⟨by decide, by decide⟩ dX3_call_141 rfl (fun r141 w141 hB141 => ?_)
          obtain ⟨rfl, rfl⟩ := hB141
          refine z_perm [0, 1, 2, 3, 4, 5, 6, 7, 8, 9, 10] [(m, zo 3 [.ref ma, .ref ml, .ref ms, .int (nI h), .int an, .ref mp, .int (nI (P.length)), .ref mt]), (ma, zi E 3 ar1), (ml, zi E 4 lo), (ms, zi E 8 st), (mp, zo 4 [.ref mpk, .ref mpv, .int (nI (rwN 600 n P))]), (mpk, zi E 600 (rwK 600 n f P)), (mpv, zi E 600 (rwV 600 n g P)), (mt, zi E 4 (zn stp)), (p, zo 5 [.int (nI kd), .ref po, .ref pn, .int (nI len)]), (po, zi E 64 op), (pn, zi E 64 nn)] (by decide) rfl ?_
          refine z_if_eqP 147 156 C0 dX3_call_144 rfl (by decide) (fun k144 => absurd k144 (by omega)) (fun k144 => ?_)
          refine z_aload_n 148 C0 0 dX3_call_147 rfl rfl rfl ?_
          refine z_iload 150 C0 4 dX3_call_148 rfl rfl ?_
          refine z_callVv 153 C0 [0, 3] [1, 2, 4, 5, 6, 7, 8, 9, 10] [(ma, zi E 3 ar1), (ml, zi E 4 lo), (mp, zo 4 [.ref mpk, .ref mpv, .int (nI (rwN 600 n P))]), (mpk, zi E 600 (rwK 600 n f P)), (mpv, zi E 600 (rwV 600 n g P)), (mt, zi E 4 (zn stp)), (p, zo 5 [.int (nI kd), .ref po, .ref pn, .int (nI len)]), (po, zi E 64 op), (pn, zi E 64 nn)] 0 0 (As := [.int (nI 7)]) (T := TX3) (N := 8) (C := RX3) (ci := 3) (n := 1) 0 (combine l_ E m ma ml ms mp mt h an (P.length) st 7 (by omega) (by omega) (by omega) (by omega)) (zGIV (fun _ => zTs_in) wk_364 wk_361 wk_362 wk_363 wk_18) rfl ⟨rfl, by decide, by decide, by decide +kernel⟩ rfl rfl rfl rfl (by decide) rfl rfl (Nat.le_of_ble_eq_true rfl) ⟨by decide, by decide⟩ rfl rfl ⟨by decide, by decide⟩ ⟨by decide, by decide⟩ dX3_call_150 rfl (fun w150 hB150 => ?_)
          obtain rfl := hB150
          refine z_perm [9, 0, 1, 10, 2, 3, 4, 5, 6, 7, 8] [(m, zo 3 [.ref ma, .ref ml, .ref ms, .int (nI (h - 1)), .int an, .ref mp, .int (nI (P.length)), .ref mt]), (ma, zi E 3 ar1), (ml, zi E 4 lo), (ms, zi E 8 (upd st (h - 2) (cmb 7 (st (h - 2)) (st (h - 1))))), (mp, zo 4 [.ref mpk, .ref mpv, .int (nI (rwN 600 n P))]), (mpk, zi E 600 (rwK 600 n f P)), (mpv, zi E 600 (rwV 600 n g P)), (mt, zi E 4 (zn stp)), (p, zo 5 [.int (nI kd), .ref po, .ref pn, .int (nI len)]), (po, zi E 64 op), (pn, zi E 64 nn)] (by decide) rfl ?_
          refine z_goto 164 C0 dX3_call_153 (by decide) ?_
          refine z_iinc 167 C0 2 [1, 2, 0, 3, 4, 5] [(0, .ref m), (1, .ref p), (5, .int (nI (i + 1))), (6, .int (nI (k + 1))), (7, .int (nI 7)), (8, .int (nn i))] (v := (nI (i + 1))) dX3_call_164 rfl rfl (z_incN _ _) (by decide) rfl ?_
          refine z_iinc 170 C0 3 [1, 2, 3, 0, 4, 5] [(0, .ref m), (1, .ref p), (5, .int (nI (i + 1))), (6, .int (nI (k + 2))), (7, .int (nI 7)), (8, .int (nn i))] (v := (nI (k + 2))) dX3_call_167 rfl rfl ((z_incN (k + 1) 1).trans (congrArg nI (by omega))) (by decide) rfl ?_
          refine z_goto 14 C0 dX3_call_170 (by decide) ?_
          refine z_loc [0, 1, 2, 3] [(0, .ref m), (1, .ref p), (5, .int (nI (i + 1))), (6, .int (nI (k + 2)))] rfl ?_
          exact ih14 (k + 1) fu (i + 1) (h - 1) lo (upd st (h - 2) (cmb 7 (st (h - 2)) (st (h - 1)))) P (by omega) (hR.next ho ⟨by decide, by decide, by decide⟩) hP ((mRun_step hop (by decide) (by decide) (by decide) (fun q => absurd q.1 (by decide)) hcl).symm.trans hM) (by omega)
        · skip
          have hnd : 2 ≤ h := by have := ho.2.2.1; simpa [pNeed, nNeed] using this
          have hup : h + 0 - 1 ≤ 8 := ho.2.2.2
          have hcl : (nn i).toNatClampNeg = (nn i).toNatClampNeg := rfl
          refine z_aload_n 32 C0 1 dX3_call_31 rfl rfl rfl ?_
          refine z_get 35 C0 8 1 wz_5 rfl (by decide) (zTs_in wk_71) dX3_call_32 rfl rfl rfl ?_
          refine z_iload 37 C0 2 dX3_call_35 rfl rfl ?_
          refine z_ialdN 38 C0 9 (v := (nI 8)) dX3_call_37 rfl rfl (by omega) (by decide) hop ?_
          refine z_istore 40 C0 [1, 2, 3, 4, 0] [(0, .ref m), (1, .ref p), (5, .int (nI i)), (6, .int (nI (k + 1))), (7, .int (nI 8))] dX3_call_38 rfl (by decide) rfl ?_
          refine z_aload_n 41 C0 1 dX3_call_40 rfl rfl rfl ?_
          refine z_get 44 C0 8 2 wz_5 rfl (by decide) (zTs_in wk_74) dX3_call_41 rfl rfl rfl ?_
          refine z_iload 46 C0 2 dX3_call_44 rfl rfl ?_
          refine z_ialdN 47 C0 10 (v := (nn i)) dX3_call_46 rfl rfl (by omega) (by decide) rfl ?_
          refine z_istore 49 C0 [1, 2, 3, 4, 5, 0] [(0, .ref m), (1, .ref p), (5, .int (nI i)), (6, .int (nI (k + 1))), (7, .int (nI 8)), (8, .int (nn i))] dX3_call_47 rfl (by decide) rfl ?_
          refine z_iload 51 C0 4 dX3_call_49 rfl rfl ?_
          refine z_bipush 53 C0 (v := (nI 17)) dX3_call_51 rfl rfl ?_
          refine z_icmp_eqN 56 63 C0 (by decide) (by decide) dX3_call_53 rfl (by decide) (fun k53 => absurd k53 (by omega)) (fun k53 => ?_)
          refine z_iload 58 C0 4 dX3_call_56 rfl rfl ?_
          refine z_bipush 60 C0 (v := (nI 18)) dX3_call_58 rfl rfl ?_
          refine z_icmp_neN 63 98 C0 (by decide) (by decide) dX3_call_60 rfl (by decide) (fun k60 => ?_) (fun k60 => absurd k60 (by omega))
          refine z_iload 100 C0 4 dX3_call_98 rfl rfl ?_
          refine z_bipush 102 C0 (v := (nI 16)) dX3_call_100 rfl rfl ?_
          refine z_icmp_neN 105 116 C0 (by decide) (by decide) dX3_call_102 rfl (by decide) (fun k102 => ?_) (fun k102 => absurd k102 (by omega))
          refine z_iload 118 C0 4 dX3_call_116 rfl rfl ?_
          refine z_callSNi 121 C0 [] [0, 1, 2, 3, 4, 5, 6, 7, 8, 9, 10] [(m, zo 3 [.ref ma, .ref ml, .ref ms, .int (nI h), .int an, .ref mp, .int (nI (P.length)), .ref mt]), (ma, zi E 3 ar1), (ml, zi E 4 lo), (ms, zi E 8 st), (mp, zo 4 [.ref mpk, .ref mpv, .int (nI (rwN 600 n P))]), (mpk, zi E 600 (rwK 600 n f P)), (mpv, zi E 600 (rwV 600 n g P)), (mt, zi E 4 (zn stp)), (p, zo 5 [.int (nI kd), .ref po, .ref pn, .int (nI len)]), (po, zi E 64 op), (pn, zi E 64 nn)] 0 0 (As := [.int (nI 8)]) (n := 1) (isJump l_ E 8 (by omega)) (zTs_good (fun _ => zTs_in) wk_276) rfl C0.2.2.2.2.2.2.2.2.2.1.1.2.2.2.2.1 (zTs_in wk_12) (zTs_in wk_275) ⟨by decide, by decide, by decide +kernel⟩ rfl rfl (by decide) rfl rfl (Nat.le_of_ble_eq_true rfl) ⟨by decide, by decide⟩ rfl rfl ⟨by decide, by decide⟩ ⟨by decide, by decide⟩ dX3_call_118 rfl (fun r118 w118 hB118 => ?_)
          obtain ⟨rfl, rfl⟩ := hB118
          refine z_perm [0, 1, 2, 3, 4, 5, 6, 7, 8, 9, 10] [(m, zo 3 [.ref ma, .ref ml, .ref ms, .int (nI h), .int an, .ref mp, .int (nI (P.length)), .ref mt]), (ma, zi E 3 ar1), (ml, zi E 4 lo), (ms, zi E 8 st), (mp, zo 4 [.ref mpk, .ref mpv, .int (nI (rwN 600 n P))]), (mpk, zi E 600 (rwK 600 n f P)), (mpv, zi E 600 (rwV 600 n g P)), (mt, zi E 4 (zn stp)), (p, zo 5 [.int (nI kd), .ref po, .ref pn, .int (nI len)]), (po, zi E 64 op), (pn, zi E 64 nn)] (by decide) rfl ?_
          refine z_if_eqP 124 139 C0 dX3_call_121 rfl (by decide) (fun k121 => ?_) (fun k121 => absurd k121 (by omega))
          refine z_iload 141 C0 4 dX3_call_139 rfl rfl ?_
          refine z_callSNi 144 C0 [] [0, 1, 2, 3, 4, 5, 6, 7, 8, 9, 10] [(m, zo 3 [.ref ma, .ref ml, .ref ms, .int (nI h), .int an, .ref mp, .int (nI (P.length)), .ref mt]), (ma, zi E 3 ar1), (ml, zi E 4 lo), (ms, zi E 8 st), (mp, zo 4 [.ref mpk, .ref mpv, .int (nI (rwN 600 n P))]), (mpk, zi E 600 (rwK 600 n f P)), (mpv, zi E 600 (rwV 600 n g P)), (mt, zi E 4 (zn stp)), (p, zo 5 [.int (nI kd), .ref po, .ref pn, .int (nI len)]), (po, zi E 64 op), (pn, zi E 64 nn)] 0 0 (As := [.int (nI 8)]) (n := 1) (isComb l_ E 8 (by omega)) (zTs_good (fun _ => zTs_in) wk_360) rfl C0.2.2.2.2.2.2.2.2.2.1.1.2.2.2.2.2 (zTs_in wk_12) (zTs_in wk_359) ⟨by decide, by decide, by decide +kernel⟩ rfl rfl (by decide) rfl rfl (Nat.le_of_ble_eq_true rfl) ⟨by decide, by decide⟩ rfl rfl ⟨by decide, by decide⟩ ⟨by decide, by decide⟩ dX3_call_141 rfl (fun r141 w141 hB141 => ?_)
          obtain ⟨rfl, rfl⟩ := hB141
          refine z_perm [0, 1, 2, 3, 4, 5, 6, 7, 8, 9, 10] [(m, zo 3 [.ref ma, .ref ml, .ref ms, .int (nI h), .int an, .ref mp, .int (nI (P.length)), .ref mt]), (ma, zi E 3 ar1), (ml, zi E 4 lo), (ms, zi E 8 st), (mp, zo 4 [.ref mpk, .ref mpv, .int (nI (rwN 600 n P))]), (mpk, zi E 600 (rwK 600 n f P)), (mpv, zi E 600 (rwV 600 n g P)), (mt, zi E 4 (zn stp)), (p, zo 5 [.int (nI kd), .ref po, .ref pn, .int (nI len)]), (po, zi E 64 op), (pn, zi E 64 nn)] (by decide) rfl ?_
          refine z_if_eqP 147 156 C0 dX3_call_144 rfl (by decide) (fun k144 => absurd k144 (by omega)) (fun k144 => ?_)
          refine z_aload_n 148 C0 0 dX3_call_147 rfl rfl rfl ?_
          refine z_iload 150 C0 4 dX3_call_148 rfl rfl ?_
          refine z_callVv 153 C0 [0, 3] [1, 2, 4, 5, 6, 7, 8, 9, 10] [(ma, zi E 3 ar1), (ml, zi E 4 lo), (mp, zo 4 [.ref mpk, .ref mpv, .int (nI (rwN 600 n P))]), (mpk, zi E 600 (rwK 600 n f P)), (mpv, zi E 600 (rwV 600 n g P)), (mt, zi E 4 (zn stp)), (p, zo 5 [.int (nI kd), .ref po, .ref pn, .int (nI len)]), (po, zi E 64 op), (pn, zi E 64 nn)] 0 0 (As := [.int (nI 8)]) (T := TX3) (N := 8) (C := RX3) (ci := 3) (n := 1) 0 (combine l_ E m ma ml ms mp mt h an (P.length) st 8 (by omega) (by omega) (by omega) (by omega)) (zGIV (fun _ => zTs_in) wk_364 wk_361 wk_362 wk_363 wk_18) rfl ⟨rfl, by decide, by decide, by decide +kernel⟩ rfl rfl rfl rfl (by decide) rfl rfl (Nat.le_of_ble_eq_true rfl) ⟨by decide, by decide⟩ rfl rfl ⟨by decide, by decide⟩ ⟨by decide, by decide⟩ dX3_call_150 rfl (fun w150 hB150 => ?_)
          obtain rfl := hB150
          refine z_perm [9, 0, 1, 10, 2, 3, 4, 5, 6, 7, 8] [(m, zo 3 [.ref ma, .ref ml, .ref ms, .int (nI (h - 1)), .int an, .ref mp, .int (nI (P.length)), .ref mt]), (ma, zi E 3 ar1), (ml, zi E 4 lo), (ms, zi E 8 (upd st (h - 2) (cmb 8 (st (h - 2)) (st (h - 1))))), (mp, zo 4 [.ref mpk, .ref mpv, .int (nI (rwN 600 n P))]), (mpk, zi E 600 (rwK 600 n f P)), (mpv, zi E 600 (rwV 600 n g P)), (mt, zi E 4 (zn stp)), (p, zo 5 [.int (nI kd), .ref po, .ref pn, .int (nI len)]), (po, zi E 64 op), (pn, zi E 64 nn)] (by decide) rfl ?_
          refine z_goto 164 C0 dX3_call_153 (by decide) ?_
          refine z_iinc 167 C0 2 [1, 2, 0, 3, 4, 5] [(0, .ref m), (1, .ref p), (5, .int (nI (i + 1))), (6, .int (nI (k + 1))), (7, .int (nI 8)), (8, .int (nn i))] (v := (nI (i + 1))) dX3_call_164 rfl rfl (z_incN _ _) (by decide) rfl ?_
          refine z_iinc 170 C0 3 [1, 2, 3, 0, 4, 5] [(0, .ref m), (1, .ref p), (5, .int (nI (i + 1))), (6, .int (nI (k + 2))), (7, .int (nI 8)), (8, .int (nn i))] (v := (nI (k + 2))) dX3_call_167 rfl rfl ((z_incN (k + 1) 1).trans (congrArg nI (by omega))) (by decide) rfl ?_
          refine z_goto 14 C0 dX3_call_170 (by decide) ?_
          refine z_loc [0, 1, 2, 3] [(0, .ref m), (1, .ref p), (5, .int (nI (i + 1))), (6, .int (nI (k + 2)))] rfl ?_
          exact ih14 (k + 1) fu (i + 1) (h - 1) lo (upd st (h - 2) (cmb 8 (st (h - 2)) (st (h - 1)))) P (by omega) (hR.next ho ⟨by decide, by decide, by decide⟩) hP ((mRun_step hop (by decide) (by decide) (by decide) (fun q => absurd q.1 (by decide)) hcl).symm.trans hM) (by omega)
        · skip
          have hnd : 2 ≤ h := by have := ho.2.2.1; simpa [pNeed, nNeed] using this
          have hup : h + 0 - 1 ≤ 8 := ho.2.2.2
          have hcl : (nn i).toNatClampNeg = (nn i).toNatClampNeg := rfl
          refine z_aload_n 32 C0 1 dX3_call_31 rfl rfl rfl ?_
          refine z_get 35 C0 8 1 wz_5 rfl (by decide) (zTs_in wk_71) dX3_call_32 rfl rfl rfl ?_
          refine z_iload 37 C0 2 dX3_call_35 rfl rfl ?_
          refine z_ialdN 38 C0 9 (v := (nI 9)) dX3_call_37 rfl rfl (by omega) (by decide) hop ?_
          refine z_istore 40 C0 [1, 2, 3, 4, 0] [(0, .ref m), (1, .ref p), (5, .int (nI i)), (6, .int (nI (k + 1))), (7, .int (nI 9))] dX3_call_38 rfl (by decide) rfl ?_
          refine z_aload_n 41 C0 1 dX3_call_40 rfl rfl rfl ?_
          refine z_get 44 C0 8 2 wz_5 rfl (by decide) (zTs_in wk_74) dX3_call_41 rfl rfl rfl ?_
          refine z_iload 46 C0 2 dX3_call_44 rfl rfl ?_
          refine z_ialdN 47 C0 10 (v := (nn i)) dX3_call_46 rfl rfl (by omega) (by decide) rfl ?_
          refine z_istore 49 C0 [1, 2, 3, 4, 5, 0] [(0, .ref m), (1, .ref p), (5, .int (nI i)), (6, .int (nI (k + 1))), (7, .int (nI 9)), (8, .int (nn i))] dX3_call_47 rfl (by decide) rfl ?_
          refine z_iload 51 C0 4 dX3_call_49 rfl rfl ?_
          refine z_bipush 53 C0 (v := (nI 17)) dX3_call_51 rfl rfl ?_
          refine z_icmp_eqN 56 63 C0 (by decide) (by decide) dX3_call_53 rfl (by decide) (fun k53 => absurd k53 (by omega)) (fun k53 => ?_)
          refine z_iload 58 C0 4 dX3_call_56 rfl rfl ?_
          refine z_bipush 60 C0 (v := (nI 18)) dX3_call_58 rfl rfl ?_
          refine z_icmp_neN 63 98 C0 (by decide) (by decide) dX3_call_60 rfl (by decide) (fun k60 => ?_) (fun k60 => absurd k60 (by omega))
          refine z_iload 100 C0 4 dX3_call_98 rfl rfl ?_
          refine z_bipush 102 C0 (v := (nI 16)) dX3_call_100 rfl rfl ?_
          refine z_icmp_neN 105 116 C0 (by decide) (by decide) dX3_call_102 rfl (by decide) (fun k102 => ?_) (fun k102 => absurd k102 (by omega))
          refine z_iload 118 C0 4 dX3_call_116 rfl rfl ?_
          refine z_callSNi 121 C0 [] [0, 1, 2, 3, 4, 5, 6, 7, 8, 9, 10] [(m, zo 3 [.ref ma, .ref ml, .ref ms, .int (nI h), .int an, .ref mp, .int (nI (P.length)), .ref mt]), (ma, zi E 3 ar1), (ml, zi E 4 lo), (ms, zi E 8 st), (mp, zo 4 [.ref mpk, .ref mpv, .int (nI (rwN 600 n P))]), (mpk, zi E 600 (rwK 600 n f P)), (mpv, zi E 600 (rwV 600 n g P)), (mt, zi E 4 (zn stp)), (p, zo 5 [.int (nI kd), .ref po, .ref pn, .int (nI len)]), (po, zi E 64 op), (pn, zi E 64 nn)] 0 0 (As := [.int (nI 9)]) (n := 1) (isJump l_ E 9 (by omega)) (zTs_good (fun _ => zTs_in) wk_276) rfl C0.2.2.2.2.2.2.2.2.2.1.1.2.2.2.2.1 (zTs_in wk_12) (zTs_in wk_275) ⟨by decide, by decide, by decide +kernel⟩ rfl rfl (by decide) rfl rfl (Nat.le_of_ble_eq_true rfl) ⟨by decide, by decide⟩ rfl rfl ⟨by decide, by decide⟩ ⟨by decide, by decide⟩ dX3_call_118 rfl (fun r118 w118 hB118 => ?_)
          obtain ⟨rfl, rfl⟩ := hB118
          refine z_perm [0, 1, 2, 3, 4, 5, 6, 7, 8, 9, 10] [(m, zo 3 [.ref ma, .ref ml, .ref ms, .int (nI h), .int an, .ref mp, .int (nI (P.length)), .ref mt]), (ma, zi E 3 ar1), (ml, zi E 4 lo), (ms, zi E 8 st), (mp, zo 4 [.ref mpk, .ref mpv, .int (nI (rwN 600 n P))]), (mpk, zi E 600 (rwK 600 n f P)), (mpv, zi E 600 (rwV 600 n g P)), (mt, zi E 4 (zn stp)), (p, zo 5 [.int (nI kd), .ref po, .ref pn, .int (nI len)]), (po, zi E 64 op), (pn, zi E 64 nn)] (by decide) rfl ?_
          refine z_if_eqP 124 139 C0 dX3_call_121 rfl (by decide) (fun k121 => ?_) (fun k121 => absurd k121 (by omega))
          refine z_iload 141 C0 4 dX3_call_139 rfl rfl ?_
          refine z_callSNi 144 C0 [] [0, 1, 2, 3, 4, 5, 6, 7, 8, 9, 10] [(m, zo 3 [.ref ma, .ref ml, .ref ms, .int (nI h), .int an, .ref mp, .int (nI (P.length)), .ref mt]), (ma, zi E 3 ar1), (ml, zi E 4 lo), (ms, zi E 8 st), (mp, zo 4 [.ref mpk, .ref mpv, .int (nI (rwN 600 n P))]), (mpk, zi E 600 (rwK 600 n f P)), (mpv, zi E 600 (rwV 600 n g P)), (mt, zi E 4 (zn stp)), (p, zo 5 [.int (nI kd), .ref po, .ref pn, .int (nI len)]), (po, zi E 64 op), (pn, zi E 64 nn)] 0 0 (As := [.int (nI 9)]) (n := 1) (isComb l_ E 9 (by omega)) (zTs_good (fun _ => zTs_in) wk_360) rfl C0.2.2.2.2.2.2.2.2.2.1.1.2.2.2.2.2 (zTs_in wk_12) (zTs_in wk_359) ⟨by decide, by decide, by decide +kernel⟩ rfl rfl (by decide) rfl rfl (Nat.le_of_ble_eq_true rfl) ⟨by decide, by decide⟩ rfl rfl ⟨by decide, by decide⟩ ⟨by decide, by decide⟩ dX3_call_141 rfl (fun r141 w141 hB141 => ?_)
          obtain ⟨rfl, rfl⟩ := hB141
          refine z_perm [0, 1, 2, 3, 4, 5, 6, 7, 8, 9, 10] [(m, zo 3 [.ref ma, .ref ml, .ref ms, .int (nI h), .int an, .ref mp, .int (nI (P.length)), .ref mt]), (ma, zi E 3 ar1), (ml, zi E 4 lo), (ms, zi E 8 st), (mp, zo 4 [.ref mpk, .ref mpv, .int (nI (rwN 600 n P))]), (mpk, zi E 600 (rwK 600 n f P)), (mpv, zi E 600 (rwV 600 n g P)), (mt, zi E 4 (zn stp)), (p, zo 5 [.int (nI kd), .ref po, .ref pn, .int (nI len)]), (po, zi E 64 op), (pn, zi E 64 nn)] (by decide) rfl ?_
          refine z_if_eqP 147 156 C0 dX3_call_144 rfl (by decide) (fun k144 => absurd k144 (by omega)) (fun k144 => ?_)
          refine z_aload_n 148 C0 0 dX3_call_147 rfl rfl rfl ?_
          refine z_iload 150 C0 4 dX3_call_148 rfl rfl ?_
          refine z_callVv 153 C0 [0, 3] [1, 2, 4, 5, 6, 7, 8, 9, 10] [(ma, zi E 3 ar1), (ml, zi E 4 lo), (mp, zo 4 [.ref mpk, .ref mpv, .int (nI (rwN 600 n P))]), (mpk, zi E 600 (rwK 600 n f P)), (mpv, zi E 600 (rwV 600 n g P)), (mt, zi E 4 (zn stp)), (p, zo 5 [.int (nI kd), .ref po, .ref pn, .int (nI len)]), (po, zi E 64 op), (pn, zi E 64 nn)] 0 0 (As := [.int (nI 9)]) (T := TX3) (N := 8) (C := RX3) (ci := 3) (n := 1) 0 (combine l_ E m ma ml ms mp mt h an (P.length) st 9 (by omega) (by omega) (by omega) (by omega)) (zGIV (fun _ => zTs_in) wk_364 wk_361 wk_362 wk_363 wk_18) rfl ⟨rfl, by decide, by decide, by decide +kernel⟩ rfl rfl rfl rfl (by decide) rfl rfl (Nat.le_of_ble_eq_true rfl) ⟨by decide, by decide⟩ rfl rfl ⟨by decide, by decide⟩ ⟨by decide, by decide⟩ dX3_call_150 rfl (fun w150 hB150 => ?_)
          obtain rfl := hB150
          refine z_perm [9, 0, 1, 10, 2, 3, 4, 5, 6, 7, 8] [(m, zo 3 [.ref ma, .ref ml, .ref ms, .int (nI (h - 1)), .int an, .ref mp, .int (nI (P.length)), .ref mt]), (ma, zi E 3 ar1), (ml, zi E 4 lo), (ms, zi E 8 (upd st (h - 2) (cmb 9 (st (h - 2)) (st (h - 1))))), (mp, zo 4 [.ref mpk, .ref mpv, .int (nI (rwN 600 n P))]), (mpk, zi E 600 (rwK 600 n f P)), (mpv, zi E 600 (rwV 600 n g P)), (mt, zi E 4 (zn stp)), (p, zo 5 [.int (nI kd), .ref po, .ref pn, .int (nI len)]), (po, zi E 64 op), (pn, zi E 64 nn)] (by decide) rfl ?_
          refine z_goto 164 C0 dX3_call_153 (by decide) ?_
          refine z_iinc 167 C0 2 [1, 2, 0, 3, 4, 5] [(0, .ref m), (1, .ref p), (5, .int (nI (i + 1))), (6, .int (nI (k + 1))), (7, .int (nI 9)), (8, .int (nn i))] (v := (nI (i + 1))) dX3_call_164 rfl rfl (z_incN _ _) (by decide) rfl ?_
          refine z_iinc 170 C0 3 [1, 2, 3, 0, 4, 5] [(0, .ref m), (1, .ref p), (5, .int (nI (i + 1))), (6, .int (nI (k + 2))), (7, .int (nI 9)), (8, .int (nn i))] (v := (nI (k + 2))) dX3_call_167 rfl rfl ((z_incN (k + 1) 1).trans (congrArg nI (by omega))) (by decide) rfl ?_
          refine z_goto 14 C0 dX3_call_170 (by decide) ?_
          refine z_loc [0, 1, 2, 3] [(0, .ref m), (1, .ref p), (5, .int (nI (i + 1))), (6, .int (nI (k + 2)))] rfl ?_
          exact ih14 (k + 1) fu (i + 1) (h - 1) lo (upd st (h - 2) (cmb 9 (st (h - 2)) (st (h - 1)))) P (by omega) (hR.next ho ⟨by decide, by decide, by decide⟩) hP ((mRun_step hop (by decide) (by decide) (by decide) (fun q => absurd q.1 (by decide)) hcl).symm.trans hM) (by omega)
        · skip
          have hnd : 2 ≤ h := by have := ho.2.2.1; simpa [pNeed, nNeed] using this
          have hup : h + 0 - 1 ≤ 8 := ho.2.2.2
          have hcl : (nn i).toNatClampNeg = (nn i).toNatClampNeg := rfl
          refine z_aload_n 32 C0 1 dX3_call_31 rfl rfl rfl ?_
          refine z_get 35 C0 8 1 wz_5 rfl (by decide) (zTs_in wk_71) dX3_call_32 rfl rfl rfl ?_
          refine z_iload 37 C0 2 dX3_call_35 rfl rfl ?_
          refine z_ialdN 38 C0 9 (v := (nI 10)) dX3_call_37 rfl rfl (by omega) (by decide) hop ?_
          refine z_istore 40 C0 [1, 2, 3, 4, 0] [(0, .ref m), (1, .ref p), (5, .int (nI i)), (6, .int (nI (k + 1))), (7, .int (nI 10))] dX3_call_38 rfl (by decide) rfl ?_
          refine z_aload_n 41 C0 1 dX3_call_40 rfl rfl rfl ?_
          refine z_get 44 C0 8 2 wz_5 rfl (by decide) (zTs_in wk_74) dX3_call_41 rfl rfl rfl ?_
          refine z_iload 46 C0 2 dX3_call_44 rfl rfl ?_
          refine z_ialdN 47 C0 10 (v := (nn i)) dX3_call_46 rfl rfl (by omega) (by decide) rfl ?_
          refine z_istore 49 C0 [1, 2, 3, 4, 5, 0] [(0, .ref m), (1, .ref p), (5, .int (nI i)), (6, .int (nI (k + 1))), (7, .int (nI 10)), (8, .int (nn i))] dX3_call_47 rfl (by decide) rfl ?_
          refine z_iload 51 C0 4 dX3_call_49 rfl rfl ?_
          refine z_bipush 53 C0 (v := (nI 17)) dX3_call_51 rfl rfl ?_
          refine z_icmp_eqN 56 63 C0 (by decide) (by decide) dX3_call_53 rfl (by decide) (fun k53 => absurd k53 (by omega)) (fun k53 => ?_)
          refine z_iload 58 C0 4 dX3_call_56 rfl rfl ?_
          refine z_bipush 60 C0 (v := (nI 18)) dX3_call_58 rfl rfl ?_
          refine z_icmp_neN 63 98 C0 (by decide) (by decide) dX3_call_60 rfl (by decide) (fun k60 => ?_) (fun k60 => absurd k60 (by omega))
          refine z_iload 100 C0 4 dX3_call_98 rfl rfl ?_
          refine z_bipush 102 C0 (v := (nI 16)) dX3_call_100 rfl rfl ?_
          refine z_icmp_neN 105 116 C0 (by decide) (by decide) dX3_call_102 rfl (by decide) (fun k102 => ?_) (fun k102 => absurd k102 (by omega))
          refine z_iload 118 C0 4 dX3_call_116 rfl rfl ?_
          refine z_callSNi 121 C0 [] [0, 1, 2, 3, 4, 5, 6, 7, 8, 9, 10] [(m, zo 3 [.ref ma, .ref ml, .ref ms, .int (nI h), .int an, .ref mp, .int (nI (P.length)), .ref mt]), (ma, zi E 3 ar1), (ml, zi E 4 lo), (ms, zi E 8 st), (mp, zo 4 [.ref mpk, .ref mpv, .int (nI (rwN 600 n P))]), (mpk, zi E 600 (rwK 600 n f P)), (mpv, zi E 600 (rwV 600 n g P)), (mt, zi E 4 (zn stp)), (p, zo 5 [.int (nI kd), .ref po, .ref pn, .int (nI len)]), (po, zi E 64 op), (pn, zi E 64 nn)] 0 0 (As := [.int (nI 10)]) (n := 1) (isJump l_ E 10 (by omega)) (zTs_good (fun _ => zTs_in) wk_276) rfl C0.2.2.2.2.2.2.2.2.2.1.1.2.2.2.2.1 (zTs_in wk_12) (zTs_in wk_275) ⟨by decide, by decide, by decide +kernel⟩ rfl rfl (by decide) rfl rfl (Nat.le_of_ble_eq_true rfl) ⟨by decide, by decide⟩ rfl rfl ⟨by decide, by decide⟩ ⟨by decide, by decide⟩ dX3_call_118 rfl (fun r118 w118 hB118 => ?_)
          obtain ⟨rfl, rfl⟩ := hB118
          refine z_perm [0, 1, 2, 3, 4, 5, 6, 7, 8, 9, 10] [(m, zo 3 [.ref ma, .ref ml, .ref ms, .int (nI h), .int an, .ref mp, .int (nI (P.length)), .ref mt]), (ma, zi E 3 ar1), (ml, zi E 4 lo), (ms, zi E 8 st), (mp, zo 4 [.ref mpk, .ref mpv, .int (nI (rwN 600 n P))]), (mpk, zi E 600 (rwK 600 n f P)), (mpv, zi E 600 (rwV 600 n g P)), (mt, zi E 4 (zn stp)), (p, zo 5 [.int (nI kd), .ref po, .ref pn, .int (nI len)]), (po, zi E 64 op), (pn, zi E 64 nn)] (by decide) rfl ?_
          refine z_if_eqP 124 139 C0 dX3_call_121 rfl (by decide) (fun k121 => ?_) (fun k121 => absurd k121 (by omega))
          refine z_iload 141 C0 4 dX3_call_139 rfl rfl ?_
          refine z_callSNi 144 C0 [] [0, 1, 2, 3, 4, 5, 6, 7, 8, 9, 10] [(m, zo 3 [.ref ma, .ref ml, .ref ms, .int (nI h), .int an, .ref mp, .int (nI (P.length)), .ref mt]), (ma, zi E 3 ar1), (ml, zi E 4 lo), (ms, zi E 8 st), (mp, zo 4 [.ref mpk, .ref mpv, .int (nI (rwN 600 n P))]), (mpk, zi E 600 (rwK 600 n f P)), (mpv, zi E 600 (rwV 600 n g P)), (mt, zi E 4 (zn stp)), (p, zo 5 [.int (nI kd), .ref po, .ref pn, .int (nI len)]), (po, zi E 64 op), (pn, zi E 64 nn)] 0 0 (As := [.int (nI 10)]) (n := 1) (isComb l_ E 10 (by omega)) (zTs_good (fun _ => zTs_in) wk_360) rfl C0.2.2.2.2.2.2.2.2.2.1.1.2.2.2.2.2 (zTs_in wk_12) (zTs_in wk_359) ⟨by decide, by decide, by decide +kernel⟩ rfl rfl (by decide) rfl rfl (Nat.le_of_ble_eq_true rfl) ⟨by decide, by decide⟩ rfl rfl ⟨by decide, by decide⟩ ⟨by decide, by decide⟩ dX3_call_141 rfl (fun r141 w141 hB141 => ?_)
          obtain ⟨rfl, rfl⟩ := hB141
          refine z_perm [0, 1, 2, 3, 4, 5, 6, 7, 8, 9, 10] [(m, zo 3 [.ref ma, .ref ml, .ref ms, .int (nI h), .int an, .ref mp, .int (nI (P.length)), .ref mt]), (ma, zi E 3 ar1), (ml, zi E 4 lo), (ms, zi E 8 st), (mp, zo 4 [.ref mpk, .ref mpv, .int (nI (rwN 600 n P))]), (mpk, zi E 600 (rwK 600 n f P)), (mpv, zi E 600 (rwV 600 n g P)), (mt, zi E 4 (zn stp)), (p, zo 5 [.int (nI kd), .ref po, .ref pn, .int (nI len)]), (po, zi E 64 op), (pn, zi E 64 nn)] (by decide) rfl ?_
          refine z_if_eqP 147 156 C0 dX3_call_144 rfl (by decide) (fun k144 => absurd k144 (by omega)) (fun k144 => ?_)
          refine z_aload_n 148 C0 0 dX3_call_147 rfl rfl rfl ?_
          refine z_iload 150 C0 4 dX3_call_148 rfl rfl ?_
          refine z_callVv 153 C0 [0, 3] [1, 2, 4, 5, 6, 7, 8, 9, 10] [(ma, zi E 3 ar1), (ml, zi E 4 lo), (mp, zo 4 [.ref mpk, .ref mpv, .int (nI (rwN 600 n P))]), (mpk, zi E 600 (rwK 600 n f P)), (mpv, zi E 600 (rwV 600 n g P)), (mt, zi E 4 (zn stp)), (p, zo 5 [.int (nI kd), .ref po, .ref pn, .int (nI len)]), (po, zi E 64 op), (pn, zi E 64 nn)] 0 0 (As := [.int (nI 10)]) (T := TX3) (N := 8) (C := RX3) (ci := 3) (n := 1) 0 (combine l_ E m ma ml ms mp mt h an (P.length) st 10 (by omega) (by omega) (by omega) (by omega)) (zGIV (fun _ => zTs_in) wk_364 wk_361 wk_362 wk_363 wk_18) rfl ⟨rfl, by decide, by decide, by decide +kernel⟩ rfl rfl rfl rfl (by decide) rfl rfl (Nat.le_of_ble_eq_true rfl) ⟨by decide, by decide⟩ rfl rfl ⟨by decide, by decide⟩ ⟨by decide, by decide⟩ dX3_call_150 rfl (fun w150 hB150 => ?_)
          obtain rfl := hB150
          refine z_perm [9, 0, 1, 10, 2, 3, 4, 5, 6, 7, 8] [(m, zo 3 [.ref ma, .ref ml, .ref ms, .int (nI (h - 1)), .int an, .ref mp, .int (nI (P.length)), .ref mt]), (ma, zi E 3 ar1), (ml, zi E 4 lo), (ms, zi E 8 (upd st (h - 2) (cmb 10 (st (h - 2)) (st (h - 1))))), (mp, zo 4 [.ref mpk, .ref mpv, .int (nI (rwN 600 n P))]), (mpk, zi E 600 (rwK 600 n f P)), (mpv, zi E 600 (rwV 600 n g P)), (mt, zi E 4 (zn stp)), (p, zo 5 [.int (nI kd), .ref po, .ref pn, .int (nI len)]), (po, zi E 64 op), (pn, zi E 64 nn)] (by decide) rfl ?_
          refine z_goto 164 C0 dX3_call_153 (by decide) ?_
          refine z_iinc 167 C0 2 [1, 2, 0, 3, 4, 5] [(0, .ref m), (1, .ref p), (5, .int (nI (i + 1))), (6, .int (nI (k + 1))), (7, .int (nI 10)), (8, .int (nn i))] (v := (nI (i + 1))) dX3_call_164 rfl rfl (z_incN _ _) (by decide) rfl ?_
          refine z_iinc 170 C0 3 [1, 2, 3, 0, 4, 5] [(0, .ref m), (1, .ref p), (5, .int (nI (i + 1))), (6, .int (nI (k + 2))), (7, .int (nI 10)), (8, .int (nn i))] (v := (nI (k + 2))) dX3_call_167 rfl rfl ((z_incN (k + 1) 1).trans (congrArg nI (by omega))) (by decide) rfl ?_
          refine z_goto 14 C0 dX3_call_170 (by decide) ?_
          refine z_loc [0, 1, 2, 3] [(0, .ref m), (1, .ref p), (5, .int (nI (i + 1))), (6, .int (nI (k + 2)))] rfl ?_
          exact ih14 (k + 1) fu (i + 1) (h - 1) lo (upd st (h - 2) (cmb 10 (st (h - 2)) (st (h - 1)))) P (by omega) (hR.next ho ⟨by decide, by decide, by decide⟩) hP ((mRun_step hop (by decide) (by decide) (by decide) (fun q => absurd q.1 (by decide)) hcl).symm.trans hM) (by omega)
        · skip
          have hnd : 2 ≤ h := by have := ho.2.2.1; simpa [pNeed, nNeed] using this
          have hup : h + 0 - 1 ≤ 8 := ho.2.2.2
          have hcl : (nn i).toNatClampNeg = (nn i).toNatClampNeg := rfl
          refine z_aload_n 32 C0 1 dX3_call_31 rfl rfl rfl ?_
          refine z_get 35 C0 8 1 wz_5 rfl (by decide) (zTs_in wk_71) dX3_call_32 rfl rfl rfl ?_
          refine z_iload 37 C0 2 dX3_call_35 rfl rfl ?_
          refine z_ialdN 38 C0 9 (v := (nI 11)) dX3_call_37 rfl rfl (by omega) (by decide) hop ?_
          refine z_istore 40 C0 [1, 2, 3, 4, 0] [(0, .ref m), (1, .ref p), (5, .int (nI i)), (6, .int (nI (k + 1))), (7, .int (nI 11))] dX3_call_38 rfl (by decide) rfl ?_
          refine z_aload_n 41 C0 1 dX3_call_40 rfl rfl rfl ?_
          refine z_get 44 C0 8 2 wz_5 rfl (by decide) (zTs_in wk_74) dX3_call_41 rfl rfl rfl ?_
          refine z_iload 46 C0 2 dX3_call_44 rfl rfl ?_
          refine z_ialdN 47 C0 10 (v := (nn i)) dX3_call_46 rfl rfl (by omega) (by decide) rfl ?_
          refine z_istore 49 C0 [1, 2, 3, 4, 5, 0] [(0, .ref m), (1, .ref p), (5, .int (nI i)), (6, .int (nI (k + 1))), (7, .int (nI 11)), (8, .int (nn i))] dX3_call_47 rfl (by decide) rfl ?_
          refine z_iload 51 C0 4 dX3_call_49 rfl rfl ?_
          refine z_bipush 53 C0 (v := (nI 17)) dX3_call_51 rfl rfl ?_
          refine z_icmp_eqN 56 63 C0 (by decide) (by decide) dX3_call_53 rfl (by decide) (fun k53 => absurd k53 (by omega)) (fun k53 => ?_)
          refine z_iload 58 C0 4 dX3_call_56 rfl rfl ?_
          refine z_bipush 60 C0 (v := (nI 18)) dX3_call_58 rfl rfl ?_
          refine z_icmp_neN 63 98 C0 (by decide) (by decide) dX3_call_60 rfl (by decide) (fun k60 => ?_) (fun k60 => absurd k60 (by omega))
          refine z_iload 100 C0 4 dX3_call_98 rfl rfl ?_
          refine z_bipush 102 C0 (v := (nI 16)) dX3_call_100 rfl rfl ?_
          refine z_icmp_neN 105 116 C0 (by decide) (by decide) dX3_call_102 rfl (by decide) (fun k102 => ?_) (fun k102 => absurd k102 (by omega))
          refine z_iload 118 C0 4 dX3_call_116 rfl rfl ?_
          refine z_callSNi 121 C0 [] [0, 1, 2, 3, 4, 5, 6, 7, 8, 9, 10] [(m, zo 3 [.ref ma, .ref ml, .ref ms, .int (nI h), .int an, .ref mp, .int (nI (P.length)), .ref mt]), (ma, zi E 3 ar1), (ml, zi E 4 lo), (ms, zi E 8 st), (mp, zo 4 [.ref mpk, .ref mpv, .int (nI (rwN 600 n P))]), (mpk, zi E 600 (rwK 600 n f P)), (mpv, zi E 600 (rwV 600 n g P)), (mt, zi E 4 (zn stp)), (p, zo 5 [.int (nI kd), .ref po, .ref pn, .int (nI len)]), (po, zi E 64 op), (pn, zi E 64 nn)] 0 0 (As := [.int (nI 11)]) (n := 1) (isJump l_ E 11 (by omega)) (zTs_good (fun _ => zTs_in) wk_276) rfl C0.2.2.2.2.2.2.2.2.2.1.1.2.2.2.2.1 (zTs_in wk_12) (zTs_in wk_275) ⟨by decide, by decide, by decide +kernel⟩ rfl rfl (by decide) rfl rfl (Nat.le_of_ble_eq_true rfl) ⟨by decide, by decide⟩ rfl rfl ⟨by decide, by decide⟩ ⟨by decide, by decide⟩ dX3_call_118 rfl (fun r118 w118 hB118 => ?_)
          obtain ⟨rfl, rfl⟩ := hB118
          refine z_perm [0, 1, 2, 3, 4, 5, 6, 7, 8, 9, 10] [(m, zo 3 [.ref ma, .ref ml, .ref ms, .int (nI h), .int an, .ref mp, .int (nI (P.length)), .ref mt]), (ma, zi E 3 ar1), (ml, zi E 4 lo), (ms, zi E 8 st), (mp, zo 4 [.ref mpk, .ref mpv, .int (nI (rwN 600 n P))]), (mpk, zi E 600 (rwK 600 n f P)), (mpv, zi E 600 (rwV 600 n g P)), (mt, zi E 4 (zn stp)), (p, zo 5 [.int (nI kd), .ref po, .ref pn, .int (nI len)]), (po, zi E 64 op), (pn, zi E 64 nn)] (by decide) rfl ?_
          refine z_if_eqP 124 139 C0 dX3_call_121 rfl (by decide) (fun k121 => ?_) (fun k121 => absurd k121 (by omega))
          refine z_iload 141 C0 4 dX3_call_139 rfl rfl ?_
          refine z_callSNi 144 C0 [] [0, 1, 2, 3, 4, 5, 6, 7, 8, 9, 10] [(m, zo 3 [.ref ma, .ref ml, .ref ms, .int (nI h), .int an, .ref mp, .int (nI (P.length)), .ref mt]), (ma, zi E 3 ar1), (ml, zi E 4 lo), (ms, zi E 8 st), (mp, zo 4 [.ref mpk, .ref mpv, .int (nI (rwN 600 n P))]), (mpk, zi E 600 (rwK 600 n f P)), (mpv, zi E 600 (rwV 600 n g P)), (mt, zi E 4 (zn stp)), (p, zo 5 [.int (nI kd), .ref po, .ref pn, .int (nI len)]), (po, zi E 64 op), (pn, zi E 64 nn)] 0 0 (As := [.int (nI 11)]) (n := 1) (isComb l_ E 11 (by omega)) (zTs_good (fun _ => zTs_in) wk_360) rfl C0.2.2.2.2.2.2.2.2.2.1.1.2.2.2.2.2 (zTs_in wk_12) (zTs_in wk_359) ⟨by decide, by decide, by decide +kernel⟩ rfl rfl (by decide) rfl rfl (Nat.le_of_ble_eq_true rfl) ⟨by decide, by decide⟩ rfl rfl ⟨by decide, by decide⟩ ⟨by decide, by decide⟩ dX3_call_141 rfl (fun r141 w141 hB141 => ?_)
          obtain ⟨rfl, rfl⟩ := hB141
          refine z_perm [0, 1, 2, 3, 4, 5, 6, 7, 8, 9, 10] [(m, zo 3 [.ref ma, .ref ml, .ref ms, .int (nI h), .int an, .ref mp, .int (nI (P.length)), .ref mt]), (ma, zi E 3 ar1), (ml, zi E 4 lo), (ms, zi E 8 st), (mp, zo 4 [.ref mpk, .ref mpv, .int (nI (rwN 600 n P))]), (mpk, zi E 600 (rwK 600 n f P)), (mpv, zi E 600 (rwV 600 n g P)), (mt, zi E 4 (zn stp)), (p, zo 5 [.int (nI kd), .ref po, .ref pn, .int (nI len)]), (po, zi E 64 op), (pn, zi E 64 nn)] (by decide) rfl ?_
          refine z_if_eqP 147 156 C0 dX3_call_144 rfl (by decide) (fun k144 => absurd k144 (by omega)) (fun k144 => ?_)
          refine z_aload_n 148 C0 0 dX3_call_147 rfl rfl rfl ?_
          refine z_iload 150 C0 4 dX3_call_148 rfl rfl ?_
          refine z_callVv 153 C0 [0, 3] [1, 2, 4, 5, 6, 7, 8, 9, 10] [(ma, zi E 3 ar1), (ml, zi E 4 lo), (mp, zo 4 [.ref mpk, .ref mpv, .int (nI (rwN 600 n P))]), (mpk, zi E 600 (rwK 600 n f P)), (mpv, zi E 600 (rwV 600 n g P)), (mt, zi E 4 (zn stp)), (p, zo 5 [.int (nI kd), .ref po, .ref pn, .int (nI len)]), (po, zi E 64 op), (pn, zi E 64 nn)] 0 0 (As := [.int (nI 11)]) (T := TX3) (N := 8) (C := RX3) (ci := 3) (n := 1) 0 (combine l_ E m ma ml ms mp mt h an (P.length) st 11 (by omega) (by omega) (by omega) (by omega)) (zGIV (fun _ => zTs_in) wk_364 wk_361 wk_362 wk_363 wk_18) rfl ⟨rfl, by decide, by decide, by decide +kernel⟩ rfl rfl rfl rfl (by decide) rfl rfl (Nat.le_of_ble_eq_true rfl) ⟨by decide, by decide⟩ rfl rfl ⟨by decide, by decide⟩ ⟨by decide, by decide⟩ dX3_call_150 rfl (fun w150 hB150 => ?_)
          obtain rfl := hB150
          refine z_perm [9, 0, 1, 10, 2, 3, 4, 5, 6, 7, 8] [(m, zo 3 [.ref ma, .ref ml, .ref ms, .int (nI (h - 1)), .int an, .ref mp, .int (nI (P.length)), .ref mt]), (ma, zi E 3 ar1), (ml, zi E 4 lo), (ms, zi E 8 (upd st (h - 2) (cmb 11 (st (h - 2)) (st (h - 1))))), (mp, zo 4 [.ref mpk, .ref mpv, .int (nI (rwN 600 n P))]), (mpk, zi E 600 (rwK 600 n f P)), (mpv, zi E 600 (rwV 600 n g P)), (mt, zi E 4 (zn stp)), (p, zo 5 [.int (nI kd), .ref po, .ref pn, .int (nI len)]), (po, zi E 64 op), (pn, zi E 64 nn)] (by decide) rfl ?_
          refine z_goto 164 C0 dX3_call_153 (by decide) ?_
          refine z_iinc 167 C0 2 [1, 2, 0, 3, 4, 5] [(0, .ref m), (1, .ref p), (5, .int (nI (i + 1))), (6, .int (nI (k + 1))), (7, .int (nI 11)), (8, .int (nn i))] (v := (nI (i + 1))) dX3_call_164 rfl rfl (z_incN _ _) (by decide) rfl ?_
          refine z_iinc 170 C0 3 [1, 2, 3, 0, 4, 5] [(0, .ref m), (1, .ref p), (5, .int (nI (i + 1))), (6, .int (nI (k + 2))), (7, .int (nI 11)), (8, .int (nn i))] (v := (nI (k + 2))) dX3_call_167 rfl rfl ((z_incN (k + 1) 1).trans (congrArg nI (by omega))) (by decide) rfl ?_
          refine z_goto 14 C0 dX3_call_170 (by decide) ?_
          refine z_loc [0, 1, 2, 3] [(0, .ref m), (1, .ref p), (5, .int (nI (i + 1))), (6, .int (nI (k + 2)))] rfl ?_
          exact ih14 (k + 1) fu (i + 1) (h - 1) lo (upd st (h - 2) (cmb 11 (st (h - 2)) (st (h - 1)))) P (by omega) (hR.next ho ⟨by decide, by decide, by decide⟩) hP ((mRun_step hop (by decide) (by decide) (by decide) (fun q => absurd q.1 (by decide)) hcl).symm.trans hM) (by omega)
        · skip
          have hnd : 2 ≤ h := by have := ho.2.2.1; simpa [pNeed, nNeed] using this
          have hup : h + 0 - 1 ≤ 8 := ho.2.2.2
          have hcl : (nn i).toNatClampNeg = (nn i).toNatClampNeg := rfl
          refine z_aload_n 32 C0 1 dX3_call_31 rfl rfl rfl ?_
          refine z_get 35 C0 8 1 wz_5 rfl (by decide) (zTs_in wk_71) dX3_call_32 rfl rfl rfl ?_
          refine z_iload 37 C0 2 dX3_call_35 rfl rfl ?_
          refine z_ialdN 38 C0 9 (v := (nI 12)) dX3_call_37 rfl rfl (by omega) (by decide) hop ?_
          refine z_istore 40 C0 [1, 2, 3, 4, 0] [(0, .ref m), (1, .ref p), (5, .int (nI i)), (6, .int (nI (k + 1))), (7, .int (nI 12))] dX3_call_38 rfl (by decide) rfl ?_
          refine z_aload_n 41 C0 1 dX3_call_40 rfl rfl rfl ?_
          refine z_get 44 C0 8 2 wz_5 rfl (by decide) (zTs_in wk_74) dX3_call_41 rfl rfl rfl ?_
          refine z_iload 46 C0 2 dX3_call_44 rfl rfl ?_
          refine z_ialdN 47 C0 10 (v := (nn i)) dX3_call_46 rfl rfl (by omega) (by decide) rfl ?_
          refine z_istore 49 C0 [1, 2, 3, 4, 5, 0] [(0, .ref m), (1, .ref p), (5, .int (nI i)), (6, .int (nI (k + 1))), (7, .int (nI 12)), (8, .int (nn i))] dX3_call_47 rfl (by decide) rfl ?_
          refine z_iload 51 C0 4 dX3_call_49 rfl rfl ?_
          refine z_bipush 53 C0 (v := (nI 17)) dX3_call_51 rfl rfl ?_
          refine z_icmp_eqN 56 63 C0 (by decide) (by decide) dX3_call_53 rfl (by decide) (fun k53 => absurd k53 (by omega)) (fun k53 => ?_)
          refine z_iload 58 C0 4 dX3_call_56 rfl rfl ?_
          refine z_bipush 60 C0 (v := (nI 18)) dX3_call_58 rfl rfl ?_
          refine z_icmp_neN 63 98 C0 (by decide) (by decide) dX3_call_60 rfl (by decide) (fun k60 => ?_) (fun k60 => absurd k60 (by omega))
          refine z_iload 100 C0 4 dX3_call_98 rfl rfl ?_
          refine z_bipush 102 C0 (v := (nI 16)) dX3_call_100 rfl rfl ?_
          refine z_icmp_neN 105 116 C0 (by decide) (by decide) dX3_call_102 rfl (by decide) (fun k102 => ?_) (fun k102 => absurd k102 (by omega))
          refine z_iload 118 C0 4 dX3_call_116 rfl rfl ?_
          refine z_callSNi 121 C0 [] [0, 1, 2, 3, 4, 5, 6, 7, 8, 9, 10] [(m, zo 3 [.ref ma, .ref ml, .ref ms, .int (nI h), .int an, .ref mp, .int (nI (P.length)), .ref mt]), (ma, zi E 3 ar1), (ml, zi E 4 lo), (ms, zi E 8 st), (mp, zo 4 [.ref mpk, .ref mpv, .int (nI (rwN 600 n P))]), (mpk, zi E 600 (rwK 600 n f P)), (mpv, zi E 600 (rwV 600 n g P)), (mt, zi E 4 (zn stp)), (p, zo 5 [.int (nI kd), .ref po, .ref pn, .int (nI len)]), (po, zi E 64 op), (pn, zi E 64 nn)] 0 0 (As := [.int (nI 12)]) (n := 1) (isJump l_ E 12 (by omega)) (zTs_good (fun _ => zTs_in) wk_276) rfl C0.2.2.2.2.2.2.2.2.2.1.1.2.2.2.2.1 (zTs_in wk_12) (zTs_in wk_275) ⟨by decide, by decide, by decide +kernel⟩ rfl rfl (by decide) rfl rfl (Nat.le_of_ble_eq_true rfl) ⟨by decide, by decide⟩ rfl rfl ⟨by decide, by decide⟩ ⟨by decide, by decide⟩ dX3_call_118 rfl (fun r118 w118 hB118 => ?_)
          obtain ⟨rfl, rfl⟩ := hB118
          refine z_perm [0, 1, 2, 3, 4, 5, 6, 7, 8, 9, 10] [(m, zo 3 [.ref ma, .ref ml, .ref ms, .int (nI h), .int an, .ref mp, .int (nI (P.length)), .ref mt]), (ma, zi E 3 ar1), (ml, zi E 4 lo), (ms, zi E 8 st), (mp, zo 4 [.ref mpk, .ref mpv, .int (nI (rwN 600 n P))]), (mpk, zi E 600 (rwK 600 n f P)), (mpv, zi E 600 (rwV 600 n g P)), (mt, zi E 4 (zn stp)), (p, zo 5 [.int (nI kd), .ref po, .ref pn, .int (nI len)]), (po, zi E 64 op), (pn, zi E 64 nn)] (by decide) rfl ?_
          refine z_if_eqP 124 139 C0 dX3_call_121 rfl (by decide) (fun k121 => ?_) (fun k121 => absurd k121 (by omega))
          refine z_iload 141 C0 4 dX3_call_139 rfl rfl ?_
          refine z_callSNi 144 C0 [] [0, 1, 2, 3, 4, 5, 6, 7, 8, 9, 10] [(m, zo 3 [.ref ma, .ref ml, .ref ms, .int (nI h), .int an, .ref mp, .int (nI (P.length)), .ref mt]), (ma, zi E 3 ar1), (ml, zi E 4 lo), (ms, zi E 8 st), (mp, zo 4 [.ref mpk, .ref mpv, .int (nI (rwN 600 n P))]), (mpk, zi E 600 (rwK 600 n f P)), (mpv, zi E 600 (rwV 600 n g P)), (mt, zi E 4 (zn stp)), (p, zo 5 [.int (nI kd), .ref po, .ref pn, .int (nI len)]), (po, zi E 64 op), (pn, zi E 64 nn)] 0 0 (As := [.int (nI 12)]) (n := 1) (isComb l_ E 12 (by omega)) (zTs_good (fun _ => zTs_in) wk_360) rfl C0.2.2.2.2.2.2.2.2.2.1.1.2.2.2.2.2 (zTs_in wk_12) (zTs_in wk_359) ⟨by decide, by decide, by decide +kernel⟩ rfl rfl (by decide) rfl rfl (Nat.le_of_ble_eq_true rfl) ⟨by decide, by decide⟩ rfl rfl ⟨by decide, by decide⟩ ⟨by decide, by decide⟩ dX3_call_141 rfl (fun r141 w141 hB141 => ?_)
          obtain ⟨rfl, rfl⟩ := hB141
          refine z_perm [0, 1, 2, 3, 4, 5, 6, 7, 8, 9, 10] [(m, zo 3 [.ref ma, .ref ml, .ref ms, .int (nI h), .int an, .ref mp, .int (nI (P.length)), .ref mt]), (ma, zi E 3 ar1), (ml, zi E 4 lo), (ms, zi E 8 st), (mp, zo 4 [.ref mpk, .ref mpv, .int (nI (rwN 600 n P))]), (mpk, zi E 600 (rwK 600 n f P)), (mpv, zi E 600 (rwV 600 n g P)), (mt, zi E 4 (zn stp)), (p, zo 5 [.int (nI kd), .ref po, .ref pn, .int (nI len)]), (po, zi E 64 op), (pn, zi E 64 nn)] (by decide) rfl ?_
          refine z_if_eqP 147 156 C0 dX3_call_144 rfl (by decide) (fun k144 => absurd k144 (by omega)) (fun k144 => ?_)
          refine z_aload_n 148 C0 0 dX3_call_147 rfl rfl rfl ?_
          refine z_iload 150 C0 4 dX3_call_148 rfl rfl ?_
          refine z_callVv 153 C0 [0, 3] [1, 2, 4, 5, 6, 7, 8, 9, 10] [(ma, zi E 3 ar1), (ml, zi E 4 lo), (mp, zo 4 [.ref mpk, .ref mpv, .int (nI (rwN 600 n P))]), (mpk, zi E 600 (rwK 600 n f P)), (mpv, zi E 600 (rwV 600 n g P)), (mt, zi E 4 (zn stp)), (p, zo 5 [.int (nI kd), .ref po, .ref pn, .int (nI len)]), (po, zi E 64 op), (pn, zi E 64 nn)] 0 0 (As := [.int (nI 12)]) (T := TX3) (N := 8) (C := RX3) (ci := 3) (n := 1) 0 (combine l_ E m ma ml ms mp mt h an (P.length) st 12 (by omega) (by omega) (by omega) (by omega)) (zGIV (fun _ => zTs_in) wk_364 wk_361 wk_362 wk_363 wk_18) rfl ⟨rfl, by decide, by decide, by decide +kernel⟩ rfl rfl rfl rfl (by decide) rfl rfl (Nat.le_of_ble_eq_true rfl) ⟨by decide, by decide⟩ rfl rfl ⟨by decide, by decide⟩ ⟨by decide, by decide⟩ dX3_call_150 rfl (fun w150 hB150 => ?_)
          obtain rfl := hB150
          refine z_perm [9, 0, 1, 10, 2, 3, 4, 5, 6, 7, 8] [(m, zo 3 [.ref ma, .ref ml, .ref ms, .int (nI (h - 1)), .int an, .ref mp, .int (nI (P.length)), .ref mt]), (ma, zi E 3 ar1), (ml, zi E 4 lo), (ms, zi E 8 (upd st (h - 2) (cmb 12 (st (h - 2)) (st (h - 1))))), (mp, zo 4 [.ref mpk, .ref mpv, .int (nI (rwN 600 n P))]), (mpk, zi E 600 (rwK 600 n f P)), (mpv, zi E 600 (rwV 600 n g P)), (mt, zi E 4 (zn stp)), (p, zo 5 [.int (nI kd), .ref po, .ref pn, .int (nI len)]), (po, zi E 64 op), (pn, zi E 64 nn)] (by decide) rfl ?_
          refine z_goto 164 C0 dX3_call_153 (by decide) ?_
          refine z_iinc 167 C0 2 [1, 2, 0, 3, 4, 5] [(0, .ref m), (1, .ref p), (5, .int (nI (i + 1))), (6, .int (nI (k + 1))), (7, .int (nI 12)), (8, .int (nn i))] (v := (nI (i + 1))) dX3_call_164 rfl rfl (z_incN _ _) (by decide) rfl ?_
          refine z_iinc 170 C0 3 [1, 2, 3, 0, 4, 5] [(0, .ref m), (1, .ref p), (5, .int (nI (i + 1))), (6, .int (nI (k + 2))), (7, .int (nI 12)), (8, .int (nn i))] (v := (nI (k + 2))) dX3_call_167 rfl rfl ((z_incN (k + 1) 1).trans (congrArg nI (by omega))) (by decide) rfl ?_
          refine z_goto 14 C0 dX3_call_170 (by decide) ?_
          refine z_loc [0, 1, 2, 3] [(0, .ref m), (1, .ref p), (5, .int (nI (i + 1))), (6, .int (nI (k + 2)))] rfl ?_
          exact ih14 (k + 1) fu (i + 1) (h - 1) lo (upd st (h - 2) (cmb 12 (st (h - 2)) (st (h - 1)))) P (by omega) (hR.next ho ⟨by decide, by decide, by decide⟩) hP ((mRun_step hop (by decide) (by decide) (by decide) (fun q => absurd q.1 (by decide)) hcl).symm.trans hM) (by omega)
        · skip
          have hnd : 2 ≤ h := by have := ho.2.2.1; simpa [pNeed, nNeed] using this
          have hup : h + 0 - 1 ≤ 8 := ho.2.2.2
          have hcl : (nn i).toNatClampNeg = (nn i).toNatClampNeg := rfl
          refine z_aload_n 32 C0 1 dX3_call_31 rfl rfl rfl ?_
          refine z_get 35 C0 8 1 wz_5 rfl (by decide) (zTs_in wk_71) dX3_call_32 rfl rfl rfl ?_
          refine z_iload 37 C0 2 dX3_call_35 rfl rfl ?_
          refine z_ialdN 38 C0 9 (v := (nI 13)) dX3_call_37 rfl rfl (by omega) (by decide) hop ?_
          refine z_istore 40 C0 [1, 2, 3, 4, 0] [(0, .ref m), (1, .ref p), (5, .int (nI i)), (6, .int (nI (k + 1))), (7, .int (nI 13))] dX3_call_38 rfl (by decide) rfl ?_
          refine z_aload_n 41 C0 1 dX3_call_40 rfl rfl rfl ?_
          refine z_get 44 C0 8 2 wz_5 rfl (by decide) (zTs_in wk_74) dX3_call_41 rfl rfl rfl ?_
          refine z_iload 46 C0 2 dX3_call_44 rfl rfl ?_
          refine z_ialdN 47 C0 10 (v := (nn i)) dX3_call_46 rfl rfl (by omega) (by decide) rfl ?_
          refine z_istore 49 C0 [1, 2, 3, 4, 5, 0] [(0, .ref m), (1, .ref p), (5, .int (nI i)), (6, .int (nI (k + 1))), (7, .int (nI 13)), (8, .int (nn i))] dX3_call_47 rfl (by decide) rfl ?_
          refine z_iload 51 C0 4 dX3_call_49 rfl rfl ?_
          refine z_bipush 53 C0 (v := (nI 17)) dX3_call_51 rfl rfl ?_
          refine z_icmp_eqN 56 63 C0 (by decide) (by decide) dX3_call_53 rfl (by decide) (fun k53 => absurd k53 (by omega)) (fun k53 => ?_)
          refine z_iload 58 C0 4 dX3_call_56 rfl rfl ?_
          refine z_bipush 60 C0 (v := (nI 18)) dX3_call_58 rfl rfl ?_
          refine z_icmp_neN 63 98 C0 (by decide) (by decide) dX3_call_60 rfl (by decide) (fun k60 => ?_) (fun k60 => absurd k60 (by omega))
          refine z_iload 100 C0 4 dX3_call_98 rfl rfl ?_
          refine z_bipush 102 C0 (v := (nI 16)) dX3_call_100 rfl rfl ?_
          refine z_icmp_neN 105 116 C0 (by decide) (by decide) dX3_call_102 rfl (by decide) (fun k102 => ?_) (fun k102 => absurd k102 (by omega))
          refine z_iload 118 C0 4 dX3_call_116 rfl rfl ?_
          refine z_callSNi 121 C0 [] [0, 1, 2, 3, 4, 5, 6, 7, 8, 9, 10] [(m, zo 3 [.ref ma, .ref ml, .ref ms, .int (nI h), .int an, .ref mp, .int (nI (P.length)), .ref mt]), (ma, zi E 3 ar1), (ml, zi E 4 lo), (ms, zi E 8 st), (mp, zo 4 [.ref mpk, .ref mpv, .int (nI (rwN 600 n P))]), (mpk, zi E 600 (rwK 600 n f P)), (mpv, zi E 600 (rwV 600 n g P)), (mt, zi E 4 (zn stp)), (p, zo 5 [.int (nI kd), .ref po, .ref pn, .int (nI len)]), (po, zi E 64 op), (pn, zi E 64 nn)] 0 0 (As := [.int (nI 13)]) (n := 1) (isJump l_ E 13 (by omega)) (zTs_good (fun _ => zTs_in) wk_276) rfl C0.2.2.2.2.2.2.2.2.2.1.1.2.2.2.2.1 (zTs_in wk_12) (zTs_in wk_275) ⟨by decide, by decide, by decide +kernel⟩ rfl rfl (by decide) rfl rfl (Nat.le_of_ble_eq_true rfl) ⟨by decide, by decide⟩ rfl rfl ⟨by decide, by decide⟩ ⟨by decide, by decide⟩ dX3_call_118 rfl (fun r118 w118 hB118 => ?_)
          obtain ⟨rfl, rfl⟩ := hB118
          refine z_perm [0, 1, 2, 3, 4, 5, 6, 7, 8, 9, 10] [(m, zo 3 [.ref ma, .ref ml, .ref ms, .int (nI h), .int an, .ref mp, .int (nI (P.length)), .ref mt]), (ma, zi E 3 ar1), (ml, zi E 4 lo), (ms, zi E 8 st), (mp, zo 4 [.ref mpk, .ref mpv, .int (nI (rwN 600 n P))]), (mpk, zi E 600 (rwK 600 n f P)), (mpv, zi E 600 (rwV 600 n g P)), (mt, zi E 4 (zn stp)), (p, zo 5 [.int (nI kd), .ref po, .ref pn, .int (nI len)]), (po, zi E 64 op), (pn, zi E 64 nn)] (by decide) rfl ?_
          refine z_if_eqP 124 139 C0 dX3_call_121 rfl (by decide) (fun k121 => ?_) (fun k121 => absurd k121 (by omega))
          refine z_iload 141 C0 4 dX3_call_139 rfl rfl ?_
          refine z_callSNi 144 C0 [] [0, 1, 2, 3, 4, 5, 6, 7, 8, 9, 10] [(m, zo 3 [.ref ma, .ref ml, .ref ms, .int (nI h), .int an, .ref mp, .int (nI (P.length)), .ref mt]), (ma, zi E 3 ar1), (ml, zi E 4 lo), (ms, zi E 8 st), (mp, zo 4 [.ref mpk, .ref mpv, .int (nI (rwN 600 n P))]), (mpk, zi E 600 (rwK 600 n f P)), (mpv, zi E 600 (rwV 600 n g P)), (mt, zi E 4 (zn stp)), (p, zo 5 [.int (nI kd), .ref po, .ref pn, .int (nI len)]), (po, zi E 64 op), (pn, zi E 64 nn)] 0 0 (As := [.int (nI 13)]) (n := 1) (isComb l_ E 13 (by omega)) (zTs_good (fun _ => zTs_in) wk_360) rfl C0.2.2.2.2.2.2.2.2.2.1.1.2.2.2.2.2 (zTs_in wk_12) (zTs_in wk_359) ⟨by decide, by decide, by decide +kernel⟩ rfl rfl (by decide) rfl rfl (Nat.le_of_ble_eq_true rfl) ⟨by decide, by decide⟩ rfl rfl ⟨by decide, by decide⟩ ⟨by decide, by decide⟩ dX3_call_141 rfl (fun r141 w141 hB141 => ?_)
          obtain ⟨rfl, rfl⟩ := hB141
          refine z_perm [0, 1, 2, 3, 4, 5, 6, 7, 8, 9, 10] [(m, zo 3 [.ref ma, .ref ml, .ref ms, .int (nI h), .int an, .ref mp, .int (nI (P.length)), .ref mt]), (ma, zi E 3 ar1), (ml, zi E 4 lo), (ms, zi E 8 st), (mp, zo 4 [.ref mpk, .ref mpv, .int (nI (rwN 600 n P))]), (mpk, zi E 600 (rwK 600 n f P)), (mpv, zi E 600 (rwV 600 n g P)), (mt, zi E 4 (zn stp)), (p, zo 5 [.int (nI kd), .ref po, .ref pn, .int (nI len)]), (po, zi E 64 op), (pn, zi E 64 nn)] (by decide) rfl ?_
          refine z_if_eqP 147 156 C0 dX3_call_144 rfl (by decide) (fun k144 => absurd k144 (by omega)) (fun k144 => ?_)
          refine z_aload_n 148 C0 0 dX3_call_147 rfl rfl rfl ?_
          refine z_iload 150 C0 4 dX3_call_148 rfl rfl ?_
          refine z_callVv 153 C0 [0, 3] [1, 2, 4, 5, 6, 7, 8, 9, 10] [(ma, zi E 3 ar1), (ml, zi E 4 lo), (mp, zo 4 [.ref mpk, .ref mpv, .int (nI (rwN 600 n P))]), (mpk, zi E 600 (rwK 600 n f P)), (mpv, zi E 600 (rwV 600 n g P)), (mt, zi E 4 (zn stp)), (p, zo 5 [.int (nI kd), .ref po, .ref pn, .int (nI len)]), (po, zi E 64 op), (pn, zi E 64 nn)] 0 0 (As := [.int (nI 13)]) (T := TX3) (N := 8) (C := RX3) (ci := 3) (n := 1) 0 (combine l_ E m ma ml ms mp mt h an (P.length) st 13 (by omega) (by omega) (by omega) (by omega)) (zGIV (fun _ => zTs_in) wk_364 wk_361 wk_362 wk_363 wk_18) rfl ⟨rfl, by decide, by decide, by decide +kernel⟩ rfl rfl rfl rfl (by decide) rfl rfl (Nat.le_of_ble_eq_true rfl) ⟨by decide, by decide⟩ rfl rfl ⟨by decide, by decide⟩ ⟨by decide, by decide⟩ dX3_call_150 rfl (fun w150 hB150 => ?_)
          obtain rfl := hB150
          refine z_perm [9, 0, 1, 10, 2, 3, 4, 5, 6, 7, 8] [(m, zo 3 [.ref ma, .ref ml, .ref ms, .int (nI (h - 1)), .int an, .ref mp, .int (nI (P.length)), .ref mt]), (ma, zi E 3 ar1), (ml, zi E 4 lo), (ms, zi E 8 (upd st (h - 2) (cmb 13 (st (h - 2)) (st (h - 1))))), (mp, zo 4 [.ref mpk, .ref mpv, .int (nI (rwN 600 n P))]), (mpk, zi E 600 (rwK 600 n f P)), (mpv, zi E 600 (rwV 600 n g P)), (mt, zi E 4 (zn stp)), (p, zo 5 [.int (nI kd), .ref po, .ref pn, .int (nI len)]), (po, zi E 64 op), (pn, zi E 64 nn)] (by decide) rfl ?_
          refine z_goto 164 C0 dX3_call_153 (by decide) ?_
          refine z_iinc 167 C0 2 [1, 2, 0, 3, 4, 5] [(0, .ref m), (1, .ref p), (5, .int (nI (i + 1))), (6, .int (nI (k + 1))), (7, .int (nI 13)), (8, .int (nn i))] (v := (nI (i + 1))) dX3_call_164 rfl rfl (z_incN _ _) (by decide) rfl ?_
          refine z_iinc 170 C0 3 [1, 2, 3, 0, 4, 5] [(0, .ref m), (1, .ref p), (5, .int (nI (i + 1))), (6, .int (nI (k + 2))), (7, .int (nI 13)), (8, .int (nn i))] (v := (nI (k + 2))) dX3_call_167 rfl rfl ((z_incN (k + 1) 1).trans (congrArg nI (by omega))) (by decide) rfl ?_
          refine z_goto 14 C0 dX3_call_170 (by decide) ?_
          refine z_loc [0, 1, 2, 3] [(0, .ref m), (1, .ref p), (5, .int (nI (i + 1))), (6, .int (nI (k + 2)))] rfl ?_
          exact ih14 (k + 1) fu (i + 1) (h - 1) lo (upd st (h - 2) (cmb 13 (st (h - 2)) (st (h - 1)))) P (by omega) (hR.next ho ⟨by decide, by decide, by decide⟩) hP ((mRun_step hop (by decide) (by decide) (by decide) (fun q => absurd q.1 (by decide)) hcl).symm.trans hM) (by omega)
        · skip
          have hnd : 0 ≤ h := by have := ho.2.2.1; simpa [pNeed, nNeed] using this
          have hup : h + 0 - 0 ≤ 8 := ho.2.2.2
          obtain ⟨j, hj, hnn⟩ := ho.1.2.2.2.2.2.2 (by omega)
          have hcl : (nn i).toNatClampNeg = j := by rw [hnn]; exact nI_clamp (by omega)
          refine z_aload_n 32 C0 1 dX3_call_31 rfl rfl rfl ?_
          refine z_get 35 C0 8 1 wz_5 rfl (by decide) (zTs_in wk_71) dX3_call_32 rfl rfl rfl ?_
          refine z_iload 37 C0 2 dX3_call_35 rfl rfl ?_
          refine z_ialdN 38 C0 9 (v := (nI 14)) dX3_call_37 rfl rfl (by omega) (by decide) hop ?_
          refine z_istore 40 C0 [1, 2, 3, 4, 0] [(0, .ref m), (1, .ref p), (5, .int (nI i)), (6, .int (nI (k + 1))), (7, .int (nI 14))] dX3_call_38 rfl (by decide) rfl ?_
          refine z_aload_n 41 C0 1 dX3_call_40 rfl rfl rfl ?_
          refine z_get 44 C0 8 2 wz_5 rfl (by decide) (zTs_in wk_74) dX3_call_41 rfl rfl rfl ?_
          refine z_iload 46 C0 2 dX3_call_44 rfl rfl ?_
          refine z_ialdN 47 C0 10 (v := (nI j)) dX3_call_46 rfl rfl (by omega) (by decide) hnn ?_
          refine z_istore 49 C0 [1, 2, 3, 4, 5, 0] [(0, .ref m), (1, .ref p), (5, .int (nI i)), (6, .int (nI (k + 1))), (7, .int (nI 14)), (8, .int (nI j))] dX3_call_47 rfl (by decide) rfl ?_
          refine z_iload 51 C0 4 dX3_call_49 rfl rfl ?_
          refine z_bipush 53 C0 (v := (nI 17)) dX3_call_51 rfl rfl ?_
          refine z_icmp_eqN 56 63 C0 (by decide) (by decide) dX3_call_53 rfl (by decide) (fun k53 => absurd k53 (by omega)) (fun k53 => ?_)
          refine z_iload 58 C0 4 dX3_call_56 rfl rfl ?_
          refine z_bipush 60 C0 (v := (nI 18)) dX3_call_58 rfl rfl ?_
          refine z_icmp_neN 63 98 C0 (by decide) (by decide) dX3_call_60 rfl (by decide) (fun k60 => ?_) (fun k60 => absurd k60 (by omega))
          refine z_iload 100 C0 4 dX3_call_98 rfl rfl ?_
          refine z_bipush 102 C0 (v := (nI 16)) dX3_call_100 rfl rfl ?_
          refine z_icmp_neN 105 116 C0 (by decide) (by decide) dX3_call_102 rfl (by decide) (fun k102 => ?_) (fun k102 => absurd k102 (by omega))
          refine z_iload 118 C0 4 dX3_call_116 rfl rfl ?_
          refine z_callSNi 121 C0 [] [0, 1, 2, 3, 4, 5, 6, 7, 8, 9, 10] [(m, zo 3 [.ref ma, .ref ml, .ref ms, .int (nI h), .int an, .ref mp, .int (nI (P.length)), .ref mt]), (ma, zi E 3 ar1), (ml, zi E 4 lo), (ms, zi E 8 st), (mp, zo 4 [.ref mpk, .ref mpv, .int (nI (rwN 600 n P))]), (mpk, zi E 600 (rwK 600 n f P)), (mpv, zi E 600 (rwV 600 n g P)), (mt, zi E 4 (zn stp)), (p, zo 5 [.int (nI kd), .ref po, .ref pn, .int (nI len)]), (po, zi E 64 op), (pn, zi E 64 nn)] 0 0 (As := [.int (nI 14)]) (n := 1) (isJump l_ E 14 (by omega)) (zTs_good (fun _ => zTs_in) wk_276) rfl C0.2.2.2.2.2.2.2.2.2.1.1.2.2.2.2.1 (zTs_in wk_12) (zTs_in wk_275) ⟨by decide, by decide, by decide +kernel⟩ rfl rfl (by decide) rfl rfl (Nat.le_of_ble_eq_true rfl) ⟨by decide, by decide⟩ rfl rfl ⟨by decide, by decide⟩ ⟨by decide, by decide⟩ dX3_call_118 rfl (fun r118 w118 hB118 => ?_)
          obtain ⟨rfl, rfl⟩ := hB118
          refine z_perm [0, 1, 2, 3, 4, 5, 6, 7, 8, 9, 10] [(m, zo 3 [.ref ma, .ref ml, .ref ms, .int (nI h), .int an, .ref mp, .int (nI (P.length)), .ref mt]), (ma, zi E 3 ar1), (ml, zi E 4 lo), (ms, zi E 8 st), (mp, zo 4 [.ref mpk, .ref mpv, .int (nI (rwN 600 n P))]), (mpk, zi E 600 (rwK 600 n f P)), (mpv, zi E 600 (rwV 600 n g P)), (mt, zi E 4 (zn stp)), (p, zo 5 [.int (nI kd), .ref po, .ref pn, .int (nI len)]), (po, zi E 64 op), (pn, zi E 64 nn)] (by decide) rfl ?_
          refine z_if_eqP 124 139 C0 dX3_call_121 rfl (by decide) (fun k121 => absurd k121 (by omega)) (fun k121 => ?_)
          refine z_aload_n 125 C0 0 dX3_call_124 rfl rfl rfl ?_
          refine z_iload 127 C0 4 dX3_call_125 rfl rfl ?_
          refine z_iload 129 C0 5 dX3_call_127 rfl rfl ?_
          refine z_iload 131 C0 2 dX3_call_129 rfl rfl ?_
          refine z_callVi 134 C0 [0, 3] [1, 2, 4, 5, 6, 7, 8, 9, 10] [(ma, zi E 3 ar1), (ml, zi E 4 lo), (mp, zo 4 [.ref mpk, .ref mpv, .int (nI (rwN 600 n P))]), (mpk, zi E 600 (rwK 600 n f P)), (mpv, zi E 600 (rwV 600 n g P)), (mt, zi E 4 (zn stp)), (p, zo 5 [.int (nI kd), .ref po, .ref pn, .int (nI len)]), (po, zi E 64 op), (pn, zi E 64 nn)] 0 0 (As := [.int (nI 14), .int (nI j), .int (nI i)]) (T := TX3) (N := 8) (C := RX3) (ci := 3) (n := 3) 0 (jump14 l_ E m ma ml ms mp mt h an (P.length) st (nI j) i (by omega)) (zGIV (fun _ => zTs_in) wk_357 wk_354 wk_355 wk_356 wk_18) rfl ⟨rfl, by decide, by decide, by decide +kernel⟩ rfl rfl rfl rfl (by decide) rfl rfl (Nat.le_of_ble_eq_true rfl) ⟨by decide, by decide⟩ rfl rfl ⟨by decide, by decide⟩ ⟨by decide, by decide⟩ dX3_call_131 rfl (fun r131 w131 hB131 => ?_)
          obtain ⟨rfl, rfl⟩ := hB131
          refine z_perm [9, 0, 1, 10, 2, 3, 4, 5, 6, 7, 8] [(m, zo 3 [.ref ma, .ref ml, .ref ms, .int (nI h), .int an, .ref mp, .int (nI (P.length)), .ref mt]), (ma, zi E 3 ar1), (ml, zi E 4 lo), (ms, zi E 8 st), (mp, zo 4 [.ref mpk, .ref mpv, .int (nI (rwN 600 n P))]), (mpk, zi E 600 (rwK 600 n f P)), (mpv, zi E 600 (rwV 600 n g P)), (mt, zi E 4 (zn stp)), (p, zo 5 [.int (nI kd), .ref po, .ref pn, .int (nI len)]), (po, zi E 64 op), (pn, zi E 64 nn)] (by decide) rfl ?_
          refine z_istore 136 C0 [1, 2, 0, 3, 4, 5] [(0, .ref m), (1, .ref p), (5, .int (nI j)), (6, .int (nI (k + 1))), (7, .int (nI 14)), (8, .int (nI j))] dX3_call_134 rfl (by decide) rfl ?_
          refine z_goto 167 C0 dX3_call_136 (by decide) ?_
          refine z_iinc 170 C0 3 [1, 2, 3, 0, 4, 5] [(0, .ref m), (1, .ref p), (5, .int (nI j)), (6, .int (nI (k + 2))), (7, .int (nI 14)), (8, .int (nI j))] (v := (nI (k + 2))) dX3_call_167 rfl rfl ((z_incN (k + 1) 1).trans (congrArg nI (by omega))) (by decide) rfl ?_
          refine z_goto 14 C0 dX3_call_170 (by decide) ?_
          refine z_loc [0, 1, 2, 3] [(0, .ref m), (1, .ref p), (5, .int (nI j)), (6, .int (nI (k + 2)))] rfl ?_
          exact ih14 (k + 1) fu j h lo st P (by omega) (hR.jump ho (by omega) hj hnn) hP ((mRun_step hop (by decide) (by decide) (by decide) (fun q => absurd q.1 (by decide)) hcl).symm.trans hM) (by omega)
        · skip
          have hnd : 1 ≤ h := by have := ho.2.2.1; simpa [pNeed, nNeed] using this
          have hup : h + 0 - 1 ≤ 8 := ho.2.2.2
          obtain ⟨j, hj, hnn⟩ := ho.1.2.2.2.2.2.2 (by omega)
          have hcl : (nn i).toNatClampNeg = j := by rw [hnn]; exact nI_clamp (by omega)
          refine z_aload_n 32 C0 1 dX3_call_31 rfl rfl rfl ?_
          refine z_get 35 C0 8 1 wz_5 rfl (by decide) (zTs_in wk_71) dX3_call_32 rfl rfl rfl ?_
          refine z_iload 37 C0 2 dX3_call_35 rfl rfl ?_
          refine z_ialdN 38 C0 9 (v := (nI 15)) dX3_call_37 rfl rfl (by omega) (by decide) hop ?_
          refine z_istore 40 C0 [1, 2, 3, 4, 0] [(0, .ref m), (1, .ref p), (5, .int (nI i)), (6, .int (nI (k + 1))), (7, .int (nI 15))] dX3_call_38 rfl (by decide) rfl ?_
          refine z_aload_n 41 C0 1 dX3_call_40 rfl rfl rfl ?_
          refine z_get 44 C0 8 2 wz_5 rfl (by decide) (zTs_in wk_74) dX3_call_41 rfl rfl rfl ?_
          refine z_iload 46 C0 2 dX3_call_44 rfl rfl ?_
          refine z_ialdN 47 C0 10 (v := (nI j)) dX3_call_46 rfl rfl (by omega) (by decide) hnn ?_
          refine z_istore 49 C0 [1, 2, 3, 4, 5, 0] [(0, .ref m), (1, .ref p), (5, .int (nI i)), (6, .int (nI (k + 1))), (7, .int (nI 15)), (8, .int (nI j))] dX3_call_47 rfl (by decide) rfl ?_
          refine z_iload 51 C0 4 dX3_call_49 rfl rfl ?_
          refine z_bipush 53 C0 (v := (nI 17)) dX3_call_51 rfl rfl ?_
          refine z_icmp_eqN 56 63 C0 (by decide) (by decide) dX3_call_53 rfl (by decide) (fun k53 => absurd k53 (by omega)) (fun k53 => ?_)
          refine z_iload 58 C0 4 dX3_call_56 rfl rfl ?_
          refine z_bipush 60 C0 (v := (nI 18)) dX3_call_58 rfl rfl ?_
          refine z_icmp_neN 63 98 C0 (by decide) (by decide) dX3_call_60 rfl (by decide) (fun k60 => ?_) (fun k60 => absurd k60 (by omega))
          refine z_iload 100 C0 4 dX3_call_98 rfl rfl ?_
          refine z_bipush 102 C0 (v := (nI 16)) dX3_call_100 rfl rfl ?_
          refine z_icmp_neN 105 116 C0 (by decide) (by decide) dX3_call_102 rfl (by decide) (fun k102 => ?_) (fun k102 => absurd k102 (by omega))
          refine z_iload 118 C0 4 dX3_call_116 rfl rfl ?_
          refine z_callSNi 121 C0 [] [0, 1, 2, 3, 4, 5, 6, 7, 8, 9, 10] [(m, zo 3 [.ref ma, .ref ml, .ref ms, .int (nI h), .int an, .ref mp, .int (nI (P.length)), .ref mt]), (ma, zi E 3 ar1), (ml, zi E 4 lo), (ms, zi E 8 st), (mp, zo 4 [.ref mpk, .ref mpv, .int (nI (rwN 600 n P))]), (mpk, zi E 600 (rwK 600 n f P)), (mpv, zi E 600 (rwV 600 n g P)), (mt, zi E 4 (zn stp)), (p, zo 5 [.int (nI kd), .ref po, .ref pn, .int (nI len)]), (po, zi E 64 op), (pn, zi E 64 nn)] 0 0 (As := [.int (nI 15)]) (n := 1) (isJump l_ E 15 (by omega)) (zTs_good (fun _ => zTs_in) wk_276) rfl C0.2.2.2.2.2.2.2.2.2.1.1.2.2.2.2.1 (zTs_in wk_12) (zTs_in wk_275) ⟨by decide, by decide, by decide +kernel⟩ rfl rfl (by decide) rfl rfl (Nat.le_of_ble_eq_true rfl) ⟨by decide, by decide⟩ rfl rfl ⟨by decide, by decide⟩ ⟨by decide, by decide⟩ dX3_call_118 rfl (fun r118 w118 hB118 => ?_)
          obtain ⟨rfl, rfl⟩ := hB118
          refine z_perm [0, 1, 2, 3, 4, 5, 6, 7, 8, 9, 10] [(m, zo 3 [.ref ma, .ref ml, .ref ms, .int (nI h), .int an, .ref mp, .int (nI (P.length)), .ref mt]), (ma, zi E 3 ar1), (ml, zi E 4 lo), (ms, zi E 8 st), (mp, zo 4 [.ref mpk, .ref mpv, .int (nI (rwN 600 n P))]), (mpk, zi E 600 (rwK 600 n f P)), (mpv, zi E 600 (rwV 600 n g P)), (mt, zi E 4 (zn stp)), (p, zo 5 [.int (nI kd), .ref po, .ref pn, .int (nI len)]), (po, zi E 64 op), (pn, zi E 64 nn)] (by decide) rfl ?_
          refine z_if_eqP 124 139 C0 dX3_call_121 rfl (by decide) (fun k121 => absurd k121 (by omega)) (fun k121 => ?_)
          refine z_aload_n 125 C0 0 dX3_call_124 rfl rfl rfl ?_
          refine z_iload 127 C0 4 dX3_call_125 rfl rfl ?_
          refine z_iload 129 C0 5 dX3_call_127 rfl rfl ?_
          refine z_iload 131 C0 2 dX3_call_129 rfl rfl ?_
          refine z_callVi 134 C0 [0, 3] [1, 2, 4, 5, 6, 7, 8, 9, 10] [(ma, zi E 3 ar1), (ml, zi E 4 lo), (mp, zo 4 [.ref mpk, .ref mpv, .int (nI (rwN 600 n P))]), (mpk, zi E 600 (rwK 600 n f P)), (mpv, zi E 600 (rwV 600 n g P)), (mt, zi E 4 (zn stp)), (p, zo 5 [.int (nI kd), .ref po, .ref pn, .int (nI len)]), (po, zi E 64 op), (pn, zi E 64 nn)] 0 0 (As := [.int (nI 15), .int (nI j), .int (nI i)]) (T := TX3) (N := 8) (C := RX3) (ci := 3) (n := 3) 0 (jump15 l_ E m ma ml ms mp mt h an (P.length) st (nI j) i (by omega)) (zGIV (fun _ => zTs_in) wk_357 wk_354 wk_355 wk_356 wk_18) rfl ⟨rfl, by decide, by decide, by decide +kernel⟩ rfl rfl rfl rfl (by decide) rfl rfl (Nat.le_of_ble_eq_true rfl) ⟨by decide, by decide⟩ rfl rfl ⟨by decide, by decide⟩ ⟨by decide, by decide⟩ dX3_call_131 rfl (fun r131 w131 hB131 => ?_)
          obtain ⟨rfl, rfl⟩ := hB131
          refine z_perm [9, 0, 1, 10, 2, 3, 4, 5, 6, 7, 8] [(m, zo 3 [.ref ma, .ref ml, .ref ms, .int (nI (h - 1)), .int an, .ref mp, .int (nI (P.length)), .ref mt]), (ma, zi E 3 ar1), (ml, zi E 4 lo), (ms, zi E 8 st), (mp, zo 4 [.ref mpk, .ref mpv, .int (nI (rwN 600 n P))]), (mpk, zi E 600 (rwK 600 n f P)), (mpv, zi E 600 (rwV 600 n g P)), (mt, zi E 4 (zn stp)), (p, zo 5 [.int (nI kd), .ref po, .ref pn, .int (nI len)]), (po, zi E 64 op), (pn, zi E 64 nn)] (by decide) rfl ?_
          by_cases hz : popV h st = 0
          · skip
            refine z_eq (L1 := [(0, .ref m), (1, .ref p), (5, .int (nI i)), (6, .int (nI (k + 1))), (7, .int (nI 15)), (8, .int (nI j))]) (st1 := [.int (nI j)]) (w1 := [(m, zo 3 [.ref ma, .ref ml, .ref ms, .int (nI (h - 1)), .int an, .ref mp, .int (nI (P.length)), .ref mt]), (ma, zi E 3 ar1), (ml, zi E 4 lo), (ms, zi E 8 st), (mp, zo 4 [.ref mpk, .ref mpv, .int (nI (rwN 600 n P))]), (mpk, zi E 600 (rwK 600 n f P)), (mpv, zi E 600 (rwV 600 n g P)), (mt, zi E 4 (zn stp)), (p, zo 5 [.int (nI kd), .ref po, .ref pn, .int (nI len)]), (po, zi E 64 op), (pn, zi E 64 nn)]) rfl (by rw [if_pos hz]) rfl ?_
            refine z_istore 136 C0 [1, 2, 0, 3, 4, 5] [(0, .ref m), (1, .ref p), (5, .int (nI j)), (6, .int (nI (k + 1))), (7, .int (nI 15)), (8, .int (nI j))] dX3_call_134 rfl (by decide) rfl ?_
            refine z_goto 167 C0 dX3_call_136 (by decide) ?_
            refine z_iinc 170 C0 3 [1, 2, 3, 0, 4, 5] [(0, .ref m), (1, .ref p), (5, .int (nI j)), (6, .int (nI (k + 2))), (7, .int (nI 15)), (8, .int (nI j))] (v := (nI (k + 2))) dX3_call_167 rfl rfl ((z_incN (k + 1) 1).trans (congrArg nI (by omega))) (by decide) rfl ?_
            refine z_goto 14 C0 dX3_call_170 (by decide) ?_
            refine z_loc [0, 1, 2, 3] [(0, .ref m), (1, .ref p), (5, .int (nI j)), (6, .int (nI (k + 2)))] rfl ?_
            exact ih14 (k + 1) fu j (h - 1) lo st P (by omega) (hR.jump ho (by omega) hj hnn) hP ((by rw [mRun_step hop (by decide) (by decide) (by decide) (fun q => absurd q.1 (by decide)) hcl] at hM; unfold aAt at hM; rw [if_neg (by decide), if_pos rfl, if_pos hz] at hM; exact hM)) (by omega)
          · skip
            refine z_eq (L1 := [(0, .ref m), (1, .ref p), (5, .int (nI i)), (6, .int (nI (k + 1))), (7, .int (nI 15)), (8, .int (nI j))]) (st1 := [.int (nI (i + 1))]) (w1 := [(m, zo 3 [.ref ma, .ref ml, .ref ms, .int (nI (h - 1)), .int an, .ref mp, .int (nI (P.length)), .ref mt]), (ma, zi E 3 ar1), (ml, zi E 4 lo), (ms, zi E 8 st), (mp, zo 4 [.ref mpk, .ref mpv, .int (nI (rwN 600 n P))]), (mpk, zi E 600 (rwK 600 n f P)), (mpv, zi E 600 (rwV 600 n g P)), (mt, zi E 4 (zn stp)), (p, zo 5 [.int (nI kd), .ref po, .ref pn, .int (nI len)]), (po, zi E 64 op), (pn, zi E 64 nn)]) rfl (by rw [if_neg hz]) rfl ?_
            refine z_istore 136 C0 [1, 2, 0, 3, 4, 5] [(0, .ref m), (1, .ref p), (5, .int (nI (i + 1))), (6, .int (nI (k + 1))), (7, .int (nI 15)), (8, .int (nI j))] dX3_call_134 rfl (by decide) rfl ?_
            refine z_goto 167 C0 dX3_call_136 (by decide) ?_
            refine z_iinc 170 C0 3 [1, 2, 3, 0, 4, 5] [(0, .ref m), (1, .ref p), (5, .int (nI (i + 1))), (6, .int (nI (k + 2))), (7, .int (nI 15)), (8, .int (nI j))] (v := (nI (k + 2))) dX3_call_167 rfl rfl ((z_incN (k + 1) 1).trans (congrArg nI (by omega))) (by decide) rfl ?_
            refine z_goto 14 C0 dX3_call_170 (by decide) ?_
            refine z_loc [0, 1, 2, 3] [(0, .ref m), (1, .ref p), (5, .int (nI (i + 1))), (6, .int (nI (k + 2)))] rfl ?_
            exact ih14 (k + 1) fu (i + 1) (h - 1) lo st P (by omega) (hR.next ho ⟨by decide, by decide, by decide⟩) hP ((by rw [mRun_step hop (by decide) (by decide) (by decide) (fun q => absurd q.1 (by decide)) hcl] at hM; unfold aAt at hM; rw [if_neg (by decide), if_pos rfl, if_neg hz] at hM; exact hM)) (by omega)
        · skip
          have hnd : 2 ≤ h := by have := ho.2.2.1; simpa [pNeed, nNeed] using this
          have hup : h + 0 - 2 ≤ 8 := ho.2.2.2
          have hcl : (nn i).toNatClampNeg = (nn i).toNatClampNeg := rfl
          refine z_aload_n 32 C0 1 dX3_call_31 rfl rfl rfl ?_
          refine z_get 35 C0 8 1 wz_5 rfl (by decide) (zTs_in wk_71) dX3_call_32 rfl rfl rfl ?_
          refine z_iload 37 C0 2 dX3_call_35 rfl rfl ?_
          refine z_ialdN 38 C0 9 (v := (nI 16)) dX3_call_37 rfl rfl (by omega) (by decide) hop ?_
          refine z_istore 40 C0 [1, 2, 3, 4, 0] [(0, .ref m), (1, .ref p), (5, .int (nI i)), (6, .int (nI (k + 1))), (7, .int (nI 16))] dX3_call_38 rfl (by decide) rfl ?_
          refine z_aload_n 41 C0 1 dX3_call_40 rfl rfl rfl ?_
          refine z_get 44 C0 8 2 wz_5 rfl (by decide) (zTs_in wk_74) dX3_call_41 rfl rfl rfl ?_
          refine z_iload 46 C0 2 dX3_call_44 rfl rfl ?_
          refine z_ialdN 47 C0 10 (v := (nn i)) dX3_call_46 rfl rfl (by omega) (by decide) rfl ?_
          refine z_istore 49 C0 [1, 2, 3, 4, 5, 0] [(0, .ref m), (1, .ref p), (5, .int (nI i)), (6, .int (nI (k + 1))), (7, .int (nI 16)), (8, .int (nn i))] dX3_call_47 rfl (by decide) rfl ?_
          refine z_iload 51 C0 4 dX3_call_49 rfl rfl ?_
          refine z_bipush 53 C0 (v := (nI 17)) dX3_call_51 rfl rfl ?_
          refine z_icmp_eqN 56 63 C0 (by decide) (by decide) dX3_call_53 rfl (by decide) (fun k53 => absurd k53 (by omega)) (fun k53 => ?_)
          refine z_iload 58 C0 4 dX3_call_56 rfl rfl ?_
          refine z_bipush 60 C0 (v := (nI 18)) dX3_call_58 rfl rfl ?_
          refine z_icmp_neN 63 98 C0 (by decide) (by decide) dX3_call_60 rfl (by decide) (fun k60 => ?_) (fun k60 => absurd k60 (by omega))
          refine z_iload 100 C0 4 dX3_call_98 rfl rfl ?_
          refine z_bipush 102 C0 (v := (nI 16)) dX3_call_100 rfl rfl ?_
          refine z_icmp_neN 105 116 C0 (by decide) (by decide) dX3_call_102 rfl (by decide) (fun k102 => absurd k102 (by omega)) (fun k102 => ?_)
          refine z_aload_n 106 C0 0 dX3_call_105 rfl rfl rfl ?_
          refine z_get 109 C0 0 6 wz_3 rfl (by decide) (zTs_in wk_127) dX3_call_106 rfl rfl rfl ?_
          refine z_bipush 111 C0 (v := (nI 20)) dX3_call_109 rfl rfl ?_
          refine z_icmp_ltN 114 116 C0 (by omega) (by decide) dX3_call_111 rfl (by decide) (fun k111 => ?_) (fun k111 => ?_)
          · skip
            refine z_iload 118 C0 4 dX3_call_116 rfl rfl ?_
            refine z_callSNi 121 C0 [] [0, 1, 2, 3, 4, 5, 6, 7, 8, 9, 10] [(m, zo 3 [.ref ma, .ref ml, .ref ms, .int (nI h), .int an, .ref mp, .int (nI (P.length)), .ref mt]), (ma, zi E 3 ar1), (ml, zi E 4 lo), (ms, zi E 8 st), (mp, zo 4 [.ref mpk, .ref mpv, .int (nI (rwN 600 n P))]), (mpk, zi E 600 (rwK 600 n f P)), (mpv, zi E 600 (rwV 600 n g P)), (mt, zi E 4 (zn stp)), (p, zo 5 [.int (nI kd), .ref po, .ref pn, .int (nI len)]), (po, zi E 64 op), (pn, zi E 64 nn)] 0 0 (As := [.int (nI 16)]) (n := 1) (isJump l_ E 16 (by omega)) (zTs_good (fun _ => zTs_in) wk_276) rfl C0.2.2.2.2.2.2.2.2.2.1.1.2.2.2.2.1 (zTs_in wk_12) (zTs_in wk_275) ⟨by decide, by decide, by decide +kernel⟩ rfl rfl (by decide) rfl rfl (Nat.le_of_ble_eq_true rfl) ⟨by decide, by decide⟩ rfl rfl ⟨by decide, by decide⟩ ⟨by decide, by decide⟩ dX3_call_118 rfl (fun r118 w118 hB118 => ?_)
            obtain ⟨rfl, rfl⟩ := hB118
            refine z_perm [0, 1, 2, 3, 4, 5, 6, 7, 8, 9, 10] [(m, zo 3 [.ref ma, .ref ml, .ref ms, .int (nI h), .int an, .ref mp, .int (nI (P.length)), .ref mt]), (ma, zi E 3 ar1), (ml, zi E 4 lo), (ms, zi E 8 st), (mp, zo 4 [.ref mpk, .ref mpv, .int (nI (rwN 600 n P))]), (mpk, zi E 600 (rwK 600 n f P)), (mpv, zi E 600 (rwV 600 n g P)), (mt, zi E 4 (zn stp)), (p, zo 5 [.int (nI kd), .ref po, .ref pn, .int (nI len)]), (po, zi E 64 op), (pn, zi E 64 nn)] (by decide) rfl ?_
            refine z_if_eqP 124 139 C0 dX3_call_121 rfl (by decide) (fun k121 => ?_) (fun k121 => absurd k121 (by omega))
            refine z_iload 141 C0 4 dX3_call_139 rfl rfl ?_
            refine z_callSNi 144 C0 [] [0, 1, 2, 3, 4, 5, 6, 7, 8, 9, 10] [(m, zo 3 [.ref ma, .ref ml, .ref ms, .int (nI h), .int an, .ref mp, .int (nI (P.length)), .ref mt]), (ma, zi E 3 ar1), (ml, zi E 4 lo), (ms, zi E 8 st), (mp, zo 4 [.ref mpk, .ref mpv, .int (nI (rwN 600 n P))]), (mpk, zi E 600 (rwK 600 n f P)), (mpv, zi E 600 (rwV 600 n g P)), (mt, zi E 4 (zn stp)), (p, zo 5 [.int (nI kd), .ref po, .ref pn, .int (nI len)]), (po, zi E 64 op), (pn, zi E 64 nn)] 0 0 (As := [.int (nI 16)]) (n := 1) (isComb l_ E 16 (by omega)) (zTs_good (fun _ => zTs_in) wk_360) rfl C0.2.2.2.2.2.2.2.2.2.1.1.2.2.2.2.2 (zTs_in wk_12) (zTs_in wk_359) ⟨by decide, by decide, by decide +kernel⟩ rfl rfl (by decide) rfl rfl (Nat.le_of_ble_eq_true rfl) ⟨by decide, by decide⟩ rfl rfl ⟨by decide, by decide⟩ ⟨by decide, by decide⟩ dX3_call_141 rfl (fun r141 w141 hB141 => ?_)
            obtain ⟨rfl, rfl⟩ := hB141
            refine z_perm [0, 1, 2, 3, 4, 5, 6, 7, 8, 9, 10] [(m, zo 3 [.ref ma, .ref ml, .ref ms, .int (nI h), .int an, .ref mp, .int (nI (P.length)), .ref mt]), (ma, zi E 3 ar1), (ml, zi E 4 lo), (ms, zi E 8 st), (mp, zo 4 [.ref mpk, .ref mpv, .int (nI (rwN 600 n P))]), (mpk, zi E 600 (rwK 600 n f P)), (mpv, zi E 600 (rwV 600 n g P)), (mt, zi E 4 (zn stp)), (p, zo 5 [.int (nI kd), .ref po, .ref pn, .int (nI len)]), (po, zi E 64 op), (pn, zi E 64 nn)] (by decide) rfl ?_
            refine z_if_eqP 147 156 C0 dX3_call_144 rfl (by decide) (fun k144 => ?_) (fun k144 => absurd k144 (by omega))
            refine z_aload_n 157 C0 0 dX3_call_156 rfl rfl rfl ?_
            refine z_iload 159 C0 4 dX3_call_157 rfl rfl ?_
            refine z_iload 161 C0 5 dX3_call_159 rfl rfl ?_
            refine z_callVv 164 C0 [0, 1, 2, 3, 4, 5, 6] [7, 8, 9, 10] [(mt, zi E 4 (zn stp)), (p, zo 5 [.int (nI kd), .ref po, .ref pn, .int (nI len)]), (po, zi E 64 op), (pn, zi E 64 nn)] 0 0 (As := [.int (nI 16), .int (nn i)]) (T := TX3) (N := 8) (C := RX3) (ci := 3) (n := 2) 0 (move16 l_ E m ma ml ms mp mt h an (P.length) ar1 lo st mpk mpv (rwK 600 n f P) (rwV 600 n g P) (rwN 600 n P) (nn i) (by omega) (by omega) (rwN_le hn) (by omega)) (zGIV (fun _ => zTs_in) wk_375 wk_372 wk_373 wk_374 wk_18) rfl ⟨rfl, by decide, by decide, by decide +kernel⟩ rfl rfl rfl rfl (by decide) rfl rfl (Nat.le_of_ble_eq_true rfl) ⟨by decide, by decide⟩ rfl rfl ⟨by decide, by decide⟩ ⟨by decide, by decide⟩ dX3_call_161 rfl (fun w161 hB161 => ?_)
            obtain rfl := hB161
            refine z_perm [4, 5, 6, 7, 8, 9, 10, 0, 1, 2, 3] [(m, zo 3 [.ref ma, .ref ml, .ref ms, .int (nI (h - 2)), .int an, .ref mp, .int (nI ((P.length) + 1)), .ref mt]), (ma, zi E 3 ar1), (ml, zi E 4 lo), (ms, zi E 8 st), (mp, zo 4 [.ref mpk, .ref mpv, .int (nI (capN 600 (rwN 600 n P)))]), (mpk, zi E 600 (capU 600 (rwN 600 n P) (rwK 600 n f P) (st (h - 2)))), (mpv, zi E 600 (capU 600 (rwN 600 n P) (rwV 600 n g P) (st (h - 1)))), (mt, zi E 4 (zn stp)), (p, zo 5 [.int (nI kd), .ref po, .ref pn, .int (nI len)]), (po, zi E 64 op), (pn, zi E 64 nn)] (by decide) rfl ?_
            refine z_eq (L1 := [(0, .ref m), (1, .ref p), (5, .int (nI i)), (6, .int (nI (k + 1))), (7, .int (nI 16)), (8, .int (nn i))]) (st1 := []) (w1 := [(m, zo 3 [.ref ma, .ref ml, .ref ms, .int (nI (h - 2)), .int an, .ref mp, .int (nI ((P ++ [(st (h - 2), st (h - 1))]).length)), .ref mt]), (ma, zi E 3 ar1), (ml, zi E 4 lo), (ms, zi E 8 st), (mp, zo 4 [.ref mpk, .ref mpv, .int (nI (rwN 600 n (P ++ [(st (h - 2), st (h - 1))])))]), (mpk, zi E 600 (rwK 600 n f (P ++ [(st (h - 2), st (h - 1))]))), (mpv, zi E 600 (rwV 600 n g (P ++ [(st (h - 2), st (h - 1))]))), (mt, zi E 4 (zn stp)), (p, zo 5 [.int (nI kd), .ref po, .ref pn, .int (nI len)]), (po, zi E 64 op), (pn, zi E 64 nn)]) rfl rfl (by rw [rwK_s hn, rwV_s hn, rwN_s hn, List.length_append]; rfl) ?_
            refine z_iinc 167 C0 2 [1, 2, 0, 3, 4, 5] [(0, .ref m), (1, .ref p), (5, .int (nI (i + 1))), (6, .int (nI (k + 1))), (7, .int (nI 16)), (8, .int (nn i))] (v := (nI (i + 1))) dX3_call_164 rfl rfl (z_incN _ _) (by decide) rfl ?_
            refine z_iinc 170 C0 3 [1, 2, 3, 0, 4, 5] [(0, .ref m), (1, .ref p), (5, .int (nI (i + 1))), (6, .int (nI (k + 2))), (7, .int (nI 16)), (8, .int (nn i))] (v := (nI (k + 2))) dX3_call_167 rfl rfl ((z_incN (k + 1) 1).trans (congrArg nI (by omega))) (by decide) rfl ?_
            refine z_goto 14 C0 dX3_call_170 (by decide) ?_
            refine z_loc [0, 1, 2, 3] [(0, .ref m), (1, .ref p), (5, .int (nI (i + 1))), (6, .int (nI (k + 2)))] rfl ?_
            exact ih14 (k + 1) fu (i + 1) (h - 2) lo st (P ++ [(st (h - 2), st (h - 1))]) (by omega) (hR.next ho ⟨by decide, by decide, by decide⟩) (by rw [List.length_append]; simp only [List.length_singleton]; omega) ((mRun_step hop (by decide) (by decide) (by decide) (by omega) hcl).symm.trans hM) (by omega)
          · skip
            refine z_iconst 115 C0 (v := (nI 0)) dX3_call_114 rfl rfl ?_
            have hh8 := (hG.at hR).2.1
            have hres : (callR op nn a b d) = (0, 0, 0, P) := hM.symm.trans (mRun_16 hop k111)
            exact z_iret C0 rfl dX3_call_115 ⟨h, an, ar1, lo, st, ⟨(by rw [hres]), (by rw [hres]; rfl)⟩, (by omega), (fun q => absurd (by rw [hres]) q)⟩ (by decide) (by decide)
        · skip
          have hup : h + 0 - 0 ≤ 8 := ho.2.2.2
          have hcl : (nn i).toNatClampNeg = (nn i).toNatClampNeg := rfl
          refine z_aload_n 32 C0 1 dX3_call_31 rfl rfl rfl ?_
          refine z_get 35 C0 8 1 wz_5 rfl (by decide) (zTs_in wk_71) dX3_call_32 rfl rfl rfl ?_
          refine z_iload 37 C0 2 dX3_call_35 rfl rfl ?_
          refine z_ialdN 38 C0 9 (v := (nI 17)) dX3_call_37 rfl rfl (by omega) (by decide) hop ?_
          refine z_istore 40 C0 [1, 2, 3, 4, 0] [(0, .ref m), (1, .ref p), (5, .int (nI i)), (6, .int (nI (k + 1))), (7, .int (nI 17))] dX3_call_38 rfl (by decide) rfl ?_
          refine z_aload_n 41 C0 1 dX3_call_40 rfl rfl rfl ?_
          refine z_get 44 C0 8 2 wz_5 rfl (by decide) (zTs_in wk_74) dX3_call_41 rfl rfl rfl ?_
          refine z_iload 46 C0 2 dX3_call_44 rfl rfl ?_
          refine z_ialdN 47 C0 10 (v := (nn i)) dX3_call_46 rfl rfl (by omega) (by decide) rfl ?_
          refine z_istore 49 C0 [1, 2, 3, 4, 5, 0] [(0, .ref m), (1, .ref p), (5, .int (nI i)), (6, .int (nI (k + 1))), (7, .int (nI 17)), (8, .int (nn i))] dX3_call_47 rfl (by decide) rfl ?_
          refine z_iload 51 C0 4 dX3_call_49 rfl rfl ?_
          refine z_bipush 53 C0 (v := (nI 17)) dX3_call_51 rfl rfl ?_
          refine z_icmp_eqN 56 63 C0 (by decide) (by decide) dX3_call_53 rfl (by decide) (fun k53 => ?_) (fun k53 => absurd k53 (by omega))
          refine z_aload_n 64 C0 0 dX3_call_63 rfl rfl rfl ?_
          refine z_get 67 C0 0 7 wz_3 rfl (by decide) (zTs_in wk_129) dX3_call_64 rfl rfl rfl ?_
          refine z_aload_n 68 C0 1 dX3_call_67 rfl rfl rfl ?_
          refine z_get 71 C0 8 0 wz_5 rfl (by decide) (zTs_in wk_68) dX3_call_68 rfl rfl rfl ?_
          refine z_dup2 72 C0 dX3_call_71 rfl rfl rfl ?_
          refine z_ialdN 73 C0 7 (v := (nI (stp kd))) dX3_call_72 rfl rfl (by omega) (by decide) rfl ?_
          refine z_iload 75 C0 3 dX3_call_73 rfl rfl ?_
          refine z_iadd 76 C0 (v := (nI ((stp kd) + (k + 1)))) dX3_call_75 rfl (nI_add _ _) ?_
          refine z_iastN 77 C0 7 [(m, zo 3 [.ref ma, .ref ml, .ref ms, .int (nI h), .int an, .ref mp, .int (nI (P.length)), .ref mt]), (ma, zi E 3 ar1), (ml, zi E 4 lo), (ms, zi E 8 st), (mp, zo 4 [.ref mpk, .ref mpv, .int (nI (rwN 600 n P))]), (mpk, zi E 600 (rwK 600 n f P)), (mpv, zi E 600 (rwV 600 n g P)), (mt, zi E 4 (zn (va_up stp kd ((stp kd) + (k + 1))))), (p, zo 5 [.int (nI kd), .ref po, .ref pn, .int (nI len)]), (po, zi E 64 op), (pn, zi E 64 nn)] dX3_call_76 rfl rfl (by omega) (by decide) (by rw [z_upN]; rfl) ?_
          refine z_aload_n 78 C0 0 dX3_call_77 rfl rfl rfl ?_
          refine z_aload_n 79 C0 0 dX3_call_78 rfl rfl rfl ?_
          refine z_callVi 82 C0 [0, 3] [1, 2, 4, 5, 6, 7, 8, 9, 10] [(ma, zi E 3 ar1), (ml, zi E 4 lo), (mp, zo 4 [.ref mpk, .ref mpv, .int (nI (rwN 600 n P))]), (mpk, zi E 600 (rwK 600 n f P)), (mpv, zi E 600 (rwV 600 n g P)), (mt, zi E 4 (zn (va_up stp kd ((stp kd) + (k + 1))))), (p, zo 5 [.int (nI kd), .ref po, .ref pn, .int (nI len)]), (po, zi E 64 op), (pn, zi E 64 nn)] 0 0 (As := []) (T := TX3) (N := 8) (C := RX3) (ci := 3) (n := 0) 0 (pop l_ E m ma ml ms mp mt h an (P.length) st (by omega)) (zGIV (fun _ => zTs_in) wk_352 wk_349 wk_350 wk_351 wk_18) rfl ⟨rfl, by decide, by decide, by decide +kernel⟩ rfl rfl rfl rfl (by decide) rfl rfl (Nat.le_of_ble_eq_true rfl) ⟨by decide, by decide⟩ rfl rfl ⟨by decide, by decide⟩ ⟨by decide, by decide⟩ dX3_call_79 rfl (fun r79 w79 hB79 => ?_)
          obtain ⟨rfl, rfl⟩ := hB79
          refine z_perm [9, 0, 1, 10, 2, 3, 4, 5, 6, 7, 8] [(m, zo 3 [.ref ma, .ref ml, .ref ms, .int (nI (h - 1)), .int an, .ref mp, .int (nI (P.length)), .ref mt]), (ma, zi E 3 ar1), (ml, zi E 4 lo), (ms, zi E 8 st), (mp, zo 4 [.ref mpk, .ref mpv, .int (nI (rwN 600 n P))]), (mpk, zi E 600 (rwK 600 n f P)), (mpv, zi E 600 (rwV 600 n g P)), (mt, zi E 4 (zn (va_up stp kd ((stp kd) + (k + 1))))), (p, zo 5 [.int (nI kd), .ref po, .ref pn, .int (nI len)]), (po, zi E 64 op), (pn, zi E 64 nn)] (by decide) rfl ?_
          refine z_put 85 C0 0 4 [(m, zo 3 [.ref ma, .ref ml, .ref ms, .int (nI (h - 1)), .int (popV h st), .ref mp, .int (nI (P.length)), .ref mt]), (ma, zi E 3 ar1), (ml, zi E 4 lo), (ms, zi E 8 st), (mp, zo 4 [.ref mpk, .ref mpv, .int (nI (rwN 600 n P))]), (mpk, zi E 600 (rwK 600 n f P)), (mpv, zi E 600 (rwV 600 n g P)), (mt, zi E 4 (zn (va_up stp kd ((stp kd) + (k + 1))))), (p, zo 5 [.int (nI kd), .ref po, .ref pn, .int (nI len)]), (po, zi E 64 op), (pn, zi E 64 nn)] wz_3 rfl (by decide) (zTs_in wk_123) tyX3 tyX3_ok nmX3 rfl rfl rfl rfl dX3_call_82 rfl rfl (Nat.le_of_ble_eq_true rfl) rfl ?_
          refine z_iload 87 C0 4 dX3_call_85 rfl rfl ?_
          refine z_bipush 89 C0 (v := (nI 17)) dX3_call_87 rfl rfl ?_
          refine z_icmp_neN 92 96 C0 (by decide) (by decide) dX3_call_89 rfl (by decide) (fun k89 => absurd k89 (by omega)) (fun k89 => ?_)
          refine z_iconst 93 C0 (v := (nI 1)) dX3_call_92 rfl rfl ?_
          refine z_goto 97 C0 dX3_call_93 (by decide) ?_
          have hres : (callR op nn a b d) = (1, popV h st, k + 1, P) := hM.symm.trans (mRun_17 hop)
          exact z_iret C0 rfl dX3_call_97 ⟨(h - 1), (popV h st), ar1, lo, st, ⟨(by rw [hres]), (by rw [hres]; rfl)⟩, (by omega), (fun _ => by rw [hres])⟩ (by decide) (by decide)
        · skip
          have hnd : 0 ≤ h := by have := ho.2.2.1; simpa [pNeed, nNeed] using this
          have hup : h + 0 - 0 ≤ 8 := ho.2.2.2
          have hcl : (nn i).toNatClampNeg = (nn i).toNatClampNeg := rfl
          refine z_aload_n 32 C0 1 dX3_call_31 rfl rfl rfl ?_
          refine z_get 35 C0 8 1 wz_5 rfl (by decide) (zTs_in wk_71) dX3_call_32 rfl rfl rfl ?_
          refine z_iload 37 C0 2 dX3_call_35 rfl rfl ?_
          refine z_ialdN 38 C0 9 (v := (nI 18)) dX3_call_37 rfl rfl (by omega) (by decide) hop ?_
          refine z_istore 40 C0 [1, 2, 3, 4, 0] [(0, .ref m), (1, .ref p), (5, .int (nI i)), (6, .int (nI (k + 1))), (7, .int (nI 18))] dX3_call_38 rfl (by decide) rfl ?_
          refine z_aload_n 41 C0 1 dX3_call_40 rfl rfl rfl ?_
          refine z_get 44 C0 8 2 wz_5 rfl (by decide) (zTs_in wk_74) dX3_call_41 rfl rfl rfl ?_
          refine z_iload 46 C0 2 dX3_call_44 rfl rfl ?_
          refine z_ialdN 47 C0 10 (v := (nn i)) dX3_call_46 rfl rfl (by omega) (by decide) rfl ?_
          refine z_istore 49 C0 [1, 2, 3, 4, 5, 0] [(0, .ref m), (1, .ref p), (5, .int (nI i)), (6, .int (nI (k + 1))), (7, .int (nI 18)), (8, .int (nn i))] dX3_call_47 rfl (by decide) rfl ?_
          refine z_iload 51 C0 4 dX3_call_49 rfl rfl ?_
          refine z_bipush 53 C0 (v := (nI 17)) dX3_call_51 rfl rfl ?_
          refine z_icmp_eqN 56 63 C0 (by decide) (by decide) dX3_call_53 rfl (by decide) (fun k53 => absurd k53 (by omega)) (fun k53 => ?_)
          refine z_iload 58 C0 4 dX3_call_56 rfl rfl ?_
          refine z_bipush 60 C0 (v := (nI 18)) dX3_call_58 rfl rfl ?_
          refine z_icmp_neN 63 98 C0 (by decide) (by decide) dX3_call_60 rfl (by decide) (fun k60 => absurd k60 (by omega)) (fun k60 => ?_)
          refine z_aload_n 64 C0 0 dX3_call_63 rfl rfl rfl ?_
          refine z_get 67 C0 0 7 wz_3 rfl (by decide) (zTs_in wk_129) dX3_call_64 rfl rfl rfl ?_
          refine z_aload_n 68 C0 1 dX3_call_67 rfl rfl rfl ?_
          refine z_get 71 C0 8 0 wz_5 rfl (by decide) (zTs_in wk_68) dX3_call_68 rfl rfl rfl ?_
          refine z_dup2 72 C0 dX3_call_71 rfl rfl rfl ?_
          refine z_ialdN 73 C0 7 (v := (nI (stp kd))) dX3_call_72 rfl rfl (by omega) (by decide) rfl ?_
          refine z_iload 75 C0 3 dX3_call_73 rfl rfl ?_
          refine z_iadd 76 C0 (v := (nI ((stp kd) + (k + 1)))) dX3_call_75 rfl (nI_add _ _) ?_
          refine z_iastN 77 C0 7 [(m, zo 3 [.ref ma, .ref ml, .ref ms, .int (nI h), .int an, .ref mp, .int (nI (P.length)), .ref mt]), (ma, zi E 3 ar1), (ml, zi E 4 lo), (ms, zi E 8 st), (mp, zo 4 [.ref mpk, .ref mpv, .int (nI (rwN 600 n P))]), (mpk, zi E 600 (rwK 600 n f P)), (mpv, zi E 600 (rwV 600 n g P)), (mt, zi E 4 (zn (va_up stp kd ((stp kd) + (k + 1))))), (p, zo 5 [.int (nI kd), .ref po, .ref pn, .int (nI len)]), (po, zi E 64 op), (pn, zi E 64 nn)] dX3_call_76 rfl rfl (by omega) (by decide) (by rw [z_upN]; rfl) ?_
          refine z_aload_n 78 C0 0 dX3_call_77 rfl rfl rfl ?_
          refine z_aload_n 79 C0 0 dX3_call_78 rfl rfl rfl ?_
          refine z_callVi 82 C0 [0, 3] [1, 2, 4, 5, 6, 7, 8, 9, 10] [(ma, zi E 3 ar1), (ml, zi E 4 lo), (mp, zo 4 [.ref mpk, .ref mpv, .int (nI (rwN 600 n P))]), (mpk, zi E 600 (rwK 600 n f P)), (mpv, zi E 600 (rwV 600 n g P)), (mt, zi E 4 (zn (va_up stp kd ((stp kd) + (k + 1))))), (p, zo 5 [.int (nI kd), .ref po, .ref pn, .int (nI len)]), (po, zi E 64 op), (pn, zi E 64 nn)] 0 0 (As := []) (T := TX3) (N := 8) (C := RX3) (ci := 3) (n := 0) 0 (pop l_ E m ma ml ms mp mt h an (P.length) st (by omega)) (zGIV (fun _ => zTs_in) wk_352 wk_349 wk_350 wk_351 wk_18) rfl ⟨rfl, by decide, by decide, by decide +kernel⟩ rfl rfl rfl rfl (by decide) rfl rfl (Nat.le_of_ble_eq_true rfl) ⟨by decide, by decide⟩ rfl rfl ⟨by decide, by decide⟩ ⟨by decide, by decide⟩ dX3_call_79 rfl (fun r79 w79 hB79 => ?_)
          obtain ⟨rfl, rfl⟩ := hB79
          refine z_perm [9, 0, 1, 10, 2, 3, 4, 5, 6, 7, 8] [(m, zo 3 [.ref ma, .ref ml, .ref ms, .int (nI (h - 1)), .int an, .ref mp, .int (nI (P.length)), .ref mt]), (ma, zi E 3 ar1), (ml, zi E 4 lo), (ms, zi E 8 st), (mp, zo 4 [.ref mpk, .ref mpv, .int (nI (rwN 600 n P))]), (mpk, zi E 600 (rwK 600 n f P)), (mpv, zi E 600 (rwV 600 n g P)), (mt, zi E 4 (zn (va_up stp kd ((stp kd) + (k + 1))))), (p, zo 5 [.int (nI kd), .ref po, .ref pn, .int (nI len)]), (po, zi E 64 op), (pn, zi E 64 nn)] (by decide) rfl ?_
          refine z_put 85 C0 0 4 [(m, zo 3 [.ref ma, .ref ml, .ref ms, .int (nI (h - 1)), .int (popV h st), .ref mp, .int (nI (P.length)), .ref mt]), (ma, zi E 3 ar1), (ml, zi E 4 lo), (ms, zi E 8 st), (mp, zo 4 [.ref mpk, .ref mpv, .int (nI (rwN 600 n P))]), (mpk, zi E 600 (rwK 600 n f P)), (mpv, zi E 600 (rwV 600 n g P)), (mt, zi E 4 (zn (va_up stp kd ((stp kd) + (k + 1))))), (p, zo 5 [.int (nI kd), .ref po, .ref pn, .int (nI len)]), (po, zi E 64 op), (pn, zi E 64 nn)] wz_3 rfl (by decide) (zTs_in wk_123) tyX3 tyX3_ok nmX3 rfl rfl rfl rfl dX3_call_82 rfl rfl (Nat.le_of_ble_eq_true rfl) rfl ?_
          refine z_iload 87 C0 4 dX3_call_85 rfl rfl ?_
          refine z_bipush 89 C0 (v := (nI 17)) dX3_call_87 rfl rfl ?_
          refine z_icmp_neN 92 96 C0 (by decide) (by decide) dX3_call_89 rfl (by decide) (fun k89 => ?_) (fun k89 => absurd k89 (by omega))
          refine z_iconst 97 C0 (v := (nI 2)) dX3_call_96 rfl rfl ?_
          have hres : (callR op nn a b d) = (2, popV h st, k + 1, P) := hM.symm.trans (mRun_18 hop)
          exact z_iret C0 rfl dX3_call_97 ⟨(h - 1), (popV h st), ar1, lo, st, ⟨(by rw [hres]), (by rw [hres]; rfl)⟩, (by omega), (fun _ => by rw [hres])⟩ (by decide) (by decide)
  refine z_loc [0, 1, 5, 6] [(0, .ref m), (1, .ref p), (5, .int (nI 0)), (6, .int (nI 1))] rfl ?_
  exact CUT14 (300 + 1 + 1) 0 300 0 0 (fun _ => 0) st ([] : List (Int32 × Int32)) rfl Rch.zero (by decide) (mRun_congr hG hlen (fun j hj => by rw [← har1]; exact argV_at a b d ar j hj) 300 0 0 0 _ _ _ _ [] Rch.zero (fun j hj => absurd hj (Nat.not_lt_zero j)) (fun _ _ => rfl)) (Nat.lt_succ_self _)
end
section
set_option maxHeartbeats 4000000 in
set_option maxRecDepth 100000 in
theorem placeOf (l_ : Launch) (E : zE) (t : Nat) (tk : Nat) (tv : Nat) (kf : Nat → Int32) (vf : Nat → Int32) (tn : Nat) (key : Int32) (hs : srt tn kf) (hn : tn ≤ 600) : zMi l_ E yX2_placeOf (zTs yX2_placeOf cX2_placeOf 4 (some .int)) ({ frames := 0, cells := 0, slots := 0, locals := 0 } : Room) [.ref t, .int key] [(t, zo 2 [.ref tk, .ref tv, .int (nI tn)]), (tk, zi E 600 kf), (tv, zi E 600 vf)] (fun r_ w_ => ∃ pl : Nat, (r_ = (nI pl) ∧ w_ = [(t, zo 2 [.ref tk, .ref tv, .int (nI tn)]), (tk, zi E 600 kf), (tv, zi E 600 vf)]) ∧ (plc tn kf key pl)) 0 0 := by
  refine zMi.of (cc := cX2_placeOf) (nL := 4) (ret := (some .int)) (by decide) rfl (Nat.le_of_ble_eq_true rfl) ?_
  intro p_ e_ s_ m_ args_ below_ meth_ c_ A_ C0 hin0
  have C0 : zC E p_ s_ m_ args_ meth_ c_ cX2_placeOf 4 (some .int) RX2 (zTs yX2_placeOf cX2_placeOf 4 (some .int)) A_ := C0
  refine z_eqL (L1 := [(0, .ref t), (1, .int key)]) rfl ?_
  refine z_iconst 1 C0 (v := (nI 0)) dX2_placeOf_0 rfl rfl ?_
  refine z_istore_n 2 C0 [1, 2, 0] [(0, .ref t), (1, .int key), (2, .int (nI 0))] dX2_placeOf_1 rfl rfl (by decide) rfl ?_
  refine z_sipush 5 C0 (v := (nI 512)) dX2_placeOf_2 rfl rfl ?_
  refine z_istore_n 6 C0 [1, 2, 3, 0] [(0, .ref t), (1, .int key), (2, .int (nI 0)), (3, .int (nI 512))] dX2_placeOf_5 rfl rfl (by decide) rfl ?_
  have CUT6 : ∀ (N6 : Nat) (pl : Nat) (sd : Nat), (sd = 0 ∨ sd = 1 ∨ sd = 2 ∨ sd = 4 ∨ sd = 8 ∨ sd = 16 ∨ sd = 32 ∨ sd = 64 ∨ sd = 128 ∨ sd = 256 ∨ sd = 512) → (pl ≤ tn) → (∀ i, i < pl → kf i < key) → (∀ i, pl + (2 * sd - 1) ≤ i → i < tn → ¬ kf i < key) → sd < N6 → Z E p_ l_ e_ ({ frames := 0, cells := 0, slots := 0, locals := 0 } : Room) s_ m_ args_ below_ meth_ c_ (MQ below_ (va_Qi (fun r_ w_ => ∃ pl : Nat, (r_ = (nI pl) ∧ w_ = [(t, zo 2 [.ref tk, .ref tv, .int (nI tn)]), (tk, zi E 600 kf), (tv, zi E 600 vf)]) ∧ (plc tn kf key pl)) (zPost E A_) A_) args_ s_ 0 0 A_) A_ 4 6 [(0, .ref t), (1, .int key), (2, .int (nI pl)), (3, .int (nI sd))] [] [(t, zo 2 [.ref tk, .ref tv, .int (nI tn)]), (tk, zi E 600 kf), (tv, zi E 600 vf)] 0 0 := by
    intro N6
    induction N6 with
    | zero => intro pl sd hsd hpl h1 h2 hm6; exact absurd hm6 (Nat.not_lt_zero _)
    | succ N6 ih6 =>
      intro pl sd hsd hpl h1 h2 hm6
      refine z_iload_n 7 C0 3 dX2_placeOf_6 rfl rfl rfl ?_
      refine z_if_leN 10 45 C0 (by omega) dX2_placeOf_7 rfl (by decide) (fun k7 => ?_) (fun k7 => ?_)
      · skip
        refine z_iload_n 46 C0 2 dX2_placeOf_45 rfl rfl rfl ?_
        exact z_iret C0 rfl dX2_placeOf_46 ⟨pl, ⟨rfl, rfl⟩, (⟨hpl, h1, fun i hi hi2 => h2 i (by omega) hi2⟩)⟩ (by decide) (by decide)
      · skip
        refine z_iload_n 11 C0 2 dX2_placeOf_10 rfl rfl rfl ?_
        refine z_iload_n 12 C0 3 dX2_placeOf_11 rfl rfl rfl ?_
        refine z_iadd 13 C0 (v := (nI (pl + sd))) dX2_placeOf_12 rfl (nI_add _ _) ?_
        refine z_aload_n 14 C0 0 dX2_placeOf_13 rfl rfl rfl ?_
        refine z_get 17 C0 0 2 wz_2 rfl (by decide) (zTs_in wk_162) dX2_placeOf_14 rfl rfl rfl ?_
        refine z_icmp_gtN 20 38 C0 (by omega) (by omega) dX2_placeOf_17 rfl (by decide) (fun k17 => ?_) (fun k17 => ?_)
        · skip
          first | (have h2n : ∀ i, pl + (2 * (sd / 2) - 1) ≤ i → i < tn → ¬ kf i < key := fun i hi hi2 => by omega) | (have h2n : ∀ i, pl + (2 * (sd / 2) - 1) ≤ i → i < tn → ¬ kf i < key := fun i hi hi2 => by rcases Nat.lt_or_ge (pl + sd - 1) i with q | q; exact fun z => k31 |> fun w => i32_nlt_of_le w (i32_lt_trans (hs _ i q hi2) z); rw [show i = pl + sd - 1 by omega]; exact i32_nlt_of_le k31) | skip
          refine z_iload_n 39 C0 3 dX2_placeOf_38 rfl rfl rfl ?_
          refine z_iconst 40 C0 (v := (nI 2)) dX2_placeOf_39 rfl rfl ?_
          refine z_idiv 41 C0 (v := (nI (sd / 2))) dX2_placeOf_40 rfl (nI_ne0 (by omega) (by omega)) (pk_div (by omega) (by omega) (by omega)) ?_
          refine z_istore_n 42 C0 [1, 2, 3, 0] [(0, .ref t), (1, .int key), (2, .int (nI pl)), (3, .int (nI (sd / 2)))] dX2_placeOf_41 rfl rfl (by decide) rfl ?_
          refine z_goto 6 C0 dX2_placeOf_42 (by decide) ?_
          exact ih6 pl (sd / 2) (by omega) (by omega) h1 h2n (by omega)
        · skip
          skip
          refine z_aload_n 21 C0 0 dX2_placeOf_20 rfl rfl rfl ?_
          refine z_get 24 C0 0 0 wz_2 rfl (by decide) (zTs_in wk_154) dX2_placeOf_21 rfl rfl rfl ?_
          refine z_iload_n 25 C0 2 dX2_placeOf_24 rfl rfl rfl ?_
          refine z_iload_n 26 C0 3 dX2_placeOf_25 rfl rfl rfl ?_
          refine z_iadd 27 C0 (v := (nI (pl + sd))) dX2_placeOf_26 rfl (nI_add _ _) ?_
          refine z_iconst 28 C0 (v := (nI 1)) dX2_placeOf_27 rfl rfl ?_
          refine z_isub 29 C0 (v := (nI ((pl + sd) - 1))) dX2_placeOf_28 rfl (z_subN (by omega)) ?_
          refine z_ialdN 30 C0 1 (v := (kf ((pl + sd) - 1))) dX2_placeOf_29 rfl rfl (by omega) (by decide) rfl ?_
          refine z_iload_n 31 C0 1 dX2_placeOf_30 rfl rfl rfl ?_
          refine z_icmp_ge 34 38 C0 dX2_placeOf_31 rfl (by decide) (fun k31 => ?_) (fun k31 => ?_)
          · skip
            first | (have h2n : ∀ i, pl + (2 * (sd / 2) - 1) ≤ i → i < tn → ¬ kf i < key := fun i hi hi2 => by omega) | (have h2n : ∀ i, pl + (2 * (sd / 2) - 1) ≤ i → i < tn → ¬ kf i < key := fun i hi hi2 => by rcases Nat.lt_or_ge (pl + sd - 1) i with q | q; exact fun z => k31 |> fun w => i32_nlt_of_le w (i32_lt_trans (hs _ i q hi2) z); rw [show i = pl + sd - 1 by omega]; exact i32_nlt_of_le k31) | skip
            refine z_iload_n 39 C0 3 dX2_placeOf_38 rfl rfl rfl ?_
            refine z_iconst 40 C0 (v := (nI 2)) dX2_placeOf_39 rfl rfl ?_
            refine z_idiv 41 C0 (v := (nI (sd / 2))) dX2_placeOf_40 rfl (nI_ne0 (by omega) (by omega)) (pk_div (by omega) (by omega) (by omega)) ?_
            refine z_istore_n 42 C0 [1, 2, 3, 0] [(0, .ref t), (1, .int key), (2, .int (nI pl)), (3, .int (nI (sd / 2)))] dX2_placeOf_41 rfl rfl (by decide) rfl ?_
            refine z_goto 6 C0 dX2_placeOf_42 (by decide) ?_
            exact ih6 pl (sd / 2) (by omega) (by omega) h1 h2n (by omega)
          · skip
            refine z_iload_n 35 C0 2 dX2_placeOf_34 rfl rfl rfl ?_
            refine z_iload_n 36 C0 3 dX2_placeOf_35 rfl rfl rfl ?_
            refine z_iadd 37 C0 (v := (nI (pl + sd))) dX2_placeOf_36 rfl (nI_add _ _) ?_
            refine z_istore_n 38 C0 [1, 2, 0, 3] [(0, .ref t), (1, .int key), (2, .int (nI (pl + sd))), (3, .int (nI sd))] dX2_placeOf_37 rfl rfl (by decide) rfl ?_
            first | (have h2n : ∀ i, pl + (2 * (sd / 2) - 1) ≤ i → i < tn → ¬ kf i < key := fun i hi hi2 => by omega) | (have h2n : ∀ i, pl + (2 * (sd / 2) - 1) ≤ i → i < tn → ¬ kf i < key := fun i hi hi2 => by rcases Nat.lt_or_ge (pl + sd - 1) i with q | q; exact fun z => k31 |> fun w => i32_nlt_of_le w (i32_lt_trans (hs _ i q hi2) z); rw [show i = pl + sd - 1 by omega]; exact i32_nlt_of_le k31) | skip
            refine z_iload_n 39 C0 3 dX2_placeOf_38 rfl rfl rfl ?_
            refine z_iconst 40 C0 (v := (nI 2)) dX2_placeOf_39 rfl rfl ?_
            refine z_idiv 41 C0 (v := (nI (sd / 2))) dX2_placeOf_40 rfl (nI_ne0 (by omega) (by omega)) (pk_div (by omega) (by omega) (by omega)) ?_
            refine z_istore_n 42 C0 [1, 2, 3, 0] [(0, .ref t), (1, .int key), (2, .int (nI (pl + sd))), (3, .int (nI (sd / 2)))] dX2_placeOf_41 rfl rfl (by decide) rfl ?_
            refine z_goto 6 C0 dX2_placeOf_42 (by decide) ?_
            exact ih6 (pl + sd) (sd / 2) (by omega) (by omega) (fun i hi => by rcases Nat.lt_or_ge i (pl + sd - 1) with q | q; exact i32_lt_trans (hs i (pl + sd - 1) q (by omega)) (i32_lt_of_nle k31); rw [show i = pl + sd - 1 by omega]; exact i32_lt_of_nle k31) (fun i hi hi2 => h2 i (by omega) hi2) (by omega)
  exact CUT6 (512 + 1) 0 512 (by omega) (by omega) (fun i hi => absurd hi (Nat.not_lt_zero i)) (fun i hi hi2 => by omega) (Nat.lt_succ_self _)

set_option maxHeartbeats 4000000 in
set_option maxRecDepth 100000 in
theorem holds (l_ : Launch) (E : zE) (t : Nat) (tk : Nat) (tv : Nat) (kf : Nat → Int32) (vf : Nat → Int32) (tn : Nat) (j : Nat) (key : Int32) (hj : j ≤ 600) (hn : tn ≤ 600) : zMi l_ E yX2_holds (zTs yX2_holds cX2_holds 3 (some .boolean)) ({ frames := 0, cells := 0, slots := 0, locals := 0 } : Room) [.ref t, .int (nI j), .int key] [(t, zo 2 [.ref tk, .ref tv, .int (nI tn)]), (tk, zi E 600 kf), (tv, zi E 600 vf)] (fun r_ w_ => (r_ = (zb (j < tn ∧ kf j = key)) ∧ w_ = [(t, zo 2 [.ref tk, .ref tv, .int (nI tn)]), (tk, zi E 600 kf), (tv, zi E 600 vf)])) 0 0 := by
  refine zMi.of (cc := cX2_holds) (nL := 3) (ret := (some .boolean)) (by decide) rfl (Nat.le_of_ble_eq_true rfl) ?_
  intro p_ e_ s_ m_ args_ below_ meth_ c_ A_ C0 hin0
  have C0 : zC E p_ s_ m_ args_ meth_ c_ cX2_holds 3 (some .boolean) RX2 (zTs yX2_holds cX2_holds 3 (some .boolean)) A_ := C0
  refine z_eqL (L1 := [(0, .ref t), (1, .int (nI j)), (2, .int key)]) rfl ?_
  refine z_iload_n 1 C0 1 dX2_holds_0 rfl rfl rfl ?_
  refine z_aload_n 2 C0 0 dX2_holds_1 rfl rfl rfl ?_
  refine z_get 5 C0 0 2 wz_2 rfl (by decide) (zTs_in wk_162) dX2_holds_2 rfl rfl rfl ?_
  refine z_icmp_geN 8 22 C0 (by omega) (by omega) dX2_holds_5 rfl (by decide) (fun k5 => ?_) (fun k5 => ?_)
  · skip
    refine z_iconst 23 C0 (v := (nI 0)) dX2_holds_22 rfl rfl ?_
    exact z_zret C0 rfl rfl dX2_holds_23 ⟨(zb_fN (fun q => by first | exact absurd q.1 (by omega) | exact k15 q.2)), rfl⟩ (by decide) (by decide)
  · skip
    refine z_aload_n 9 C0 0 dX2_holds_8 rfl rfl rfl ?_
    refine z_get 12 C0 0 0 wz_2 rfl (by decide) (zTs_in wk_154) dX2_holds_9 rfl rfl rfl ?_
    refine z_iload_n 13 C0 1 dX2_holds_12 rfl rfl rfl ?_
    refine z_ialdN 14 C0 1 (v := (kf j)) dX2_holds_13 rfl rfl (by omega) (by decide) rfl ?_
    refine z_iload_n 15 C0 2 dX2_holds_14 rfl rfl rfl ?_
    refine z_icmp_ne 18 22 C0 dX2_holds_15 rfl (by decide) (fun k15 => ?_) (fun k15 => ?_)
    · skip
      refine z_iconst 23 C0 (v := (nI 0)) dX2_holds_22 rfl rfl ?_
      exact z_zret C0 rfl rfl dX2_holds_23 ⟨(zb_fN (fun q => by first | exact absurd q.1 (by omega) | exact k15 q.2)), rfl⟩ (by decide) (by decide)
    · skip
      refine z_iconst 19 C0 (v := (nI 1)) dX2_holds_18 rfl rfl ?_
      refine z_goto 23 C0 dX2_holds_19 (by decide) ?_
      exact z_zret C0 rfl rfl dX2_holds_23 ⟨(zb_tN ⟨k5, k15⟩), rfl⟩ (by decide) (by decide)

set_option maxHeartbeats 4000000 in
set_option maxRecDepth 100000 in
theorem insert (l_ : Launch) (E : zE) (t : Nat) (tk : Nat) (tv : Nat) (kf : Nat → Int32) (vf : Nat → Int32) (tn : Nat) (j : Nat) (key : Int32) (v : Int32) (hj : j ≤ tn) (hn : tn < 600) : zMv l_ E yX2_insert (zTs yX2_insert cX2_insert 4 none) ({ frames := 1, cells := 0, slots := 0, locals := 60 } : Room) [.ref t, .int (nI j), .int key, .int v] [(t, zo 2 [.ref tk, .ref tv, .int (nI tn)]), (tk, zi E 600 kf), (tv, zi E 600 vf)] (fun w_ => (w_ = [(t, zo 2 [.ref tk, .ref tv, .int (nI (tn + 1))]), (tk, zi E 600 (insA kf j tn key)), (tv, zi E 600 (insA vf j tn v))])) 0 0 := by
  refine zMv.of (cc := cX2_insert) (nL := 4) (ret := none) (by decide) rfl (Nat.le_of_ble_eq_true rfl) ?_
  intro p_ e_ s_ m_ args_ below_ meth_ c_ A_ C0 hin0
  have C0 : zC E p_ s_ m_ args_ meth_ c_ cX2_insert 4 none RX2 (zTs yX2_insert cX2_insert 4 none) A_ := C0
  refine z_eqL (L1 := [(0, .ref t), (1, .int (nI j)), (2, .int key), (3, .int v)]) rfl ?_
  refine z_iload_n 1 C0 1 dX2_insert_0 rfl rfl rfl ?_
  refine z_aload_n 2 C0 0 dX2_insert_1 rfl rfl rfl ?_
  refine z_get 5 C0 0 2 wz_2 rfl (by decide) (zTs_in wk_162) dX2_insert_2 rfl rfl rfl ?_
  refine z_icmp_gtN 8 18 C0 (by omega) (by omega) dX2_insert_5 rfl (by decide) (fun k5 => absurd k5 (by omega)) (fun k5 => ?_)
  refine z_aload_n 9 C0 0 dX2_insert_8 rfl rfl rfl ?_
  refine z_get 12 C0 0 2 wz_2 rfl (by decide) (zTs_in wk_162) dX2_insert_9 rfl rfl rfl ?_
  refine z_sipush 15 C0 (v := (nI 600)) dX2_insert_12 rfl rfl ?_
  refine z_icmp_ltN 18 19 C0 (by omega) (by decide) dX2_insert_15 rfl (by decide) (fun k15 => ?_) (fun k15 => absurd k15 (by omega))
  refine z_aload_n 20 C0 0 dX2_insert_19 rfl rfl rfl ?_
  refine z_get 23 C0 0 0 wz_2 rfl (by decide) (zTs_in wk_154) dX2_insert_20 rfl rfl rfl ?_
  refine z_iload_n 24 C0 1 dX2_insert_23 rfl rfl rfl ?_
  refine z_aload_n 25 C0 0 dX2_insert_24 rfl rfl rfl ?_
  refine z_get 28 C0 0 0 wz_2 rfl (by decide) (zTs_in wk_154) dX2_insert_25 rfl rfl rfl ?_
  refine z_iload_n 29 C0 1 dX2_insert_28 rfl rfl rfl ?_
  refine z_iconst 30 C0 (v := (nI 1)) dX2_insert_29 rfl rfl ?_
  refine z_iadd 31 C0 (v := (nI (j + 1))) dX2_insert_30 rfl (nI_add _ _) ?_
  refine z_aload_n 32 C0 0 dX2_insert_31 rfl rfl rfl ?_
  refine z_get 35 C0 0 2 wz_2 rfl (by decide) (zTs_in wk_162) dX2_insert_32 rfl rfl rfl ?_
  refine z_iload_n 36 C0 1 dX2_insert_35 rfl rfl rfl ?_
  refine z_isub 37 C0 (v := (nI (tn - j))) dX2_insert_36 rfl (z_subN (by omega)) ?_
  refine z_copy 40 C0 1 1 [(t, zo 2 [.ref tk, .ref tv, .int (nI tn)]), (tk, zi E 600 (va_cpy kf kf j (j + 1) (tn - j))), (tv, zi E 600 vf)] (zTs_in wk_405) (zTs_in wk_407) (zTs_in wk_406) (zTs_in wk_23) rfl rfl (by omega) (by omega) (by decide) (by decide) (by decide) (Nat.le_of_ble_eq_true rfl) (by decide) dX2_insert_37 rfl rfl ?_
  refine z_aload_n 41 C0 0 dX2_insert_40 rfl rfl rfl ?_
  refine z_get 44 C0 0 1 wz_2 rfl (by decide) (zTs_in wk_158) dX2_insert_41 rfl rfl rfl ?_
  refine z_iload_n 45 C0 1 dX2_insert_44 rfl rfl rfl ?_
  refine z_aload_n 46 C0 0 dX2_insert_45 rfl rfl rfl ?_
  refine z_get 49 C0 0 1 wz_2 rfl (by decide) (zTs_in wk_158) dX2_insert_46 rfl rfl rfl ?_
  refine z_iload_n 50 C0 1 dX2_insert_49 rfl rfl rfl ?_
  refine z_iconst 51 C0 (v := (nI 1)) dX2_insert_50 rfl rfl ?_
  refine z_iadd 52 C0 (v := (nI (j + 1))) dX2_insert_51 rfl (nI_add _ _) ?_
  refine z_aload_n 53 C0 0 dX2_insert_52 rfl rfl rfl ?_
  refine z_get 56 C0 0 2 wz_2 rfl (by decide) (zTs_in wk_162) dX2_insert_53 rfl rfl rfl ?_
  refine z_iload_n 57 C0 1 dX2_insert_56 rfl rfl rfl ?_
  refine z_isub 58 C0 (v := (nI (tn - j))) dX2_insert_57 rfl (z_subN (by omega)) ?_
  refine z_copy 61 C0 2 2 [(t, zo 2 [.ref tk, .ref tv, .int (nI tn)]), (tk, zi E 600 (va_cpy kf kf j (j + 1) (tn - j))), (tv, zi E 600 (va_cpy vf vf j (j + 1) (tn - j)))] (zTs_in wk_405) (zTs_in wk_407) (zTs_in wk_406) (zTs_in wk_23) rfl rfl (by omega) (by omega) (by decide) (by decide) (by decide) (Nat.le_of_ble_eq_true rfl) (by decide) dX2_insert_58 rfl rfl ?_
  refine z_aload_n 62 C0 0 dX2_insert_61 rfl rfl rfl ?_
  refine z_get 65 C0 0 0 wz_2 rfl (by decide) (zTs_in wk_154) dX2_insert_62 rfl rfl rfl ?_
  refine z_iload_n 66 C0 1 dX2_insert_65 rfl rfl rfl ?_
  refine z_iload_n 67 C0 2 dX2_insert_66 rfl rfl rfl ?_
  refine z_iastN 68 C0 1 [(t, zo 2 [.ref tk, .ref tv, .int (nI tn)]), (tk, zi E 600 (upd (va_cpy kf kf j (j + 1) (tn - j)) j key)), (tv, zi E 600 (va_cpy vf vf j (j + 1) (tn - j)))] dX2_insert_67 rfl rfl (by omega) (by decide) rfl ?_
  refine z_aload_n 69 C0 0 dX2_insert_68 rfl rfl rfl ?_
  refine z_get 72 C0 0 1 wz_2 rfl (by decide) (zTs_in wk_158) dX2_insert_69 rfl rfl rfl ?_
  refine z_iload_n 73 C0 1 dX2_insert_72 rfl rfl rfl ?_
  refine z_iload_n 74 C0 3 dX2_insert_73 rfl rfl rfl ?_
  refine z_iastN 75 C0 2 [(t, zo 2 [.ref tk, .ref tv, .int (nI tn)]), (tk, zi E 600 (upd (va_cpy kf kf j (j + 1) (tn - j)) j key)), (tv, zi E 600 (upd (va_cpy vf vf j (j + 1) (tn - j)) j v))] dX2_insert_74 rfl rfl (by omega) (by decide) rfl ?_
  refine z_aload_n 76 C0 0 dX2_insert_75 rfl rfl rfl ?_
  refine z_dup 77 C0 dX2_insert_76 rfl rfl ?_
  refine z_get 80 C0 0 2 wz_2 rfl (by decide) (zTs_in wk_162) dX2_insert_77 rfl rfl rfl ?_
  refine z_iconst 81 C0 (v := (nI 1)) dX2_insert_80 rfl rfl ?_
  refine z_iadd 82 C0 (v := (nI (tn + 1))) dX2_insert_81 rfl (nI_add _ _) ?_
  refine z_put 85 C0 0 2 [(t, zo 2 [.ref tk, .ref tv, .int (nI (tn + 1))]), (tk, zi E 600 (upd (va_cpy kf kf j (j + 1) (tn - j)) j key)), (tv, zi E 600 (upd (va_cpy vf vf j (j + 1) (tn - j)) j v))] wz_2 rfl (by decide) (zTs_in wk_162) tyX2 tyX2_ok nmX2 rfl rfl rfl rfl dX2_insert_82 rfl rfl (Nat.le_of_ble_eq_true rfl) rfl ?_
  exact z_vret C0 rfl dX2_insert_85 rfl (by decide) (by decide)
end
section
theorem z_up_self (f : Nat → Nat) (k : Nat) : va_up f k (f k + 0) = f := by
  funext j
  show (if j = k then f k + 0 else f j) = f j
  by_cases h : j = k
  · rw [if_pos h, h]; rfl
  · rw [if_neg h]
theorem z_up_add (f : Nat → Nat) (k a b : Nat) : va_up (va_up f k (f k + a)) k (va_up f k (f k + a) k + b) = va_up f k (f k + (a + b)) := by
  funext j
  show (if j = k then (if k = k then f k + a else f k) + b else (if j = k then f k + a else f j)) = (if j = k then f k + (a + b) else f j)
  by_cases h : j = k
  · rw [if_pos h, if_pos h, if_pos rfl]; omega
  · rw [if_neg h, if_neg h, if_neg h]
set_option maxHeartbeats 4000000 in
set_option maxRecDepth 100000 in
theorem merge_a (l_ : Launch) (E : zE) (jb : Nat) (jse : Nat) (jst : Nat) (jjo : Nat) (jre : Nat) (jco : Nat) (m : Nat) (ma : Nat) (ml : Nat) (ms : Nat) (mp : Nat) (mt : Nat) (h : Nat) (an : Int32) (em : Nat) (ar : Nat → Int32) (lo : Nat → Int32) (st : Nat → Int32) (mpk : Nat) (mpv : Nat) (f : Nat → Int32) (g : Nat → Int32) (n : Nat) (stp : Nat → Nat) (p : Nat) (po : Nat) (pn : Nat) (kd : Nat) (op : Nat → Int32) (nn : Nat → Int32) (len : Nat) (t : Nat) (tk : Nat) (tv : Nat) (kf : Nat → Int32) (vf : Nat → Int32) (start : Nat) (en : Nat) (hG : Good kd op nn len) (hkd : kd = 1 ∨ kd = 2) (hlen : len ≤ 64) (hn : n ≤ 600) (hse : start ≤ en) (hen : en ≤ 600) : zMi l_ E yX1_merge (zTs yX1_merge cX1_merge 10 (some .boolean)) ({ frames := 4, cells := 0, slots := 0, locals := 97 } : Room) [.ref jb, .ref p, .ref t, .ref mp, .int (nI start), .int (nI en)] [(jb, zo 1 [.ref m, .ref jse, .ref jst, .ref jjo, .ref jre, .ref jco]), (m, zo 3 [.ref ma, .ref ml, .ref ms, .int (nI h), .int an, .ref mp, .int (nI em), .ref mt]), (ma, zi E 3 ar), (ml, zi E 4 lo), (ms, zi E 8 st), (mp, zo 4 [.ref mpk, .ref mpv, .int (nI n)]), (mpk, zi E 600 f), (mpv, zi E 600 g), (mt, zi E 4 (zn stp)), (p, zo 5 [.int (nI kd), .ref po, .ref pn, .int (nI len)]), (po, zi E 64 op), (pn, zi E 64 nn), (t, zo 2 [.ref tk, .ref tv, .int (nI 0)]), (tk, zi E 600 kf), (tv, zi E 600 vf)] (fun r_ w_ => ∃ h2 : Nat, ∃ an2 : Int32, ∃ em2 : Nat, ∃ ar2 : Nat → Int32, ∃ lo2 : Nat → Int32, ∃ st2 : Nat → Int32, ∃ stp2 : Nat → Nat, ∃ n2 : Nat, ∃ kf2 : Nat → Int32, ∃ vf2 : Nat → Int32, (r_ = (zb ((mgL (pF op nn) (tab f g start (en - start)) (fun _ => none, 0)) ≠ none)) ∧ w_ = [(jb, zo 1 [.ref m, .ref jse, .ref jst, .ref jjo, .ref jre, .ref jco]), (m, zo 3 [.ref ma, .ref ml, .ref ms, .int (nI h2), .int an2, .ref mp, .int (nI em2), .ref mt]), (ma, zi E 3 ar2), (ml, zi E 4 lo2), (ms, zi E 8 st2), (mp, zo 4 [.ref mpk, .ref mpv, .int (nI n)]), (mpk, zi E 600 f), (mpv, zi E 600 g), (mt, zi E 4 (zn stp2)), (p, zo 5 [.int (nI kd), .ref po, .ref pn, .int (nI len)]), (po, zi E 64 op), (pn, zi E 64 nn), (t, zo 2 [.ref tk, .ref tv, .int (nI n2)]), (tk, zi E 600 kf2), (tv, zi E 600 vf2)]) ∧ (n2 ≤ en - start) ∧ (∀ M s, (mgL (pF op nn) (tab f g start (en - start)) (fun _ => none, 0)) = some (M, s) → tbl n2 kf2 vf2 M ∧ stp2 = va_up stp kd (stp kd + s))) 0 0 := by
  refine zMi.of (cc := cX1_merge) (nL := 10) (ret := (some .boolean)) (by decide) rfl (Nat.le_of_ble_eq_true rfl) ?_
  intro p_ e_ s_ m_ args_ below_ meth_ c_ A_ C0 hin0
  have C0 : zC E p_ s_ m_ args_ meth_ c_ cX1_merge 10 (some .boolean) RX1 (zTs yX1_merge cX1_merge 10 (some .boolean)) A_ := C0
  refine z_eqL (L1 := [(0, .ref jb), (1, .ref p), (2, .ref t), (3, .ref mp), (4, .int (nI start)), (5, .int (nI en))]) rfl ?_
  refine z_iload 2 C0 4 dX1_merge_0 rfl rfl ?_
  refine z_istore 4 C0 [1, 2, 3, 4, 5, 6, 0] [(0, .ref jb), (1, .ref p), (2, .ref t), (3, .ref mp), (4, .int (nI start)), (5, .int (nI en)), (6, .int (nI start))] dX1_merge_2 rfl (by decide) rfl ?_
  have CUT4 : ∀ (N4 : Nat) (i : Nat) (tn : Nat) (kf : Nat → Int32) (vf : Nat → Int32) (M : mapT) (s : Nat) (h : Nat) (an : Int32) (em : Nat) (ar : Nat → Int32) (lo : Nat → Int32) (st : Nat → Int32) (sp : Nat → Nat), (start ≤ i) → (i ≤ en) → (tn ≤ i - start) → (tbl tn kf vf M) → (sp = va_up stp kd (stp kd + s)) → (mgL (pF op nn) (tab f g i (en - i)) (M, s) = (mgL (pF op nn) (tab f g start (en - start)) (fun _ => none, 0))) → en - i < N4 → Z E p_ l_ e_ ({ frames := 4, cells := 0, slots := 0, locals := 97 } : Room) s_ m_ args_ below_ meth_ c_ (MQ below_ (va_Qi (fun r_ w_ => ∃ h2 : Nat, ∃ an2 : Int32, ∃ em2 : Nat, ∃ ar2 : Nat → Int32, ∃ lo2 : Nat → Int32, ∃ st2 : Nat → Int32, ∃ stp2 : Nat → Nat, ∃ n2 : Nat, ∃ kf2 : Nat → Int32, ∃ vf2 : Nat → Int32, (r_ = (zb ((mgL (pF op nn) (tab f g start (en - start)) (fun _ => none, 0)) ≠ none)) ∧ w_ = [(jb, zo 1 [.ref m, .ref jse, .ref jst, .ref jjo, .ref jre, .ref jco]), (m, zo 3 [.ref ma, .ref ml, .ref ms, .int (nI h2), .int an2, .ref mp, .int (nI em2), .ref mt]), (ma, zi E 3 ar2), (ml, zi E 4 lo2), (ms, zi E 8 st2), (mp, zo 4 [.ref mpk, .ref mpv, .int (nI n)]), (mpk, zi E 600 f), (mpv, zi E 600 g), (mt, zi E 4 (zn stp2)), (p, zo 5 [.int (nI kd), .ref po, .ref pn, .int (nI len)]), (po, zi E 64 op), (pn, zi E 64 nn), (t, zo 2 [.ref tk, .ref tv, .int (nI n2)]), (tk, zi E 600 kf2), (tv, zi E 600 vf2)]) ∧ (n2 ≤ en - start) ∧ (∀ M s, (mgL (pF op nn) (tab f g start (en - start)) (fun _ => none, 0)) = some (M, s) → tbl n2 kf2 vf2 M ∧ stp2 = va_up stp kd (stp kd + s))) (zPost E A_) A_) args_ s_ 0 0 A_) A_ 10 4 [(0, .ref jb), (1, .ref p), (2, .ref t), (3, .ref mp), (4, .int (nI start)), (5, .int (nI en)), (6, .int (nI i))] [] [(jb, zo 1 [.ref m, .ref jse, .ref jst, .ref jjo, .ref jre, .ref jco]), (m, zo 3 [.ref ma, .ref ml, .ref ms, .int (nI h), .int an, .ref mp, .int (nI em), .ref mt]), (ma, zi E 3 ar), (ml, zi E 4 lo), (ms, zi E 8 st), (mp, zo 4 [.ref mpk, .ref mpv, .int (nI n)]), (mpk, zi E 600 f), (mpv, zi E 600 g), (mt, zi E 4 (zn sp)), (p, zo 5 [.int (nI kd), .ref po, .ref pn, .int (nI len)]), (po, zi E 64 op), (pn, zi E 64 nn), (t, zo 2 [.ref tk, .ref tv, .int (nI tn)]), (tk, zi E 600 kf), (tv, zi E 600 vf)] 0 0 := by
    intro N4
    induction N4 with
    | zero => intro i tn kf vf M s h an em ar lo st sp hi hi2 htn htb hsp hM hm4; exact absurd hm4 (Nat.not_lt_zero _)
    | succ N4 ih4 =>
      intro i tn kf vf M s h an em ar lo st sp hi hi2 htn htb hsp hM hm4
      refine z_iload 6 C0 6 dX1_merge_4 rfl rfl ?_
      refine z_iload 8 C0 5 dX1_merge_6 rfl rfl ?_
      refine z_icmp_geN 11 110 C0 (by omega) (by omega) dX1_merge_8 rfl (by decide) (fun k8 => ?_) (fun k8 => ?_)
      · skip
        refine z_iconst 111 C0 (v := (nI 1)) dX1_merge_110 rfl rfl ?_
        have hsome : (mgL (pF op nn) (tab f g start (en - start)) (fun _ => none, 0)) = some (M, s) := by rw [← hM, show en - i = 0 by omega]; rfl
        exact z_zret C0 rfl rfl dX1_merge_111 ⟨h, an, em, ar, lo, st, sp, tn, kf, vf, ⟨(zb_tN (fun q => by rw [hsome] at q; cases q)), rfl⟩, (by omega), (fun M2 s2 q => by rw [hsome] at q; cases q; exact ⟨htb, hsp⟩)⟩ (by decide) (by decide)
      · skip
        have hM2 := hM
        rw [show en - i = (en - (i + 1)) + 1 by omega, tab_s] at hM2
        refine z_aload_n 12 C0 3 dX1_merge_11 rfl rfl rfl ?_
        refine z_get 15 C0 5 0 wz_4 rfl (by decide) (zTs_in wk_45) dX1_merge_12 rfl rfl rfl ?_
        refine z_iload 17 C0 6 dX1_merge_15 rfl rfl ?_
        refine z_ialdN 18 C0 6 (v := (f i)) dX1_merge_17 rfl rfl (by omega) (by decide) rfl ?_
        refine z_istore 20 C0 [1, 2, 3, 4, 5, 6, 7, 0] [(0, .ref jb), (1, .ref p), (2, .ref t), (3, .ref mp), (4, .int (nI start)), (5, .int (nI en)), (6, .int (nI i)), (7, .int (f i))] dX1_merge_18 rfl (by decide) rfl ?_
        refine z_aload_n 21 C0 2 dX1_merge_20 rfl rfl rfl ?_
        refine z_iload 23 C0 7 dX1_merge_21 rfl rfl ?_
        refine z_callVi 26 C0 [12, 13, 14] [0, 1, 2, 3, 4, 5, 6, 7, 8, 9, 10, 11] [(jb, zo 1 [.ref m, .ref jse, .ref jst, .ref jjo, .ref jre, .ref jco]), (m, zo 3 [.ref ma, .ref ml, .ref ms, .int (nI h), .int an, .ref mp, .int (nI em), .ref mt]), (ma, zi E 3 ar), (ml, zi E 4 lo), (ms, zi E 8 st), (mp, zo 4 [.ref mpk, .ref mpv, .int (nI n)]), (mpk, zi E 600 f), (mpv, zi E 600 g), (mt, zi E 4 (zn sp)), (p, zo 5 [.int (nI kd), .ref po, .ref pn, .int (nI len)]), (po, zi E 64 op), (pn, zi E 64 nn)] 0 0 (As := [.int (f i)]) (T := TX2) (N := 3) (C := RX2) (ci := 2) (n := 1) 0 (placeOf l_ E t tk tv kf vf tn (f i) (htb.1) (by omega)) (zGIV (fun _ => zTs_in) wk_396 wk_393 wk_394 wk_395 wk_19) rfl ⟨rfl, by decide, by decide, by decide +kernel⟩ rfl rfl rfl rfl (by decide) rfl rfl (Nat.le_of_ble_eq_true rfl) ⟨by decide, by decide⟩ rfl rfl ⟨by decide, by decide⟩ ⟨by decide, by decide⟩ dX1_merge_23 rfl (fun r23 w23 hB23 => ?_)
        obtain ⟨pl_23, ⟨rfl, rfl⟩, fp_23⟩ := hB23
        refine z_perm [0, 1, 2, 3, 4, 5, 6, 7, 8, 9, 10, 11, 12, 13, 14] [(jb, zo 1 [.ref m, .ref jse, .ref jst, .ref jjo, .ref jre, .ref jco]), (m, zo 3 [.ref ma, .ref ml, .ref ms, .int (nI h), .int an, .ref mp, .int (nI em), .ref mt]), (ma, zi E 3 ar), (ml, zi E 4 lo), (ms, zi E 8 st), (mp, zo 4 [.ref mpk, .ref mpv, .int (nI n)]), (mpk, zi E 600 f), (mpv, zi E 600 g), (mt, zi E 4 (zn sp)), (p, zo 5 [.int (nI kd), .ref po, .ref pn, .int (nI len)]), (po, zi E 64 op), (pn, zi E 64 nn), (t, zo 2 [.ref tk, .ref tv, .int (nI tn)]), (tk, zi E 600 kf), (tv, zi E 600 vf)] (by decide) rfl ?_
        refine z_istore 28 C0 [1, 2, 3, 4, 5, 6, 7, 8, 0] [(0, .ref jb), (1, .ref p), (2, .ref t), (3, .ref mp), (4, .int (nI start)), (5, .int (nI en)), (6, .int (nI i)), (7, .int (f i)), (8, .int (nI pl_23))] dX1_merge_26 rfl (by decide) rfl ?_
        refine z_aload_n 29 C0 2 dX1_merge_28 rfl rfl rfl ?_
        refine z_iload 31 C0 8 dX1_merge_29 rfl rfl ?_
        refine z_iload 33 C0 7 dX1_merge_31 rfl rfl ?_
        refine z_callVi 36 C0 [12, 13, 14] [0, 1, 2, 3, 4, 5, 6, 7, 8, 9, 10, 11] [(jb, zo 1 [.ref m, .ref jse, .ref jst, .ref jjo, .ref jre, .ref jco]), (m, zo 3 [.ref ma, .ref ml, .ref ms, .int (nI h), .int an, .ref mp, .int (nI em), .ref mt]), (ma, zi E 3 ar), (ml, zi E 4 lo), (ms, zi E 8 st), (mp, zo 4 [.ref mpk, .ref mpv, .int (nI n)]), (mpk, zi E 600 f), (mpv, zi E 600 g), (mt, zi E 4 (zn sp)), (p, zo 5 [.int (nI kd), .ref po, .ref pn, .int (nI len)]), (po, zi E 64 op), (pn, zi E 64 nn)] 0 0 (As := [.int (nI pl_23), .int (f i)]) (T := TX2) (N := 3) (C := RX2) (ci := 2) (n := 2) 0 (holds l_ E t tk tv kf vf tn pl_23 (f i) (by have := fp_23.1; omega) (by omega)) (zGIV (fun _ => zTs_in) wk_400 wk_397 wk_398 wk_399 wk_19) rfl ⟨rfl, by decide, by decide, by decide +kernel⟩ rfl rfl rfl rfl (by decide) rfl rfl (Nat.le_of_ble_eq_true rfl) ⟨by decide, by decide⟩ rfl rfl ⟨by decide, by decide⟩ ⟨by decide, by decide⟩ dX1_merge_33 rfl (fun r33 w33 hB33 => ?_)
        obtain ⟨rfl, rfl⟩ := hB33
        refine z_perm [0, 1, 2, 3, 4, 5, 6, 7, 8, 9, 10, 11, 12, 13, 14] [(jb, zo 1 [.ref m, .ref jse, .ref jst, .ref jjo, .ref jre, .ref jco]), (m, zo 3 [.ref ma, .ref ml, .ref ms, .int (nI h), .int an, .ref mp, .int (nI em), .ref mt]), (ma, zi E 3 ar), (ml, zi E 4 lo), (ms, zi E 8 st), (mp, zo 4 [.ref mpk, .ref mpv, .int (nI n)]), (mpk, zi E 600 f), (mpv, zi E 600 g), (mt, zi E 4 (zn sp)), (p, zo 5 [.int (nI kd), .ref po, .ref pn, .int (nI len)]), (po, zi E 64 op), (pn, zi E 64 nn), (t, zo 2 [.ref tk, .ref tv, .int (nI tn)]), (tk, zi E 600 kf), (tv, zi E 600 vf)] (by decide) rfl ?_
        refine z_if_neP 39 57 C0 dX1_merge_36 rfl (by decide) (fun k36 => ?_) (fun k36 => ?_)
        · skip
          have hyes : M (f i) = some (vf pl_23) := by rw [← k36.2]; exact htb.2.1 _ k36.1
          refine z_aload_n 58 C0 0 dX1_merge_57 rfl rfl rfl ?_
          refine z_get 61 C0 0 0 wz_1 rfl (by decide) (zTs_in wk_175) dX1_merge_58 rfl rfl rfl ?_
          refine z_aload_n 62 C0 1 dX1_merge_61 rfl rfl rfl ?_
          refine z_iload 64 C0 7 dX1_merge_62 rfl rfl ?_
          refine z_aload_n 65 C0 2 dX1_merge_64 rfl rfl rfl ?_
          refine z_get 68 C0 12 1 wz_2 rfl (by decide) (zTs_in wk_160) dX1_merge_65 rfl rfl rfl ?_
          refine z_iload 70 C0 8 dX1_merge_68 rfl rfl ?_
          refine z_ialdN 71 C0 14 (v := (vf pl_23)) dX1_merge_70 rfl rfl (by have := k36.1; omega) (by decide) rfl ?_
          refine z_aload_n 72 C0 3 dX1_merge_71 rfl rfl rfl ?_
          refine z_get 75 C0 5 1 wz_4 rfl (by decide) (zTs_in wk_47) dX1_merge_72 rfl rfl rfl ?_
          refine z_iload 77 C0 6 dX1_merge_75 rfl rfl ?_
          refine z_ialdN 78 C0 7 (v := (g i)) dX1_merge_77 rfl rfl (by omega) (by decide) rfl ?_
          refine z_callVi 81 C0 [1, 2, 3, 4, 5, 6, 7, 8, 9, 10, 11] [0, 12, 13, 14] [(jb, zo 1 [.ref m, .ref jse, .ref jst, .ref jjo, .ref jre, .ref jco]), (t, zo 2 [.ref tk, .ref tv, .int (nI tn)]), (tk, zi E 600 kf), (tv, zi E 600 vf)] 0 0 (As := [.ref p, .int (f i), .int (vf pl_23), .int (g i)]) (T := TX3) (N := 8) (C := RX3) (ci := 3) (n := 4) 0 (call l_ E m ma ml ms mp mt h an em ar lo st mpk mpv f g n sp p po pn kd op nn len (f i) (vf pl_23) (g i) (hG) (by omega) (by omega) (hn)) (zGIV (fun _ => zTs_in) wk_343 wk_340 wk_341 wk_342 wk_18) rfl ⟨rfl, by decide, by decide, by decide +kernel⟩ rfl rfl rfl rfl (by decide) rfl rfl (Nat.le_of_ble_eq_true rfl) ⟨by decide, by decide⟩ rfl rfl ⟨by decide, by decide⟩ ⟨by decide, by decide⟩ dX1_merge_78 rfl (fun r78 w78 hB78 => ?_)
          obtain ⟨h2_78, an2_78, ar2_78, lo2_78, st2_78, ⟨rfl, rfl⟩, fh_78, fa_78⟩ := hB78
          refine z_perm [0, 4, 5, 6, 7, 8, 9, 10, 11, 12, 13, 14, 1, 2, 3] [(jb, zo 1 [.ref m, .ref jse, .ref jst, .ref jjo, .ref jre, .ref jco]), (m, zo 3 [.ref ma, .ref ml, .ref ms, .int (nI h2_78), .int an2_78, .ref mp, .int (nI ((callR op nn (f i) (vf pl_23) (g i)).2.2.2.length)), .ref mt]), (ma, zi E 3 ar2_78), (ml, zi E 4 lo2_78), (ms, zi E 8 st2_78), (mp, zo 4 [.ref mpk, .ref mpv, .int (nI (rwN 600 n (callR op nn (f i) (vf pl_23) (g i)).2.2.2))]), (mpk, zi E 600 (rwK 600 n f (callR op nn (f i) (vf pl_23) (g i)).2.2.2)), (mpv, zi E 600 (rwV 600 n g (callR op nn (f i) (vf pl_23) (g i)).2.2.2)), (mt, zi E 4 (zn (stpU sp kd (callR op nn (f i) (vf pl_23) (g i))))), (p, zo 5 [.int (nI kd), .ref po, .ref pn, .int (nI len)]), (po, zi E 64 op), (pn, zi E 64 nn), (t, zo 2 [.ref tk, .ref tv, .int (nI tn)]), (tk, zi E 600 kf), (tv, zi E 600 vf)] (by decide) rfl ?_
          have hP0 : (callR op nn (f i) (vf pl_23) (g i)).2.2.2 = [] := callR_nil hG hlen (by omega) _ _ _
          refine z_eq (L1 := [(0, .ref jb), (1, .ref p), (2, .ref t), (3, .ref mp), (4, .int (nI start)), (5, .int (nI en)), (6, .int (nI i)), (7, .int (f i)), (8, .int (nI pl_23))]) (st1 := [.int (nI ((callR op nn (f i) (vf pl_23) (g i)).1))]) (w1 := [(jb, zo 1 [.ref m, .ref jse, .ref jst, .ref jjo, .ref jre, .ref jco]), (m, zo 3 [.ref ma, .ref ml, .ref ms, .int (nI h2_78), .int an2_78, .ref mp, .int (nI ((callR op nn (f i) (vf pl_23) (g i)).2.2.2.length)), .ref mt]), (ma, zi E 3 ar2_78), (ml, zi E 4 lo2_78), (ms, zi E 8 st2_78), (mp, zo 4 [.ref mpk, .ref mpv, .int (nI n)]), (mpk, zi E 600 f), (mpv, zi E 600 g), (mt, zi E 4 (zn (stpU sp kd (callR op nn (f i) (vf pl_23) (g i))))), (p, zo 5 [.int (nI kd), .ref po, .ref pn, .int (nI len)]), (po, zi E 64 op), (pn, zi E 64 nn), (t, zo 2 [.ref tk, .ref tv, .int (nI tn)]), (tk, zi E 600 kf), (tv, zi E 600 vf)]) rfl rfl (by rw [hP0, rwK_0, rwV_0, rwN_0 hn]) ?_
          refine z_istore 83 C0 [1, 2, 3, 4, 5, 6, 7, 8, 9, 0] [(0, .ref jb), (1, .ref p), (2, .ref t), (3, .ref mp), (4, .int (nI start)), (5, .int (nI en)), (6, .int (nI i)), (7, .int (f i)), (8, .int (nI pl_23)), (9, .int (nI ((callR op nn (f i) (vf pl_23) (g i)).1)))] dX1_merge_81 rfl (by decide) rfl ?_
          have hle := callR_le op nn (f i) (vf pl_23) (g i)
          refine z_iload 85 C0 9 dX1_merge_83 rfl rfl ?_
          refine z_if_neN 88 90 C0 (by omega) dX1_merge_85 rfl (by decide) (fun k85 => ?_) (fun k85 => ?_)
          · skip
            have hc0 := k85
            refine z_aload_n 91 C0 2 dX1_merge_90 rfl rfl rfl ?_
            refine z_get 94 C0 12 1 wz_2 rfl (by decide) (zTs_in wk_160) dX1_merge_91 rfl rfl rfl ?_
            refine z_iload 96 C0 8 dX1_merge_94 rfl rfl ?_
            refine z_aload_n 97 C0 0 dX1_merge_96 rfl rfl rfl ?_
            refine z_get 100 C0 0 0 wz_1 rfl (by decide) (zTs_in wk_175) dX1_merge_97 rfl rfl rfl ?_
            refine z_get 103 C0 1 4 wz_3 rfl (by decide) (zTs_in wk_124) dX1_merge_100 rfl rfl rfl ?_
            refine z_iastN 104 C0 14 [(jb, zo 1 [.ref m, .ref jse, .ref jst, .ref jjo, .ref jre, .ref jco]), (m, zo 3 [.ref ma, .ref ml, .ref ms, .int (nI h2_78), .int an2_78, .ref mp, .int (nI ((callR op nn (f i) (vf pl_23) (g i)).2.2.2.length)), .ref mt]), (ma, zi E 3 ar2_78), (ml, zi E 4 lo2_78), (ms, zi E 8 st2_78), (mp, zo 4 [.ref mpk, .ref mpv, .int (nI n)]), (mpk, zi E 600 f), (mpv, zi E 600 g), (mt, zi E 4 (zn (stpU sp kd (callR op nn (f i) (vf pl_23) (g i))))), (p, zo 5 [.int (nI kd), .ref po, .ref pn, .int (nI len)]), (po, zi E 64 op), (pn, zi E 64 nn), (t, zo 2 [.ref tk, .ref tv, .int (nI tn)]), (tk, zi E 600 kf), (tv, zi E 600 (upd vf pl_23 an2_78))] dX1_merge_103 rfl rfl (by have := k36.1; omega) (by decide) rfl ?_
            refine z_iinc 107 C0 6 [1, 2, 3, 4, 5, 6, 0, 7, 8, 9] [(0, .ref jb), (1, .ref p), (2, .ref t), (3, .ref mp), (4, .int (nI start)), (5, .int (nI en)), (6, .int (nI (i + 1))), (7, .int (f i)), (8, .int (nI pl_23)), (9, .int (nI ((callR op nn (f i) (vf pl_23) (g i)).1)))] (v := (nI (i + 1))) dX1_merge_104 rfl rfl (z_incN _ _) (by decide) rfl ?_
            refine z_goto 4 C0 dX1_merge_107 (by decide) ?_
            refine z_loc [0, 1, 2, 3, 4, 5, 6] [(0, .ref jb), (1, .ref p), (2, .ref t), (3, .ref mp), (4, .int (nI start)), (5, .int (nI en)), (6, .int (nI (i + 1)))] rfl ?_
            exact ih4 (i + 1) tn kf (upd vf pl_23 an2_78) (mset M (f i) (callR op nn (f i) (vf pl_23) (g i)).2.1) (s + (callR op nn (f i) (vf pl_23) (g i)).2.2.1) h2_78 an2_78 ((callR op nn (f i) (vf pl_23) (g i)).2.2.2.length) ar2_78 lo2_78 st2_78 (stpU sp kd (callR op nn (f i) (vf pl_23) (g i))) (by omega) (by omega) (by omega) (by have := tbl_upd (r := an2_78) htb k36.1; rw [k36.2] at this; rw [fa_78 hc0] at this ⊢; exact this) (by unfold stpU; rw [if_neg hc0, hsp]; exact z_up_add _ _ _ _) ((mgL_old hyes (pF_1 hc0)).symm.trans hM2) (by omega)
          · skip
            refine z_iconst 89 C0 (v := (nI 0)) dX1_merge_88 rfl rfl ?_
            have hnone : (mgL (pF op nn) (tab f g start (en - start)) (fun _ => none, 0)) = none := hM2.symm.trans (mgL_fail hyes (pF_0 k85))
            exact z_zret C0 rfl rfl dX1_merge_89 ⟨h2_78, an2_78, ((callR op nn (f i) (vf pl_23) (g i)).2.2.2.length), ar2_78, lo2_78, st2_78, (stpU sp kd (callR op nn (f i) (vf pl_23) (g i))), tn, kf, vf, ⟨(zb_fN (fun q => q hnone)), rfl⟩, (by omega), (fun M s q => by rw [hnone] at q; cases q)⟩ (by decide) (by decide)
        · skip
          have hno : M (f i) = none := tbl_none htb fp_23 k36
          refine z_aload_n 40 C0 2 dX1_merge_39 rfl rfl rfl ?_
          refine z_iload 42 C0 8 dX1_merge_40 rfl rfl ?_
          refine z_iload 44 C0 7 dX1_merge_42 rfl rfl ?_
          refine z_aload_n 45 C0 3 dX1_merge_44 rfl rfl rfl ?_
          refine z_get 48 C0 5 1 wz_4 rfl (by decide) (zTs_in wk_47) dX1_merge_45 rfl rfl rfl ?_
          refine z_iload 50 C0 6 dX1_merge_48 rfl rfl ?_
          refine z_ialdN 51 C0 7 (v := (g i)) dX1_merge_50 rfl rfl (by omega) (by decide) rfl ?_
          refine z_callVv 54 C0 [12, 13, 14] [0, 1, 2, 3, 4, 5, 6, 7, 8, 9, 10, 11] [(jb, zo 1 [.ref m, .ref jse, .ref jst, .ref jjo, .ref jre, .ref jco]), (m, zo 3 [.ref ma, .ref ml, .ref ms, .int (nI h), .int an, .ref mp, .int (nI em), .ref mt]), (ma, zi E 3 ar), (ml, zi E 4 lo), (ms, zi E 8 st), (mp, zo 4 [.ref mpk, .ref mpv, .int (nI n)]), (mpk, zi E 600 f), (mpv, zi E 600 g), (mt, zi E 4 (zn sp)), (p, zo 5 [.int (nI kd), .ref po, .ref pn, .int (nI len)]), (po, zi E 64 op), (pn, zi E 64 nn)] 0 0 (As := [.int (nI pl_23), .int (f i), .int (g i)]) (T := TX2) (N := 3) (C := RX2) (ci := 2) (n := 3) 0 (insert l_ E t tk tv kf vf tn pl_23 (f i) (g i) (fp_23.1) (by omega)) (zGIV (fun _ => zTs_in) wk_404 wk_401 wk_402 wk_403 wk_19) rfl ⟨rfl, by decide, by decide, by decide +kernel⟩ rfl rfl rfl rfl (by decide) rfl rfl (Nat.le_of_ble_eq_true rfl) ⟨by decide, by decide⟩ rfl rfl ⟨by decide, by decide⟩ ⟨by decide, by decide⟩ dX1_merge_51 rfl (fun w51 hB51 => ?_)
          obtain rfl := hB51
          refine z_perm [0, 1, 2, 3, 4, 5, 6, 7, 8, 9, 10, 11, 12, 13, 14] [(jb, zo 1 [.ref m, .ref jse, .ref jst, .ref jjo, .ref jre, .ref jco]), (m, zo 3 [.ref ma, .ref ml, .ref ms, .int (nI h), .int an, .ref mp, .int (nI em), .ref mt]), (ma, zi E 3 ar), (ml, zi E 4 lo), (ms, zi E 8 st), (mp, zo 4 [.ref mpk, .ref mpv, .int (nI n)]), (mpk, zi E 600 f), (mpv, zi E 600 g), (mt, zi E 4 (zn sp)), (p, zo 5 [.int (nI kd), .ref po, .ref pn, .int (nI len)]), (po, zi E 64 op), (pn, zi E 64 nn), (t, zo 2 [.ref tk, .ref tv, .int (nI (tn + 1))]), (tk, zi E 600 (insA kf pl_23 tn (f i))), (tv, zi E 600 (insA vf pl_23 tn (g i)))] (by decide) rfl ?_
          refine z_goto 104 C0 dX1_merge_54 (by decide) ?_
          refine z_iinc 107 C0 6 [1, 2, 3, 4, 5, 6, 0, 7, 8] [(0, .ref jb), (1, .ref p), (2, .ref t), (3, .ref mp), (4, .int (nI start)), (5, .int (nI en)), (6, .int (nI (i + 1))), (7, .int (f i)), (8, .int (nI pl_23))] (v := (nI (i + 1))) dX1_merge_104 rfl rfl (z_incN _ _) (by decide) rfl ?_
          refine z_goto 4 C0 dX1_merge_107 (by decide) ?_
          refine z_loc [0, 1, 2, 3, 4, 5, 6] [(0, .ref jb), (1, .ref p), (2, .ref t), (3, .ref mp), (4, .int (nI start)), (5, .int (nI en)), (6, .int (nI (i + 1)))] rfl ?_
          exact ih4 (i + 1) (tn + 1) (insA kf pl_23 tn (f i)) (insA vf pl_23 tn (g i)) (mset M (f i) (g i)) s h an em ar lo st sp (by omega) (by omega) (by omega) (tbl_ins htb fp_23 hno) hsp ((mgL_new hno).symm.trans hM2) (by omega)
  exact CUT4 (en - start + 1) start 0 kf vf (fun _ => none) 0 h an em ar lo st stp (Nat.le_refl _) hse (by omega) (tbl_0 _ _) (z_up_self _ _).symm rfl (Nat.lt_succ_self _)

set_option maxHeartbeats 4000000 in
set_option maxRecDepth 100000 in
theorem merge_s (l_ : Launch) (E : zE) (jb : Nat) (jse : Nat) (jst : Nat) (jjo : Nat) (jre : Nat) (jco : Nat) (m : Nat) (ma : Nat) (ml : Nat) (ms : Nat) (mp : Nat) (mt : Nat) (h : Nat) (an : Int32) (em : Nat) (ar : Nat → Int32) (lo : Nat → Int32) (st : Nat → Int32) (mpk : Nat) (mpv : Nat) (f : Nat → Int32) (g : Nat → Int32) (n : Nat) (stp : Nat → Nat) (p : Nat) (po : Nat) (pn : Nat) (kd : Nat) (op : Nat → Int32) (nn : Nat → Int32) (len : Nat) (t : Nat) (tk : Nat) (tv : Nat) (kf : Nat → Int32) (vf : Nat → Int32) (r : Nat) (rk : Nat) (rv : Nat) (rf : Nat → Int32) (rg : Nat → Int32) (rn : Nat) (start : Nat) (en : Nat) (hG : Good kd op nn len) (hkd : kd = 1 ∨ kd = 2) (hlen : len ≤ 64) (hn : n ≤ 600) (hse : start ≤ en) (hen : en ≤ 600) : zMi l_ E yX1_merge (zTs yX1_merge cX1_merge 10 (some .boolean)) ({ frames := 4, cells := 0, slots := 0, locals := 97 } : Room) [.ref jb, .ref p, .ref t, .ref r, .int (nI start), .int (nI en)] [(jb, zo 1 [.ref m, .ref jse, .ref jst, .ref jjo, .ref jre, .ref jco]), (m, zo 3 [.ref ma, .ref ml, .ref ms, .int (nI h), .int an, .ref mp, .int (nI em), .ref mt]), (ma, zi E 3 ar), (ml, zi E 4 lo), (ms, zi E 8 st), (mp, zo 4 [.ref mpk, .ref mpv, .int (nI n)]), (mpk, zi E 600 f), (mpv, zi E 600 g), (mt, zi E 4 (zn stp)), (p, zo 5 [.int (nI kd), .ref po, .ref pn, .int (nI len)]), (po, zi E 64 op), (pn, zi E 64 nn), (t, zo 2 [.ref tk, .ref tv, .int (nI 0)]), (tk, zi E 600 kf), (tv, zi E 600 vf), (r, zo 4 [.ref rk, .ref rv, .int (nI rn)]), (rk, zi E 600 rf), (rv, zi E 600 rg)] (fun r_ w_ => ∃ h2 : Nat, ∃ an2 : Int32, ∃ em2 : Nat, ∃ ar2 : Nat → Int32, ∃ lo2 : Nat → Int32, ∃ st2 : Nat → Int32, ∃ stp2 : Nat → Nat, ∃ n2 : Nat, ∃ kf2 : Nat → Int32, ∃ vf2 : Nat → Int32, (r_ = (zb ((mgL (pF op nn) (tab rf rg start (en - start)) (fun _ => none, 0)) ≠ none)) ∧ w_ = [(jb, zo 1 [.ref m, .ref jse, .ref jst, .ref jjo, .ref jre, .ref jco]), (m, zo 3 [.ref ma, .ref ml, .ref ms, .int (nI h2), .int an2, .ref mp, .int (nI em2), .ref mt]), (ma, zi E 3 ar2), (ml, zi E 4 lo2), (ms, zi E 8 st2), (mp, zo 4 [.ref mpk, .ref mpv, .int (nI n)]), (mpk, zi E 600 f), (mpv, zi E 600 g), (mt, zi E 4 (zn stp2)), (p, zo 5 [.int (nI kd), .ref po, .ref pn, .int (nI len)]), (po, zi E 64 op), (pn, zi E 64 nn), (t, zo 2 [.ref tk, .ref tv, .int (nI n2)]), (tk, zi E 600 kf2), (tv, zi E 600 vf2), (r, zo 4 [.ref rk, .ref rv, .int (nI rn)]), (rk, zi E 600 rf), (rv, zi E 600 rg)]) ∧ (n2 ≤ en - start) ∧ (∀ M s, (mgL (pF op nn) (tab rf rg start (en - start)) (fun _ => none, 0)) = some (M, s) → tbl n2 kf2 vf2 M ∧ stp2 = va_up stp kd (stp kd + s))) 0 0 := by
  refine zMi.of (cc := cX1_merge) (nL := 10) (ret := (some .boolean)) (by decide) rfl (Nat.le_of_ble_eq_true rfl) ?_
  intro p_ e_ s_ m_ args_ below_ meth_ c_ A_ C0 hin0
  have C0 : zC E p_ s_ m_ args_ meth_ c_ cX1_merge 10 (some .boolean) RX1 (zTs yX1_merge cX1_merge 10 (some .boolean)) A_ := C0
  refine z_eqL (L1 := [(0, .ref jb), (1, .ref p), (2, .ref t), (3, .ref r), (4, .int (nI start)), (5, .int (nI en))]) rfl ?_
  refine z_iload 2 C0 4 dX1_merge_0 rfl rfl ?_
  refine z_istore 4 C0 [1, 2, 3, 4, 5, 6, 0] [(0, .ref jb), (1, .ref p), (2, .ref t), (3, .ref r), (4, .int (nI start)), (5, .int (nI en)), (6, .int (nI start))] dX1_merge_2 rfl (by decide) rfl ?_
  have CUT4 : ∀ (N4 : Nat) (i : Nat) (tn : Nat) (kf : Nat → Int32) (vf : Nat → Int32) (M : mapT) (s : Nat) (h : Nat) (an : Int32) (em : Nat) (ar : Nat → Int32) (lo : Nat → Int32) (st : Nat → Int32) (sp : Nat → Nat), (start ≤ i) → (i ≤ en) → (tn ≤ i - start) → (tbl tn kf vf M) → (sp = va_up stp kd (stp kd + s)) → (mgL (pF op nn) (tab rf rg i (en - i)) (M, s) = (mgL (pF op nn) (tab rf rg start (en - start)) (fun _ => none, 0))) → en - i < N4 → Z E p_ l_ e_ ({ frames := 4, cells := 0, slots := 0, locals := 97 } : Room) s_ m_ args_ below_ meth_ c_ (MQ below_ (va_Qi (fun r_ w_ => ∃ h2 : Nat, ∃ an2 : Int32, ∃ em2 : Nat, ∃ ar2 : Nat → Int32, ∃ lo2 : Nat → Int32, ∃ st2 : Nat → Int32, ∃ stp2 : Nat → Nat, ∃ n2 : Nat, ∃ kf2 : Nat → Int32, ∃ vf2 : Nat → Int32, (r_ = (zb ((mgL (pF op nn) (tab rf rg start (en - start)) (fun _ => none, 0)) ≠ none)) ∧ w_ = [(jb, zo 1 [.ref m, .ref jse, .ref jst, .ref jjo, .ref jre, .ref jco]), (m, zo 3 [.ref ma, .ref ml, .ref ms, .int (nI h2), .int an2, .ref mp, .int (nI em2), .ref mt]), (ma, zi E 3 ar2), (ml, zi E 4 lo2), (ms, zi E 8 st2), (mp, zo 4 [.ref mpk, .ref mpv, .int (nI n)]), (mpk, zi E 600 f), (mpv, zi E 600 g), (mt, zi E 4 (zn stp2)), (p, zo 5 [.int (nI kd), .ref po, .ref pn, .int (nI len)]), (po, zi E 64 op), (pn, zi E 64 nn), (t, zo 2 [.ref tk, .ref tv, .int (nI n2)]), (tk, zi E 600 kf2), (tv, zi E 600 vf2), (r, zo 4 [.ref rk, .ref rv, .int (nI rn)]), (rk, zi E 600 rf), (rv, zi E 600 rg)]) ∧ (n2 ≤ en - start) ∧ (∀ M s, (mgL (pF op nn) (tab rf rg start (en - start)) (fun _ => none, 0)) = some (M, s) → tbl n2 kf2 vf2 M ∧ stp2 = va_up stp kd (stp kd + s))) (zPost E A_) A_) args_ s_ 0 0 A_) A_ 10 4 [(0, .ref jb), (1, .ref p), (2, .ref t), (3, .ref r), (4, .int (nI start)), (5, .int (nI en)), (6, .int (nI i))] [] [(jb, zo 1 [.ref m, .ref jse, .ref jst, .ref jjo, .ref jre, .ref jco]), (m, zo 3 [.ref ma, .ref ml, .ref ms, .int (nI h), .int an, .ref mp, .int (nI em), .ref mt]), (ma, zi E 3 ar), (ml, zi E 4 lo), (ms, zi E 8 st), (mp, zo 4 [.ref mpk, .ref mpv, .int (nI n)]), (mpk, zi E 600 f), (mpv, zi E 600 g), (mt, zi E 4 (zn sp)), (p, zo 5 [.int (nI kd), .ref po, .ref pn, .int (nI len)]), (po, zi E 64 op), (pn, zi E 64 nn), (t, zo 2 [.ref tk, .ref tv, .int (nI tn)]), (tk, zi E 600 kf), (tv, zi E 600 vf), (r, zo 4 [.ref rk, .ref rv, .int (nI rn)]), (rk, zi E 600 rf), (rv, zi E 600 rg)] 0 0 := by
    intro N4
    induction N4 with
    | zero => intro i tn kf vf M s h an em ar lo st sp hi hi2 htn htb hsp hM hm4; exact absurd hm4 (Nat.not_lt_zero _)
    | succ N4 ih4 =>
      intro i tn kf vf M s h an em ar lo st sp hi hi2 htn htb hsp hM hm4
      refine z_iload 6 C0 6 dX1_merge_4 rfl rfl ?_
      refine z_iload 8 C0 5 dX1_merge_6 rfl rfl ?_
      refine z_icmp_geN 11 110 C0 (by omega) (by omega) dX1_merge_8 rfl (by decide) (fun k8 => ?_) (fun k8 => ?_)
      · skip
        refine z_iconst 111 C0 (v := (nI 1)) dX1_merge_110 rfl rfl ?_
        have hsome : (mgL (pF op nn) (tab rf rg start (en - start)) (fun _ => none, 0)) = some (M, s) := by rw [← hM, show en - i = 0 by omega]; rfl
        exact z_zret C0 rfl rfl dX1_merge_111 ⟨h, an, em, ar, lo, st, sp, tn, kf, vf, ⟨(zb_tN (fun q => by rw [hsome] at q; cases q)), rfl⟩, (by omega), (fun M2 s2 q => by rw [hsome] at q; cases q; exact ⟨htb, hsp⟩)⟩ (by decide) (by decide)
      · skip
        have hM2 := hM
        rw [show en - i = (en - (i + 1)) + 1 by omega, tab_s] at hM2
        refine z_aload_n 12 C0 3 dX1_merge_11 rfl rfl rfl ?_
        refine z_get 15 C0 15 0 wz_4 rfl (by decide) (zTs_in wk_45) dX1_merge_12 rfl rfl rfl ?_
        refine z_iload 17 C0 6 dX1_merge_15 rfl rfl ?_
        refine z_ialdN 18 C0 16 (v := (rf i)) dX1_merge_17 rfl rfl (by omega) (by decide) rfl ?_
        refine z_istore 20 C0 [1, 2, 3, 4, 5, 6, 7, 0] [(0, .ref jb), (1, .ref p), (2, .ref t), (3, .ref r), (4, .int (nI start)), (5, .int (nI en)), (6, .int (nI i)), (7, .int (rf i))] dX1_merge_18 rfl (by decide) rfl ?_
        refine z_aload_n 21 C0 2 dX1_merge_20 rfl rfl rfl ?_
        refine z_iload 23 C0 7 dX1_merge_21 rfl rfl ?_
        refine z_callVi 26 C0 [12, 13, 14] [0, 1, 2, 3, 4, 5, 6, 7, 8, 9, 10, 11, 15, 16, 17] [(jb, zo 1 [.ref m, .ref jse, .ref jst, .ref jjo, .ref jre, .ref jco]), (m, zo 3 [.ref ma, .ref ml, .ref ms, .int (nI h), .int an, .ref mp, .int (nI em), .ref mt]), (ma, zi E 3 ar), (ml, zi E 4 lo), (ms, zi E 8 st), (mp, zo 4 [.ref mpk, .ref mpv, .int (nI n)]), (mpk, zi E 600 f), (mpv, zi E 600 g), (mt, zi E 4 (zn sp)), (p, zo 5 [.int (nI kd), .ref po, .ref pn, .int (nI len)]), (po, zi E 64 op), (pn, zi E 64 nn), (r, zo 4 [.ref rk, .ref rv, .int (nI rn)]), (rk, zi E 600 rf), (rv, zi E 600 rg)] 0 0 (As := [.int (rf i)]) (T := TX2) (N := 3) (C := RX2) (ci := 2) (n := 1) 0 (placeOf l_ E t tk tv kf vf tn (rf i) (htb.1) (by omega)) (zGIV (fun _ => zTs_in) wk_396 wk_393 wk_394 wk_395 wk_19) rfl ⟨rfl, by decide, by decide, by decide +kernel⟩ rfl rfl rfl rfl (by decide) rfl rfl (Nat.le_of_ble_eq_true rfl) ⟨by decide, by decide⟩ rfl rfl ⟨by decide, by decide⟩ ⟨by decide, by decide⟩ dX1_merge_23 rfl (fun r23 w23 hB23 => ?_)
        obtain ⟨pl_23, ⟨rfl, rfl⟩, fp_23⟩ := hB23
        refine z_perm [0, 1, 2, 3, 4, 5, 6, 7, 8, 9, 10, 11, 15, 16, 17, 12, 13, 14] [(jb, zo 1 [.ref m, .ref jse, .ref jst, .ref jjo, .ref jre, .ref jco]), (m, zo 3 [.ref ma, .ref ml, .ref ms, .int (nI h), .int an, .ref mp, .int (nI em), .ref mt]), (ma, zi E 3 ar), (ml, zi E 4 lo), (ms, zi E 8 st), (mp, zo 4 [.ref mpk, .ref mpv, .int (nI n)]), (mpk, zi E 600 f), (mpv, zi E 600 g), (mt, zi E 4 (zn sp)), (p, zo 5 [.int (nI kd), .ref po, .ref pn, .int (nI len)]), (po, zi E 64 op), (pn, zi E 64 nn), (t, zo 2 [.ref tk, .ref tv, .int (nI tn)]), (tk, zi E 600 kf), (tv, zi E 600 vf), (r, zo 4 [.ref rk, .ref rv, .int (nI rn)]), (rk, zi E 600 rf), (rv, zi E 600 rg)] (by decide) rfl ?_
        refine z_istore 28 C0 [1, 2, 3, 4, 5, 6, 7, 8, 0] [(0, .ref jb), (1, .ref p), (2, .ref t), (3, .ref r), (4, .int (nI start)), (5, .int (nI en)), (6, .int (nI i)), (7, .int (rf i)), (8, .int (nI pl_23))] dX1_merge_26 rfl (by decide) rfl ?_
        refine z_aload_n 29 C0 2 dX1_merge_28 rfl rfl rfl ?_
        refine z_iload 31 C0 8 dX1_merge_29 rfl rfl ?_
        refine z_iload 33 C0 7 dX1_merge_31 rfl rfl ?_
        refine z_callVi 36 C0 [12, 13, 14] [0, 1, 2, 3, 4, 5, 6, 7, 8, 9, 10, 11, 15, 16, 17] [(jb, zo 1 [.ref m, .ref jse, .ref jst, .ref jjo, .ref jre, .ref jco]), (m, zo 3 [.ref ma, .ref ml, .ref ms, .int (nI h), .int an, .ref mp, .int (nI em), .ref mt]), (ma, zi E 3 ar), (ml, zi E 4 lo), (ms, zi E 8 st), (mp, zo 4 [.ref mpk, .ref mpv, .int (nI n)]), (mpk, zi E 600 f), (mpv, zi E 600 g), (mt, zi E 4 (zn sp)), (p, zo 5 [.int (nI kd), .ref po, .ref pn, .int (nI len)]), (po, zi E 64 op), (pn, zi E 64 nn), (r, zo 4 [.ref rk, .ref rv, .int (nI rn)]), (rk, zi E 600 rf), (rv, zi E 600 rg)] 0 0 (As := [.int (nI pl_23), .int (rf i)]) (T := TX2) (N := 3) (C := RX2) (ci := 2) (n := 2) 0 (holds l_ E t tk tv kf vf tn pl_23 (rf i) (by have := fp_23.1; omega) (by omega)) (zGIV (fun _ => zTs_in) wk_400 wk_397 wk_398 wk_399 wk_19) rfl ⟨rfl, by decide, by decide, by decide +kernel⟩ rfl rfl rfl rfl (by decide) rfl rfl (Nat.le_of_ble_eq_true rfl) ⟨by decide, by decide⟩ rfl rfl ⟨by decide, by decide⟩ ⟨by decide, by decide⟩ dX1_merge_33 rfl (fun r33 w33 hB33 => ?_)
        obtain ⟨rfl, rfl⟩ := hB33
        refine z_perm [0, 1, 2, 3, 4, 5, 6, 7, 8, 9, 10, 11, 15, 16, 17, 12, 13, 14] [(jb, zo 1 [.ref m, .ref jse, .ref jst, .ref jjo, .ref jre, .ref jco]), (m, zo 3 [.ref ma, .ref ml, .ref ms, .int (nI h), .int an, .ref mp, .int (nI em), .ref mt]), (ma, zi E 3 ar), (ml, zi E 4 lo), (ms, zi E 8 st), (mp, zo 4 [.ref mpk, .ref mpv, .int (nI n)]), (mpk, zi E 600 f), (mpv, zi E 600 g), (mt, zi E 4 (zn sp)), (p, zo 5 [.int (nI kd), .ref po, .ref pn, .int (nI len)]), (po, zi E 64 op), (pn, zi E 64 nn), (t, zo 2 [.ref tk, .ref tv, .int (nI tn)]), (tk, zi E 600 kf), (tv, zi E 600 vf), (r, zo 4 [.ref rk, .ref rv, .int (nI rn)]), (rk, zi E 600 rf), (rv, zi E 600 rg)] (by decide) rfl ?_
        refine z_if_neP 39 57 C0 dX1_merge_36 rfl (by decide) (fun k36 => ?_) (fun k36 => ?_)
        · skip
          have hyes : M (rf i) = some (vf pl_23) := by rw [← k36.2]; exact htb.2.1 _ k36.1
          refine z_aload_n 58 C0 0 dX1_merge_57 rfl rfl rfl ?_
          refine z_get 61 C0 0 0 wz_1 rfl (by decide) (zTs_in wk_175) dX1_merge_58 rfl rfl rfl ?_
          refine z_aload_n 62 C0 1 dX1_merge_61 rfl rfl rfl ?_
          refine z_iload 64 C0 7 dX1_merge_62 rfl rfl ?_
          refine z_aload_n 65 C0 2 dX1_merge_64 rfl rfl rfl ?_
          refine z_get 68 C0 12 1 wz_2 rfl (by decide) (zTs_in wk_160) dX1_merge_65 rfl rfl rfl ?_
          refine z_iload 70 C0 8 dX1_merge_68 rfl rfl ?_
          refine z_ialdN 71 C0 14 (v := (vf pl_23)) dX1_merge_70 rfl rfl (by have := k36.1; omega) (by decide) rfl ?_
          refine z_aload_n 72 C0 3 dX1_merge_71 rfl rfl rfl ?_
          refine z_get 75 C0 15 1 wz_4 rfl (by decide) (zTs_in wk_47) dX1_merge_72 rfl rfl rfl ?_
          refine z_iload 77 C0 6 dX1_merge_75 rfl rfl ?_
          refine z_ialdN 78 C0 17 (v := (rg i)) dX1_merge_77 rfl rfl (by omega) (by decide) rfl ?_
          refine z_callVi 81 C0 [1, 2, 3, 4, 5, 6, 7, 8, 9, 10, 11] [0, 12, 13, 14, 15, 16, 17] [(jb, zo 1 [.ref m, .ref jse, .ref jst, .ref jjo, .ref jre, .ref jco]), (t, zo 2 [.ref tk, .ref tv, .int (nI tn)]), (tk, zi E 600 kf), (tv, zi E 600 vf), (r, zo 4 [.ref rk, .ref rv, .int (nI rn)]), (rk, zi E 600 rf), (rv, zi E 600 rg)] 0 0 (As := [.ref p, .int (rf i), .int (vf pl_23), .int (rg i)]) (T := TX3) (N := 8) (C := RX3) (ci := 3) (n := 4) 0 (call l_ E m ma ml ms mp mt h an em ar lo st mpk mpv f g n sp p po pn kd op nn len (rf i) (vf pl_23) (rg i) (hG) (by omega) (by omega) (hn)) (zGIV (fun _ => zTs_in) wk_343 wk_340 wk_341 wk_342 wk_18) rfl ⟨rfl, by decide, by decide, by decide +kernel⟩ rfl rfl rfl rfl (by decide) rfl rfl (Nat.le_of_ble_eq_true rfl) ⟨by decide, by decide⟩ rfl rfl ⟨by decide, by decide⟩ ⟨by decide, by decide⟩ dX1_merge_78 rfl (fun r78 w78 hB78 => ?_)
          obtain ⟨h2_78, an2_78, ar2_78, lo2_78, st2_78, ⟨rfl, rfl⟩, fh_78, fa_78⟩ := hB78
          refine z_perm [0, 7, 8, 9, 10, 11, 12, 13, 14, 15, 16, 17, 1, 2, 3, 4, 5, 6] [(jb, zo 1 [.ref m, .ref jse, .ref jst, .ref jjo, .ref jre, .ref jco]), (m, zo 3 [.ref ma, .ref ml, .ref ms, .int (nI h2_78), .int an2_78, .ref mp, .int (nI ((callR op nn (rf i) (vf pl_23) (rg i)).2.2.2.length)), .ref mt]), (ma, zi E 3 ar2_78), (ml, zi E 4 lo2_78), (ms, zi E 8 st2_78), (mp, zo 4 [.ref mpk, .ref mpv, .int (nI (rwN 600 n (callR op nn (rf i) (vf pl_23) (rg i)).2.2.2))]), (mpk, zi E 600 (rwK 600 n f (callR op nn (rf i) (vf pl_23) (rg i)).2.2.2)), (mpv, zi E 600 (rwV 600 n g (callR op nn (rf i) (vf pl_23) (rg i)).2.2.2)), (mt, zi E 4 (zn (stpU sp kd (callR op nn (rf i) (vf pl_23) (rg i))))), (p, zo 5 [.int (nI kd), .ref po, .ref pn, .int (nI len)]), (po, zi E 64 op), (pn, zi E 64 nn), (t, zo 2 [.ref tk, .ref tv, .int (nI tn)]), (tk, zi E 600 kf), (tv, zi E 600 vf), (r, zo 4 [.ref rk, .ref rv, .int (nI rn)]), (rk, zi E 600 rf), (rv, zi E 600 rg)] (by decide) rfl ?_
          have hP0 : (callR op nn (rf i) (vf pl_23) (rg i)).2.2.2 = [] := callR_nil hG hlen (by omega) _ _ _
          refine z_eq (L1 := [(0, .ref jb), (1, .ref p), (2, .ref t), (3, .ref r), (4, .int (nI start)), (5, .int (nI en)), (6, .int (nI i)), (7, .int (rf i)), (8, .int (nI pl_23))]) (st1 := [.int (nI ((callR op nn (rf i) (vf pl_23) (rg i)).1))]) (w1 := [(jb, zo 1 [.ref m, .ref jse, .ref jst, .ref jjo, .ref jre, .ref jco]), (m, zo 3 [.ref ma, .ref ml, .ref ms, .int (nI h2_78), .int an2_78, .ref mp, .int (nI ((callR op nn (rf i) (vf pl_23) (rg i)).2.2.2.length)), .ref mt]), (ma, zi E 3 ar2_78), (ml, zi E 4 lo2_78), (ms, zi E 8 st2_78), (mp, zo 4 [.ref mpk, .ref mpv, .int (nI n)]), (mpk, zi E 600 f), (mpv, zi E 600 g), (mt, zi E 4 (zn (stpU sp kd (callR op nn (rf i) (vf pl_23) (rg i))))), (p, zo 5 [.int (nI kd), .ref po, .ref pn, .int (nI len)]), (po, zi E 64 op), (pn, zi E 64 nn), (t, zo 2 [.ref tk, .ref tv, .int (nI tn)]), (tk, zi E 600 kf), (tv, zi E 600 vf), (r, zo 4 [.ref rk, .ref rv, .int (nI rn)]), (rk, zi E 600 rf), (rv, zi E 600 rg)]) rfl rfl (by rw [hP0, rwK_0, rwV_0, rwN_0 hn]) ?_
          refine z_istore 83 C0 [1, 2, 3, 4, 5, 6, 7, 8, 9, 0] [(0, .ref jb), (1, .ref p), (2, .ref t), (3, .ref r), (4, .int (nI start)), (5, .int (nI en)), (6, .int (nI i)), (7, .int (rf i)), (8, .int (nI pl_23)), (9, .int (nI ((callR op nn (rf i) (vf pl_23) (rg i)).1)))] dX1_merge_81 rfl (by decide) rfl ?_
          have hle := callR_le op nn (rf i) (vf pl_23) (rg i)
          refine z_iload 85 C0 9 dX1_merge_83 rfl rfl ?_
          refine z_if_neN 88 90 C0 (by omega) dX1_merge_85 rfl (by decide) (fun k85 => ?_) (fun k85 => ?_)
          · skip
            have hc0 := k85
            refine z_aload_n 91 C0 2 dX1_merge_90 rfl rfl rfl ?_
            refine z_get 94 C0 12 1 wz_2 rfl (by decide) (zTs_in wk_160) dX1_merge_91 rfl rfl rfl ?_
            refine z_iload 96 C0 8 dX1_merge_94 rfl rfl ?_
            refine z_aload_n 97 C0 0 dX1_merge_96 rfl rfl rfl ?_
            refine z_get 100 C0 0 0 wz_1 rfl (by decide) (zTs_in wk_175) dX1_merge_97 rfl rfl rfl ?_
            refine z_get 103 C0 1 4 wz_3 rfl (by decide) (zTs_in wk_124) dX1_merge_100 rfl rfl rfl ?_
            refine z_iastN 104 C0 14 [(jb, zo 1 [.ref m, .ref jse, .ref jst, .ref jjo, .ref jre, .ref jco]), (m, zo 3 [.ref ma, .ref ml, .ref ms, .int (nI h2_78), .int an2_78, .ref mp, .int (nI ((callR op nn (rf i) (vf pl_23) (rg i)).2.2.2.length)), .ref mt]), (ma, zi E 3 ar2_78), (ml, zi E 4 lo2_78), (ms, zi E 8 st2_78), (mp, zo 4 [.ref mpk, .ref mpv, .int (nI n)]), (mpk, zi E 600 f), (mpv, zi E 600 g), (mt, zi E 4 (zn (stpU sp kd (callR op nn (rf i) (vf pl_23) (rg i))))), (p, zo 5 [.int (nI kd), .ref po, .ref pn, .int (nI len)]), (po, zi E 64 op), (pn, zi E 64 nn), (t, zo 2 [.ref tk, .ref tv, .int (nI tn)]), (tk, zi E 600 kf), (tv, zi E 600 (upd vf pl_23 an2_78)), (r, zo 4 [.ref rk, .ref rv, .int (nI rn)]), (rk, zi E 600 rf), (rv, zi E 600 rg)] dX1_merge_103 rfl rfl (by have := k36.1; omega) (by decide) rfl ?_
            refine z_iinc 107 C0 6 [1, 2, 3, 4, 5, 6, 0, 7, 8, 9] [(0, .ref jb), (1, .ref p), (2, .ref t), (3, .ref r), (4, .int (nI start)), (5, .int (nI en)), (6, .int (nI (i + 1))), (7, .int (rf i)), (8, .int (nI pl_23)), (9, .int (nI ((callR op nn (rf i) (vf pl_23) (rg i)).1)))] (v := (nI (i + 1))) dX1_merge_104 rfl rfl (z_incN _ _) (by decide) rfl ?_
            refine z_goto 4 C0 dX1_merge_107 (by decide) ?_
            refine z_loc [0, 1, 2, 3, 4, 5, 6] [(0, .ref jb), (1, .ref p), (2, .ref t), (3, .ref r), (4, .int (nI start)), (5, .int (nI en)), (6, .int (nI (i + 1)))] rfl ?_
            exact ih4 (i + 1) tn kf (upd vf pl_23 an2_78) (mset M (rf i) (callR op nn (rf i) (vf pl_23) (rg i)).2.1) (s + (callR op nn (rf i) (vf pl_23) (rg i)).2.2.1) h2_78 an2_78 ((callR op nn (rf i) (vf pl_23) (rg i)).2.2.2.length) ar2_78 lo2_78 st2_78 (stpU sp kd (callR op nn (rf i) (vf pl_23) (rg i))) (by omega) (by omega) (by omega) (by have := tbl_upd (r := an2_78) htb k36.1; rw [k36.2] at this; rw [fa_78 hc0] at this ⊢; exact this) (by unfold stpU; rw [if_neg hc0, hsp]; exact z_up_add _ _ _ _) ((mgL_old hyes (pF_1 hc0)).symm.trans hM2) (by omega)
          · skip
            refine z_iconst 89 C0 (v := (nI 0)) dX1_merge_88 rfl rfl ?_
            have hnone : (mgL (pF op nn) (tab rf rg start (en - start)) (fun _ => none, 0)) = none := hM2.symm.trans (mgL_fail hyes (pF_0 k85))
            exact z_zret C0 rfl rfl dX1_merge_89 ⟨h2_78, an2_78, ((callR op nn (rf i) (vf pl_23) (rg i)).2.2.2.length), ar2_78, lo2_78, st2_78, (stpU sp kd (callR op nn (rf i) (vf pl_23) (rg i))), tn, kf, vf, ⟨(zb_fN (fun q => q hnone)), rfl⟩, (by omega), (fun M s q => by rw [hnone] at q; cases q)⟩ (by decide) (by decide)
        · skip
          have hno : M (rf i) = none := tbl_none htb fp_23 k36
          refine z_aload_n 40 C0 2 dX1_merge_39 rfl rfl rfl ?_
          refine z_iload 42 C0 8 dX1_merge_40 rfl rfl ?_
          refine z_iload 44 C0 7 dX1_merge_42 rfl rfl ?_
          refine z_aload_n 45 C0 3 dX1_merge_44 rfl rfl rfl ?_
          refine z_get 48 C0 15 1 wz_4 rfl (by decide) (zTs_in wk_47) dX1_merge_45 rfl rfl rfl ?_
          refine z_iload 50 C0 6 dX1_merge_48 rfl rfl ?_
          refine z_ialdN 51 C0 17 (v := (rg i)) dX1_merge_50 rfl rfl (by omega) (by decide) rfl ?_
          refine z_callVv 54 C0 [12, 13, 14] [0, 1, 2, 3, 4, 5, 6, 7, 8, 9, 10, 11, 15, 16, 17] [(jb, zo 1 [.ref m, .ref jse, .ref jst, .ref jjo, .ref jre, .ref jco]), (m, zo 3 [.ref ma, .ref ml, .ref ms, .int (nI h), .int an, .ref mp, .int (nI em), .ref mt]), (ma, zi E 3 ar), (ml, zi E 4 lo), (ms, zi E 8 st), (mp, zo 4 [.ref mpk, .ref mpv, .int (nI n)]), (mpk, zi E 600 f), (mpv, zi E 600 g), (mt, zi E 4 (zn sp)), (p, zo 5 [.int (nI kd), .ref po, .ref pn, .int (nI len)]), (po, zi E 64 op), (pn, zi E 64 nn), (r, zo 4 [.ref rk, .ref rv, .int (nI rn)]), (rk, zi E 600 rf), (rv, zi E 600 rg)] 0 0 (As := [.int (nI pl_23), .int (rf i), .int (rg i)]) (T := TX2) (N := 3) (C := RX2) (ci := 2) (n := 3) 0 (insert l_ E t tk tv kf vf tn pl_23 (rf i) (rg i) (fp_23.1) (by omega)) (zGIV (fun _ => zTs_in) wk_404 wk_401 wk_402 wk_403 wk_19) rfl ⟨rfl, by decide, by decide, by decide +kernel⟩ rfl rfl rfl rfl (by decide) rfl rfl (Nat.le_of_ble_eq_true rfl) ⟨by decide, by decide⟩ rfl rfl ⟨by decide, by decide⟩ ⟨by decide, by decide⟩ dX1_merge_51 rfl (fun w51 hB51 => ?_)
          obtain rfl := hB51
          refine z_perm [0, 1, 2, 3, 4, 5, 6, 7, 8, 9, 10, 11, 15, 16, 17, 12, 13, 14] [(jb, zo 1 [.ref m, .ref jse, .ref jst, .ref jjo, .ref jre, .ref jco]), (m, zo 3 [.ref ma, .ref ml, .ref ms, .int (nI h), .int an, .ref mp, .int (nI em), .ref mt]), (ma, zi E 3 ar), (ml, zi E 4 lo), (ms, zi E 8 st), (mp, zo 4 [.ref mpk, .ref mpv, .int (nI n)]), (mpk, zi E 600 f), (mpv, zi E 600 g), (mt, zi E 4 (zn sp)), (p, zo 5 [.int (nI kd), .ref po, .ref pn, .int (nI len)]), (po, zi E 64 op), (pn, zi E 64 nn), (t, zo 2 [.ref tk, .ref tv, .int (nI (tn + 1))]), (tk, zi E 600 (insA kf pl_23 tn (rf i))), (tv, zi E 600 (insA vf pl_23 tn (rg i))), (r, zo 4 [.ref rk, .ref rv, .int (nI rn)]), (rk, zi E 600 rf), (rv, zi E 600 rg)] (by decide) rfl ?_
          refine z_goto 104 C0 dX1_merge_54 (by decide) ?_
          refine z_iinc 107 C0 6 [1, 2, 3, 4, 5, 6, 0, 7, 8] [(0, .ref jb), (1, .ref p), (2, .ref t), (3, .ref r), (4, .int (nI start)), (5, .int (nI en)), (6, .int (nI (i + 1))), (7, .int (rf i)), (8, .int (nI pl_23))] (v := (nI (i + 1))) dX1_merge_104 rfl rfl (z_incN _ _) (by decide) rfl ?_
          refine z_goto 4 C0 dX1_merge_107 (by decide) ?_
          refine z_loc [0, 1, 2, 3, 4, 5, 6] [(0, .ref jb), (1, .ref p), (2, .ref t), (3, .ref r), (4, .int (nI start)), (5, .int (nI en)), (6, .int (nI (i + 1)))] rfl ?_
          exact ih4 (i + 1) (tn + 1) (insA kf pl_23 tn (rf i)) (insA vf pl_23 tn (rg i)) (mset M (rf i) (rg i)) s h an em ar lo st sp (by omega) (by omega) (by omega) (tbl_ins htb fp_23 hno) hsp ((mgL_new hno).symm.trans hM2) (by omega)
  exact CUT4 (en - start + 1) start 0 kf vf (fun _ => none) 0 h an em ar lo st stp (Nat.le_refl _) hse (by omega) (tbl_0 _ _) (z_up_self _ _).symm rfl (Nat.lt_succ_self _)
end
section
theorem rwN_app {cap n : Nat} {P P2 : List (Int32 × Int32)} (h : n ≤ cap) : rwN cap (rwN cap n P) P2 = rwN cap n (P ++ P2) := by
  unfold rwN
  rw [List.length_append]
  split <;> split <;> split <;> omega
theorem getD_app {P P2 : List (Int32 × Int32)} {d : Int32 × Int32} {i : Nat} : (P ++ P2).getD i d = if i < P.length then P.getD i d else P2.getD (i - P.length) d := by
  rw [List.getD_eq_getElem?_getD, List.getD_eq_getElem?_getD, List.getD_eq_getElem?_getD]
  by_cases hi : i < P.length
  · rw [if_pos hi, List.getElem?_append_left hi]
  · rw [if_neg hi, List.getElem?_append_right (by omega)]
theorem rwK_app {cap n : Nat} {f : Nat → Int32} {P P2 : List (Int32 × Int32)} (h : n ≤ cap) : rwK cap (rwN cap n P) (rwK cap n f P) P2 = rwK cap n f (P ++ P2) := by
  funext j
  unfold rwK
  rw [List.length_append, getD_app]
  unfold rwN
  by_cases hc : n + P.length ≤ cap
  · rw [if_pos hc]
    by_cases h1 : n + P.length ≤ j ∧ j < cap ∧ j - (n + P.length) < P2.length
    · rw [if_pos h1, if_pos ⟨by omega, h1.2.1, by omega⟩, if_neg (by omega), show j - n - P.length = j - (n + P.length) by omega]
    · rw [if_neg h1]
      by_cases h2 : n ≤ j ∧ j < cap ∧ j - n < P.length
      · rw [if_pos h2, if_pos ⟨h2.1, h2.2.1, by omega⟩, if_pos h2.2.2]
      · rw [if_neg h2, if_neg (fun q => by omega)]
  · rw [if_neg hc, if_neg (fun q => by omega)]
    by_cases h2 : n ≤ j ∧ j < cap ∧ j - n < P.length
    · rw [if_pos h2, if_pos ⟨h2.1, h2.2.1, by omega⟩, if_pos h2.2.2]
    · rw [if_neg h2, if_neg (fun q => by omega)]
theorem rwV_app {cap n : Nat} {f : Nat → Int32} {P P2 : List (Int32 × Int32)} (h : n ≤ cap) : rwV cap (rwN cap n P) (rwV cap n f P) P2 = rwV cap n f (P ++ P2) := by
  funext j
  unfold rwV
  rw [List.length_append, getD_app]
  unfold rwN
  by_cases hc : n + P.length ≤ cap
  · rw [if_pos hc]
    by_cases h1 : n + P.length ≤ j ∧ j < cap ∧ j - (n + P.length) < P2.length
    · rw [if_pos h1, if_pos ⟨by omega, h1.2.1, by omega⟩, if_neg (by omega), show j - n - P.length = j - (n + P.length) by omega]
    · rw [if_neg h1]
      by_cases h2 : n ≤ j ∧ j < cap ∧ j - n < P.length
      · rw [if_pos h2, if_pos ⟨h2.1, h2.2.1, by omega⟩, if_pos h2.2.2]
      · rw [if_neg h2, if_neg (fun q => by omega)]
  · rw [if_neg hc, if_neg (fun q => by omega)]
    by_cases h2 : n ≤ j ∧ j < cap ∧ j - n < P.length
    · rw [if_pos h2, if_pos ⟨h2.1, h2.2.1, by omega⟩, if_pos h2.2.2]
    · rw [if_neg h2, if_neg (fun q => by omega)]
theorem upd_upd (f : Nat → Int32) (k : Nat) (x y : Int32) : upd (upd f k x) k y = upd f k y := by
  funext j
  show (if j = k then y else (if j = k then x else f j)) = (if j = k then y else f j)
  by_cases h : j = k
  · rw [if_pos h, if_pos h]
  · rw [if_neg h, if_neg h, if_neg h]
theorem nI_neg1 {n : Nat} (h : n < 2147483648) : ¬ nI n = -1 := by
  intro q
  have h1 := nI_toInt (n := n) h
  rw [q] at h1
  have h2 : (-1 : Int32).toInt = -1 := by decide
  omega
/-- the call of MAP on a record; the pairs and the steps of the first i -/
def mpC (op nn rf rg : Nat → Int32) (i : Nat) : aT := callR op nn (rf i) (rg i) (nI 0)
def mpP (op nn rf rg : Nat → Int32) : Nat → List (Int32 × Int32)
  | 0 => []
  | i + 1 => mpP op nn rf rg i ++ (mpC op nn rf rg i).2.2.2
def mpS (op nn rf rg : Nat → Int32) : Nat → Nat
  | 0 => 0
  | i + 1 => mpS op nn rf rg i + (mpC op nn rf rg i).2.2.1
def mapR (op nn rf rg : Nat → Int32) (n : Nat) (r : Int32) : Prop :=
  (∃ i, i < n ∧ (mpC op nn rf rg i).1 = 0 ∧ (∀ x, x < i → (mpC op nn rf rg x).1 ≠ 0) ∧ r = nI i) ∨
  ((∀ x, x < n → (mpC op nn rf rg x).1 ≠ 0) ∧ 600 < (mpP op nn rf rg n).length ∧ r = nI 4000) ∨
  ((∀ x, x < n → (mpC op nn rf rg x).1 ≠ 0) ∧ (mpP op nn rf rg n).length ≤ 600 ∧ r = -1)
theorem mRun_len {op nn ar : Nat → Int32} : ∀ (fu k i h : Nat) (st lo : Nat → Int32) (P : List (Int32 × Int32)), (mRun op nn ar fu k i h st lo P).2.2.2.length ≤ P.length + fu := by
  intro fu
  induction fu with
  | zero => intros; exact Nat.le_refl _
  | succ fu ih =>
    intro k i h st lo P
    unfold mRun
    split
    · exact Nat.le_add_right _ _
    · split
      · exact Nat.le_add_right _ _
      · split
        · exact Nat.le_add_right _ _
        · refine Nat.le_trans (ih _ _ _ _ _ _) ?_
          unfold aPp
          split
          · rw [List.length_append, List.length_singleton]; omega
          · omega
theorem mp_len (op nn rf rg : Nat → Int32) (i : Nat) : nI (mpP op nn rf rg i).length + nI (mpC op nn rf rg i).2.2.2.length = nI (mpP op nn rf rg (i + 1)).length := by
  rw [nI_add]
  congr 1
  exact List.length_append.symm
theorem mp_len_le (op nn rf rg : Nat → Int32) (i : Nat) : (mpP op nn rf rg i).length ≤ 300 * i := by
  induction i with
  | zero => exact Nat.le_refl 0
  | succ i ih =>
    show (mpP op nn rf rg i ++ (mpC op nn rf rg i).2.2.2).length ≤ _
    rw [List.length_append]
    have : (mpC op nn rf rg i).2.2.2.length ≤ 0 + 300 := mRun_len _ _ _ _ _ _ _
    omega
theorem mp_split {op nn rf rg : Nat → Int32} {sz i : Nat} {sx : Nat → Nat} (hsz : 1 ≤ sz) (h : ∀ s, s * sz < i → sx s = rwN 600 0 (mpP op nn rf rg (min ((s + 1) * sz) i))) :
    ∀ s, s * sz < i + 1 → va_up sx (i / sz) (rwN 600 0 (mpP op nn rf rg (i + 1))) s = rwN 600 0 (mpP op nn rf rg (min ((s + 1) * sz) (i + 1))) := by
  intro s hs
  show (if s = i / sz then _ else sx s) = _
  have hd : i / sz * sz ≤ i := Nat.div_mul_le_self i sz
  have hm : i < (i / sz + 1) * sz := by
    have := Nat.lt_div_mul_add (a := i) (b := sz) (by omega)
    rw [Nat.add_mul, Nat.one_mul]; omega
  by_cases e : s = i / sz
  · rw [if_pos e, e, show min ((i / sz + 1) * sz) (i + 1) = i + 1 by omega]
  · rw [if_neg e]
    have hlt : s < i / sz := by
      rcases Nat.lt_trichotomy s (i / sz) with q | q | q
      · exact q
      · exact absurd q e
      · exfalso
        have : (i / sz + 1) * sz ≤ s * sz := Nat.mul_le_mul_right sz q
        omega
    have hle : (s + 1) * sz ≤ i / sz * sz := Nat.mul_le_mul_right sz hlt
    have hss : s * sz + sz = (s + 1) * sz := by rw [Nat.add_mul, Nat.one_mul]
    rw [h s (by omega), show min ((s + 1) * sz) i = (s + 1) * sz by omega, show min ((s + 1) * sz) (i + 1) = (s + 1) * sz by omega]
set_option maxHeartbeats 4000000 in
set_option maxRecDepth 100000 in
theorem forgetM (l_ : Launch) (E : zE) (m : Nat) (ma : Nat) (ml : Nat) (ms : Nat) (mp : Nat) (mt : Nat) (h : Nat) (an : Int32) (em : Nat) (mpk : Nat) (mpv : Nat) (n : Nat) (stp : Nat → Nat)  : zMv l_ E yX3_forget (zTs yX3_forget cX3_forget 1 none) ({ frames := 1, cells := 0, slots := 0, locals := 23 } : Room) [.ref m] [(m, zo 3 [.ref ma, .ref ml, .ref ms, .int (nI h), .int an, .ref mp, .int (nI em), .ref mt]), (mp, zo 4 [.ref mpk, .ref mpv, .int (nI n)]), (mt, zi E 4 (zn stp))] (fun w_ => (w_ = [(m, zo 3 [.ref ma, .ref ml, .ref ms, .int (nI h), .int an, .ref mp, .int (nI em), .ref mt]), (mp, zo 4 [.ref mpk, .ref mpv, .int (nI 0)]), (mt, zi E 4 (zn (fun _ => 0)))])) 0 0 := by
  refine zMv.of (cc := cX3_forget) (nL := 1) (ret := none) (by decide) rfl (Nat.le_of_ble_eq_true rfl) ?_
  intro p_ e_ s_ m_ args_ below_ meth_ c_ A_ C0 hin0
  have C0 : zC E p_ s_ m_ args_ meth_ c_ cX3_forget 1 none RX3 (zTs yX3_forget cX3_forget 1 none) A_ := C0
  refine z_eqL (L1 := [(0, .ref m)]) rfl ?_
  refine z_aload_n 1 C0 0 dX3_forget_0 rfl rfl rfl ?_
  refine z_get 4 C0 0 5 wz_3 rfl (by decide) (zTs_in wk_125) dX3_forget_1 rfl rfl rfl ?_
  refine z_iconst 5 C0 (v := (nI 0)) dX3_forget_4 rfl rfl ?_
  refine z_put 8 C0 1 2 [(m, zo 3 [.ref ma, .ref ml, .ref ms, .int (nI h), .int an, .ref mp, .int (nI em), .ref mt]), (mp, zo 4 [.ref mpk, .ref mpv, .int (nI 0)]), (mt, zi E 4 (zn stp))] wz_4 rfl (by decide) (zTs_in wk_49) tyX4 tyX4_ok nmX4 rfl rfl rfl rfl dX3_forget_5 rfl rfl (Nat.le_of_ble_eq_true rfl) rfl ?_
  refine z_aload_n 9 C0 0 dX3_forget_8 rfl rfl rfl ?_
  refine z_get 12 C0 0 7 wz_3 rfl (by decide) (zTs_in wk_129) dX3_forget_9 rfl rfl rfl ?_
  refine z_iconst 13 C0 (v := (nI 0)) dX3_forget_12 rfl rfl ?_
  refine z_callSv 16 C0 [2] [0, 1] [(m, zo 3 [.ref ma, .ref ml, .ref ms, .int (nI h), .int an, .ref mp, .int (nI em), .ref mt]), (mp, zo 4 [.ref mpk, .ref mpv, .int (nI 0)])] 0 0 (As := [.ref mt, .int (nI 0)]) (n := 2) (fill l_ E mt 4 (zn stp) (nI 0) (by omega)) (zGIS (fun _ => zTs_in) wk_253 wk_334 wk_252 wk_21) rfl ⟨by decide, by decide, by decide +kernel⟩ rfl rfl (by decide) rfl rfl (Nat.le_of_ble_eq_true rfl) ⟨by decide, by decide⟩ rfl rfl ⟨by decide, by decide⟩ ⟨by decide, by decide⟩ dX3_forget_13 rfl (fun w13 hB13 => ?_)
  obtain rfl := hB13
  refine z_perm [0, 1, 2] [(m, zo 3 [.ref ma, .ref ml, .ref ms, .int (nI h), .int an, .ref mp, .int (nI em), .ref mt]), (mp, zo 4 [.ref mpk, .ref mpv, .int (nI 0)]), (mt, zi E 4 (fun _ => (nI 0)))] (by decide) rfl ?_
  refine z_eq (L1 := [(0, .ref m)]) (st1 := []) (w1 := [(m, zo 3 [.ref ma, .ref ml, .ref ms, .int (nI h), .int an, .ref mp, .int (nI em), .ref mt]), (mp, zo 4 [.ref mpk, .ref mpv, .int (nI 0)]), (mt, zi E 4 (zn (fun _ => 0)))]) rfl rfl rfl ?_
  exact z_vret C0 rfl dX3_forget_16 rfl (by decide) (by decide)

set_option maxHeartbeats 4000000 in
set_option maxRecDepth 100000 in
theorem forget (l_ : Launch) (E : zE) (jb : Nat) (jse : Nat) (jst : Nat) (jjo : Nat) (jre : Nat) (jco : Nat) (m : Nat) (ma : Nat) (ml : Nat) (ms : Nat) (mp : Nat) (mt : Nat) (h : Nat) (an : Int32) (em : Nat) (mpk : Nat) (mpv : Nat) (n : Nat) (stp : Nat → Nat) (jok : Nat) (jov : Nat) (jn : Nat) (tk : Nat) (tv : Nat) (tn : Nat) (co : Nat → Int32) (err : Int32)  : zMv l_ E yX1_forget (zTs yX1_forget cX1_forget 2 none) ({ frames := 2, cells := 0, slots := 0, locals := 43 } : Room) [.ref jb, .int err] [(jb, zo 1 [.ref m, .ref jse, .ref jst, .ref jjo, .ref jre, .ref jco]), (m, zo 3 [.ref ma, .ref ml, .ref ms, .int (nI h), .int an, .ref mp, .int (nI em), .ref mt]), (mp, zo 4 [.ref mpk, .ref mpv, .int (nI n)]), (mt, zi E 4 (zn stp)), (jjo, zo 4 [.ref jok, .ref jov, .int (nI jn)]), (jre, zo 2 [.ref tk, .ref tv, .int (nI tn)]), (jco, zi E 8 co)] (fun w_ => (w_ = [(jb, zo 1 [.ref m, .ref jse, .ref jst, .ref jjo, .ref jre, .ref jco]), (m, zo 3 [.ref ma, .ref ml, .ref ms, .int (nI h), .int an, .ref mp, .int (nI em), .ref mt]), (mp, zo 4 [.ref mpk, .ref mpv, .int (nI 0)]), (mt, zi E 4 (zn (fun _ => 0))), (jjo, zo 4 [.ref jok, .ref jov, .int (nI 0)]), (jre, zo 2 [.ref tk, .ref tv, .int (nI 0)]), (jco, zi E 8 (upd (fun _ => (nI 0)) 0 err))])) 0 0 := by
  refine zMv.of (cc := cX1_forget) (nL := 2) (ret := none) (by decide) rfl (Nat.le_of_ble_eq_true rfl) ?_
  intro p_ e_ s_ m_ args_ below_ meth_ c_ A_ C0 hin0
  have C0 : zC E p_ s_ m_ args_ meth_ c_ cX1_forget 2 none RX1 (zTs yX1_forget cX1_forget 2 none) A_ := C0
  refine z_eqL (L1 := [(0, .ref jb), (1, .int err)]) rfl ?_
  refine z_aload_n 1 C0 0 dX1_forget_0 rfl rfl rfl ?_
  refine z_get 4 C0 0 0 wz_1 rfl (by decide) (zTs_in wk_175) dX1_forget_1 rfl rfl rfl ?_
  refine z_callVv 7 C0 [1, 2, 3] [0, 4, 5, 6] [(jb, zo 1 [.ref m, .ref jse, .ref jst, .ref jjo, .ref jre, .ref jco]), (jjo, zo 4 [.ref jok, .ref jov, .int (nI jn)]), (jre, zo 2 [.ref tk, .ref tv, .int (nI tn)]), (jco, zi E 8 co)] 0 0 (As := []) (T := TX3) (N := 8) (C := RX3) (ci := 3) (n := 0) 0 (forgetM l_ E m ma ml ms mp mt h an em mpk mpv n stp ) (zGIV (fun _ => zTs_in) wk_333 wk_330 wk_331 wk_332 wk_18) rfl ⟨rfl, by decide, by decide, by decide +kernel⟩ rfl rfl rfl rfl (by decide) rfl rfl (Nat.le_of_ble_eq_true rfl) ⟨by decide, by decide⟩ rfl rfl ⟨by decide, by decide⟩ ⟨by decide, by decide⟩ dX1_forget_4 rfl (fun w4 hB4 => ?_)
  obtain rfl := hB4
  refine z_perm [0, 4, 5, 6, 1, 2, 3] [(jb, zo 1 [.ref m, .ref jse, .ref jst, .ref jjo, .ref jre, .ref jco]), (m, zo 3 [.ref ma, .ref ml, .ref ms, .int (nI h), .int an, .ref mp, .int (nI em), .ref mt]), (mp, zo 4 [.ref mpk, .ref mpv, .int (nI 0)]), (mt, zi E 4 (zn (fun _ => 0))), (jjo, zo 4 [.ref jok, .ref jov, .int (nI jn)]), (jre, zo 2 [.ref tk, .ref tv, .int (nI tn)]), (jco, zi E 8 co)] (by decide) rfl ?_
  refine z_aload_n 8 C0 0 dX1_forget_7 rfl rfl rfl ?_
  refine z_get 11 C0 0 3 wz_1 rfl (by decide) (zTs_in wk_178) dX1_forget_8 rfl rfl rfl ?_
  refine z_iconst 12 C0 (v := (nI 0)) dX1_forget_11 rfl rfl ?_
  refine z_put 15 C0 4 2 [(jb, zo 1 [.ref m, .ref jse, .ref jst, .ref jjo, .ref jre, .ref jco]), (m, zo 3 [.ref ma, .ref ml, .ref ms, .int (nI h), .int an, .ref mp, .int (nI em), .ref mt]), (mp, zo 4 [.ref mpk, .ref mpv, .int (nI 0)]), (mt, zi E 4 (zn (fun _ => 0))), (jjo, zo 4 [.ref jok, .ref jov, .int (nI 0)]), (jre, zo 2 [.ref tk, .ref tv, .int (nI tn)]), (jco, zi E 8 co)] wz_4 rfl (by decide) (zTs_in wk_50) tyX4 tyX4_ok nmX4 rfl rfl rfl rfl dX1_forget_12 rfl rfl (Nat.le_of_ble_eq_true rfl) rfl ?_
  refine z_aload_n 16 C0 0 dX1_forget_15 rfl rfl rfl ?_
  refine z_get 19 C0 0 4 wz_1 rfl (by decide) (zTs_in wk_179) dX1_forget_16 rfl rfl rfl ?_
  refine z_iconst 20 C0 (v := (nI 0)) dX1_forget_19 rfl rfl ?_
  refine z_put 23 C0 5 2 [(jb, zo 1 [.ref m, .ref jse, .ref jst, .ref jjo, .ref jre, .ref jco]), (m, zo 3 [.ref ma, .ref ml, .ref ms, .int (nI h), .int an, .ref mp, .int (nI em), .ref mt]), (mp, zo 4 [.ref mpk, .ref mpv, .int (nI 0)]), (mt, zi E 4 (zn (fun _ => 0))), (jjo, zo 4 [.ref jok, .ref jov, .int (nI 0)]), (jre, zo 2 [.ref tk, .ref tv, .int (nI 0)]), (jco, zi E 8 co)] wz_2 rfl (by decide) (zTs_in wk_163) tyX2 tyX2_ok nmX2 rfl rfl rfl rfl dX1_forget_20 rfl rfl (Nat.le_of_ble_eq_true rfl) rfl ?_
  refine z_aload_n 24 C0 0 dX1_forget_23 rfl rfl rfl ?_
  refine z_get 27 C0 0 5 wz_1 rfl (by decide) (zTs_in wk_181) dX1_forget_24 rfl rfl rfl ?_
  refine z_iconst 28 C0 (v := (nI 0)) dX1_forget_27 rfl rfl ?_
  refine z_callSv 31 C0 [6] [0, 1, 2, 3, 4, 5] [(jb, zo 1 [.ref m, .ref jse, .ref jst, .ref jjo, .ref jre, .ref jco]), (m, zo 3 [.ref ma, .ref ml, .ref ms, .int (nI h), .int an, .ref mp, .int (nI em), .ref mt]), (mp, zo 4 [.ref mpk, .ref mpv, .int (nI 0)]), (mt, zi E 4 (zn (fun _ => 0))), (jjo, zo 4 [.ref jok, .ref jov, .int (nI 0)]), (jre, zo 2 [.ref tk, .ref tv, .int (nI 0)])] 0 0 (As := [.ref jco, .int (nI 0)]) (n := 2) (fill l_ E jco 8 co (nI 0) (by omega)) (zGIS (fun _ => zTs_in) wk_253 wk_335 wk_252 wk_21) rfl ⟨by decide, by decide, by decide +kernel⟩ rfl rfl (by decide) rfl rfl (Nat.le_of_ble_eq_true rfl) ⟨by decide, by decide⟩ rfl rfl ⟨by decide, by decide⟩ ⟨by decide, by decide⟩ dX1_forget_28 rfl (fun w28 hB28 => ?_)
  obtain rfl := hB28
  refine z_perm [0, 1, 2, 3, 4, 5, 6] [(jb, zo 1 [.ref m, .ref jse, .ref jst, .ref jjo, .ref jre, .ref jco]), (m, zo 3 [.ref ma, .ref ml, .ref ms, .int (nI h), .int an, .ref mp, .int (nI em), .ref mt]), (mp, zo 4 [.ref mpk, .ref mpv, .int (nI 0)]), (mt, zi E 4 (zn (fun _ => 0))), (jjo, zo 4 [.ref jok, .ref jov, .int (nI 0)]), (jre, zo 2 [.ref tk, .ref tv, .int (nI 0)]), (jco, zi E 8 (fun _ => (nI 0)))] (by decide) rfl ?_
  refine z_aload_n 32 C0 0 dX1_forget_31 rfl rfl rfl ?_
  refine z_get 35 C0 0 5 wz_1 rfl (by decide) (zTs_in wk_181) dX1_forget_32 rfl rfl rfl ?_
  refine z_iconst 36 C0 (v := (nI 0)) dX1_forget_35 rfl rfl ?_
  refine z_iload_n 37 C0 1 dX1_forget_36 rfl rfl rfl ?_
  refine z_iastN 38 C0 6 [(jb, zo 1 [.ref m, .ref jse, .ref jst, .ref jjo, .ref jre, .ref jco]), (m, zo 3 [.ref ma, .ref ml, .ref ms, .int (nI h), .int an, .ref mp, .int (nI em), .ref mt]), (mp, zo 4 [.ref mpk, .ref mpv, .int (nI 0)]), (mt, zi E 4 (zn (fun _ => 0))), (jjo, zo 4 [.ref jok, .ref jov, .int (nI 0)]), (jre, zo 2 [.ref tk, .ref tv, .int (nI 0)]), (jco, zi E 8 (upd (fun _ => (nI 0)) 0 err))] dX1_forget_37 rfl rfl (by omega) (by decide) rfl ?_
  exact z_vret C0 rfl dX1_forget_38 rfl (by decide) (by decide)

set_option maxHeartbeats 4000000 in
set_option maxRecDepth 100000 in
theorem mapRecords (l_ : Launch) (E : zE) (jb : Nat) (jse : Nat) (jst : Nat) (jjo : Nat) (jre : Nat) (jco : Nat) (m : Nat) (ma : Nat) (ml : Nat) (ms : Nat) (mp : Nat) (mt : Nat) (h : Nat) (an : Int32) (em : Nat) (ar : Nat → Int32) (lo : Nat → Int32) (st : Nat → Int32) (mpk : Nat) (mpv : Nat) (f : Nat → Int32) (g : Nat → Int32) (stp : Nat → Nat) (p : Nat) (po : Nat) (pn : Nat) (op : Nat → Int32) (nn : Nat → Int32) (len : Nat) (rr : Nat) (rrk : Nat) (rrv : Nat) (rf : Nat → Int32) (rg : Nat → Int32) (rn : Nat) (se : Nat → Nat) (co : Nat → Int32) (sz : Nat) (hG : Good 0 op nn len) (hlen : len ≤ 64) (hrn : rn ≤ 120) (hsz : 1 ≤ sz) (hsz2 : sz ≤ 16) (hco : co 1 = nI 0) : zMi l_ E yX1_mapRecords (zTs yX1_mapRecords cX1_mapRecords 6 (some .int)) ({ frames := 4, cells := 0, slots := 0, locals := 97 } : Room) [.ref jb, .ref p, .ref rr, .int (nI sz)] [(jb, zo 1 [.ref m, .ref jse, .ref jst, .ref jjo, .ref jre, .ref jco]), (m, zo 3 [.ref ma, .ref ml, .ref ms, .int (nI h), .int an, .ref mp, .int (nI em), .ref mt]), (ma, zi E 3 ar), (ml, zi E 4 lo), (ms, zi E 8 st), (mp, zo 4 [.ref mpk, .ref mpv, .int (nI 0)]), (mpk, zi E 600 f), (mpv, zi E 600 g), (mt, zi E 4 (zn stp)), (p, zo 5 [.int (nI 0), .ref po, .ref pn, .int (nI len)]), (po, zi E 64 op), (pn, zi E 64 nn), (rr, zo 4 [.ref rrk, .ref rrv, .int (nI rn)]), (rrk, zi E 120 rf), (rrv, zi E 120 rg), (jse, zi E 120 (zn se)), (jco, zi E 8 co)] (fun r_ w_ => ∃ h2 : Nat, ∃ an2 : Int32, ∃ em2 : Nat, ∃ ar2 : Nat → Int32, ∃ lo2 : Nat → Int32, ∃ st2 : Nat → Int32, ∃ stp2 : Nat → Nat, ∃ f2 : Nat → Int32, ∃ g2 : Nat → Int32, ∃ n2 : Nat, ∃ se2 : Nat → Nat, ∃ co2 : Nat → Int32, ∃ r2 : Int32, (r_ = r2 ∧ w_ = [(jb, zo 1 [.ref m, .ref jse, .ref jst, .ref jjo, .ref jre, .ref jco]), (m, zo 3 [.ref ma, .ref ml, .ref ms, .int (nI h2), .int an2, .ref mp, .int (nI em2), .ref mt]), (ma, zi E 3 ar2), (ml, zi E 4 lo2), (ms, zi E 8 st2), (mp, zo 4 [.ref mpk, .ref mpv, .int (nI n2)]), (mpk, zi E 600 f2), (mpv, zi E 600 g2), (mt, zi E 4 (zn stp2)), (p, zo 5 [.int (nI 0), .ref po, .ref pn, .int (nI len)]), (po, zi E 64 op), (pn, zi E 64 nn), (rr, zo 4 [.ref rrk, .ref rrv, .int (nI rn)]), (rrk, zi E 120 rf), (rrv, zi E 120 rg), (jse, zi E 120 (zn se2)), (jco, zi E 8 co2)]) ∧ (mapR op nn rf rg rn r2) ∧ (n2 ≤ 600) ∧ (r2 = -1 → f2 = rwK 600 0 f (mpP op nn rf rg rn) ∧ g2 = rwV 600 0 g (mpP op nn rf rg rn) ∧ n2 = rwN 600 0 (mpP op nn rf rg rn) ∧ stp2 = va_up stp 0 (stp 0 + mpS op nn rf rg rn) ∧ co2 = upd co 1 (nI (mpP op nn rf rg rn).length) ∧ ∀ s, s * sz < rn → se2 s = rwN 600 0 (mpP op nn rf rg (min ((s + 1) * sz) rn)))) 0 0 := by
  refine zMi.of (cc := cX1_mapRecords) (nL := 6) (ret := (some .int)) (by decide) rfl (Nat.le_of_ble_eq_true rfl) ?_
  intro p_ e_ s_ m_ args_ below_ meth_ c_ A_ C0 hin0
  have C0 : zC E p_ s_ m_ args_ meth_ c_ cX1_mapRecords 6 (some .int) RX1 (zTs yX1_mapRecords cX1_mapRecords 6 (some .int)) A_ := C0
  refine z_eqL (L1 := [(0, .ref jb), (1, .ref p), (2, .ref rr), (3, .int (nI sz))]) rfl ?_
  refine z_eq (L1 := [(0, .ref jb), (1, .ref p), (2, .ref rr), (3, .int (nI sz))]) (st1 := []) (w1 := [(jb, zo 1 [.ref m, .ref jse, .ref jst, .ref jjo, .ref jre, .ref jco]), (m, zo 3 [.ref ma, .ref ml, .ref ms, .int (nI h), .int an, .ref mp, .int (nI em), .ref mt]), (ma, zi E 3 ar), (ml, zi E 4 lo), (ms, zi E 8 st), (mp, zo 4 [.ref mpk, .ref mpv, .int (nI (rwN 600 0 (mpP op nn rf rg 0)))]), (mpk, zi E 600 (rwK 600 0 f (mpP op nn rf rg 0))), (mpv, zi E 600 (rwV 600 0 g (mpP op nn rf rg 0))), (mt, zi E 4 (zn stp)), (p, zo 5 [.int (nI 0), .ref po, .ref pn, .int (nI len)]), (po, zi E 64 op), (pn, zi E 64 nn), (rr, zo 4 [.ref rrk, .ref rrv, .int (nI rn)]), (rrk, zi E 120 rf), (rrv, zi E 120 rg), (jse, zi E 120 (zn se)), (jco, zi E 8 (upd co 1 (nI ((mpP op nn rf rg 0).length))))]) rfl rfl (by show _ = [_, _, _, _, _, (_, zo 4 [_, _, .int (nI (rwN 600 0 []))]), (_, zi E 600 (rwK 600 0 f [])), (_, zi E 600 (rwV 600 0 g [])), _, _, _, _, _, _, _, _, (_, zi E 8 (upd co 1 (nI 0)))]; rw [rwK_0, rwV_0, rwN_0 (Nat.zero_le 600), ← hco, upd_self]) ?_
  refine z_iconst 1 C0 (v := (nI 0)) dX1_mapRecords_0 rfl rfl ?_
  refine z_istore 3 C0 [1, 2, 3, 4, 0] [(0, .ref jb), (1, .ref p), (2, .ref rr), (3, .int (nI sz)), (4, .int (nI 0))] dX1_mapRecords_1 rfl (by decide) rfl ?_
  have CUT3 : ∀ (N3 : Nat) (i : Nat) (h : Nat) (an : Int32) (em : Nat) (ar : Nat → Int32) (lo : Nat → Int32) (st : Nat → Int32) (sp : Nat → Nat) (sx : Nat → Nat), (i ≤ rn) → (∀ x, x < i → (mpC op nn rf rg x).1 ≠ 0) → (sp = va_up stp 0 (stp 0 + mpS op nn rf rg i)) → (∀ s, s * sz < i → sx s = rwN 600 0 (mpP op nn rf rg (min ((s + 1) * sz) i))) → rn - i < N3 → Z E p_ l_ e_ ({ frames := 4, cells := 0, slots := 0, locals := 97 } : Room) s_ m_ args_ below_ meth_ c_ (MQ below_ (va_Qi (fun r_ w_ => ∃ h2 : Nat, ∃ an2 : Int32, ∃ em2 : Nat, ∃ ar2 : Nat → Int32, ∃ lo2 : Nat → Int32, ∃ st2 : Nat → Int32, ∃ stp2 : Nat → Nat, ∃ f2 : Nat → Int32, ∃ g2 : Nat → Int32, ∃ n2 : Nat, ∃ se2 : Nat → Nat, ∃ co2 : Nat → Int32, ∃ r2 : Int32, (r_ = r2 ∧ w_ = [(jb, zo 1 [.ref m, .ref jse, .ref jst, .ref jjo, .ref jre, .ref jco]), (m, zo 3 [.ref ma, .ref ml, .ref ms, .int (nI h2), .int an2, .ref mp, .int (nI em2), .ref mt]), (ma, zi E 3 ar2), (ml, zi E 4 lo2), (ms, zi E 8 st2), (mp, zo 4 [.ref mpk, .ref mpv, .int (nI n2)]), (mpk, zi E 600 f2), (mpv, zi E 600 g2), (mt, zi E 4 (zn stp2)), (p, zo 5 [.int (nI 0), .ref po, .ref pn, .int (nI len)]), (po, zi E 64 op), (pn, zi E 64 nn), (rr, zo 4 [.ref rrk, .ref rrv, .int (nI rn)]), (rrk, zi E 120 rf), (rrv, zi E 120 rg), (jse, zi E 120 (zn se2)), (jco, zi E 8 co2)]) ∧ (mapR op nn rf rg rn r2) ∧ (n2 ≤ 600) ∧ (r2 = -1 → f2 = rwK 600 0 f (mpP op nn rf rg rn) ∧ g2 = rwV 600 0 g (mpP op nn rf rg rn) ∧ n2 = rwN 600 0 (mpP op nn rf rg rn) ∧ stp2 = va_up stp 0 (stp 0 + mpS op nn rf rg rn) ∧ co2 = upd co 1 (nI (mpP op nn rf rg rn).length) ∧ ∀ s, s * sz < rn → se2 s = rwN 600 0 (mpP op nn rf rg (min ((s + 1) * sz) rn)))) (zPost E A_) A_) args_ s_ 0 0 A_) A_ 6 3 [(0, .ref jb), (1, .ref p), (2, .ref rr), (3, .int (nI sz)), (4, .int (nI i))] [] [(jb, zo 1 [.ref m, .ref jse, .ref jst, .ref jjo, .ref jre, .ref jco]), (m, zo 3 [.ref ma, .ref ml, .ref ms, .int (nI h), .int an, .ref mp, .int (nI em), .ref mt]), (ma, zi E 3 ar), (ml, zi E 4 lo), (ms, zi E 8 st), (mp, zo 4 [.ref mpk, .ref mpv, .int (nI (rwN 600 0 (mpP op nn rf rg i)))]), (mpk, zi E 600 (rwK 600 0 f (mpP op nn rf rg i))), (mpv, zi E 600 (rwV 600 0 g (mpP op nn rf rg i))), (mt, zi E 4 (zn sp)), (p, zo 5 [.int (nI 0), .ref po, .ref pn, .int (nI len)]), (po, zi E 64 op), (pn, zi E 64 nn), (rr, zo 4 [.ref rrk, .ref rrv, .int (nI rn)]), (rrk, zi E 120 rf), (rrv, zi E 120 rg), (jse, zi E 120 (zn sx)), (jco, zi E 8 (upd co 1 (nI ((mpP op nn rf rg i).length))))] 0 0 := by
    intro N3
    induction N3 with
    | zero => intro i h an em ar lo st sp sx hi hok hsp hsx hm3; exact absurd hm3 (Nat.not_lt_zero _)
    | succ N3 ih3 =>
      intro i h an em ar lo st sp sx hi hok hsp hsx hm3
      refine z_iload 5 C0 4 dX1_mapRecords_3 rfl rfl ?_
      refine z_aload_n 6 C0 2 dX1_mapRecords_5 rfl rfl rfl ?_
      refine z_get 9 C0 12 2 wz_4 rfl (by decide) (zTs_in wk_50) dX1_mapRecords_6 rfl rfl rfl ?_
      refine z_icmp_geN 12 86 C0 (by omega) (by omega) dX1_mapRecords_9 rfl (by decide) (fun k9 => ?_) (fun k9 => ?_)
      · skip
        have hpl := mp_len_le op nn rf rg i
        refine z_aload_n 87 C0 0 dX1_mapRecords_86 rfl rfl rfl ?_
        refine z_get 90 C0 0 5 wz_1 rfl (by decide) (zTs_in wk_181) dX1_mapRecords_87 rfl rfl rfl ?_
        refine z_iconst 91 C0 (v := (nI 1)) dX1_mapRecords_90 rfl rfl ?_
        refine z_ialdN 92 C0 16 (v := (nI ((mpP op nn rf rg i).length))) dX1_mapRecords_91 rfl rfl (by omega) (by decide) rfl ?_
        refine z_sipush 95 C0 (v := (nI 600)) dX1_mapRecords_92 rfl rfl ?_
        refine z_icmp_leN 98 104 C0 (by omega) (by decide) dX1_mapRecords_95 rfl (by decide) (fun k95 => ?_) (fun k95 => ?_)
        · skip
          refine z_iconst 105 C0 (v := (-1)) dX1_mapRecords_104 rfl (by decide) ?_
          obtain rfl : rn = i := by omega
          exact z_iret C0 rfl dX1_mapRecords_105 ⟨h, an, em, ar, lo, st, sp, (rwK 600 0 f (mpP op nn rf rg rn)), (rwV 600 0 g (mpP op nn rf rg rn)), (rwN 600 0 (mpP op nn rf rg rn)), sx, (upd co 1 (nI ((mpP op nn rf rg rn).length))), (-1), ⟨rfl, rfl⟩, (Or.inr (Or.inr ⟨hok, k95, rfl⟩)), (rwN_le (Nat.zero_le 600)), (fun _ => ⟨rfl, rfl, rfl, hsp, rfl, hsx⟩)⟩ (by decide) (by decide)
        · skip
          refine z_sipush 101 C0 (v := (nI 4000)) dX1_mapRecords_98 rfl rfl ?_
          refine z_goto 105 C0 dX1_mapRecords_101 (by decide) ?_
          exact z_iret C0 rfl dX1_mapRecords_105 ⟨h, an, em, ar, lo, st, sp, (rwK 600 0 f (mpP op nn rf rg i)), (rwV 600 0 g (mpP op nn rf rg i)), (rwN 600 0 (mpP op nn rf rg i)), sx, (upd co 1 (nI ((mpP op nn rf rg i).length))), (nI 4000), ⟨rfl, rfl⟩, (Or.inr (Or.inl ⟨fun x hx => hok x (by omega), by rw [show rn = i by omega]; exact k95, rfl⟩)), (rwN_le (Nat.zero_le 600)), (fun q => absurd q (nI_neg1 (by omega)))⟩ (by decide) (by decide)
      · skip
        refine z_aload_n 13 C0 0 dX1_mapRecords_12 rfl rfl rfl ?_
        refine z_get 16 C0 0 0 wz_1 rfl (by decide) (zTs_in wk_175) dX1_mapRecords_13 rfl rfl rfl ?_
        refine z_aload_n 17 C0 1 dX1_mapRecords_16 rfl rfl rfl ?_
        refine z_aload_n 18 C0 2 dX1_mapRecords_17 rfl rfl rfl ?_
        refine z_get 21 C0 12 0 wz_4 rfl (by decide) (zTs_in wk_45) dX1_mapRecords_18 rfl rfl rfl ?_
        refine z_iload 23 C0 4 dX1_mapRecords_21 rfl rfl ?_
        refine z_ialdN 24 C0 13 (v := (rf i)) dX1_mapRecords_23 rfl rfl (by omega) (by decide) rfl ?_
        refine z_aload_n 25 C0 2 dX1_mapRecords_24 rfl rfl rfl ?_
        refine z_get 28 C0 12 1 wz_4 rfl (by decide) (zTs_in wk_47) dX1_mapRecords_25 rfl rfl rfl ?_
        refine z_iload 30 C0 4 dX1_mapRecords_28 rfl rfl ?_
        refine z_ialdN 31 C0 14 (v := (rg i)) dX1_mapRecords_30 rfl rfl (by omega) (by decide) rfl ?_
        refine z_iconst 32 C0 (v := (nI 0)) dX1_mapRecords_31 rfl rfl ?_
        refine z_callVi 35 C0 [1, 2, 3, 4, 5, 6, 7, 8, 9, 10, 11] [0, 12, 13, 14, 15, 16] [(jb, zo 1 [.ref m, .ref jse, .ref jst, .ref jjo, .ref jre, .ref jco]), (rr, zo 4 [.ref rrk, .ref rrv, .int (nI rn)]), (rrk, zi E 120 rf), (rrv, zi E 120 rg), (jse, zi E 120 (zn sx)), (jco, zi E 8 (upd co 1 (nI ((mpP op nn rf rg i).length))))] 0 0 (As := [.ref p, .int (rf i), .int (rg i), .int (nI 0)]) (T := TX3) (N := 8) (C := RX3) (ci := 3) (n := 4) 0 (call l_ E m ma ml ms mp mt h an em ar lo st mpk mpv (rwK 600 0 f (mpP op nn rf rg i)) (rwV 600 0 g (mpP op nn rf rg i)) (rwN 600 0 (mpP op nn rf rg i)) sp p po pn 0 op nn len (rf i) (rg i) (nI 0) (hG) (by decide) (hlen) (rwN_le (Nat.zero_le 600))) (zGIV (fun _ => zTs_in) wk_343 wk_340 wk_341 wk_342 wk_18) rfl ⟨rfl, by decide, by decide, by decide +kernel⟩ rfl rfl rfl rfl (by decide) rfl rfl (Nat.le_of_ble_eq_true rfl) ⟨by decide, by decide⟩ rfl rfl ⟨by decide, by decide⟩ ⟨by decide, by decide⟩ dX1_mapRecords_32 rfl (fun r32 w32 hB32 => ?_)
        obtain ⟨h2_32, an2_32, ar2_32, lo2_32, st2_32, ⟨rfl, rfl⟩, fh_32, fa_32⟩ := hB32
        refine z_perm [0, 6, 7, 8, 9, 10, 11, 12, 13, 14, 15, 16, 1, 2, 3, 4, 5] [(jb, zo 1 [.ref m, .ref jse, .ref jst, .ref jjo, .ref jre, .ref jco]), (m, zo 3 [.ref ma, .ref ml, .ref ms, .int (nI h2_32), .int an2_32, .ref mp, .int (nI ((callR op nn (rf i) (rg i) (nI 0)).2.2.2.length)), .ref mt]), (ma, zi E 3 ar2_32), (ml, zi E 4 lo2_32), (ms, zi E 8 st2_32), (mp, zo 4 [.ref mpk, .ref mpv, .int (nI (rwN 600 (rwN 600 0 (mpP op nn rf rg i)) (callR op nn (rf i) (rg i) (nI 0)).2.2.2))]), (mpk, zi E 600 (rwK 600 (rwN 600 0 (mpP op nn rf rg i)) (rwK 600 0 f (mpP op nn rf rg i)) (callR op nn (rf i) (rg i) (nI 0)).2.2.2)), (mpv, zi E 600 (rwV 600 (rwN 600 0 (mpP op nn rf rg i)) (rwV 600 0 g (mpP op nn rf rg i)) (callR op nn (rf i) (rg i) (nI 0)).2.2.2)), (mt, zi E 4 (zn (stpU sp 0 (callR op nn (rf i) (rg i) (nI 0))))), (p, zo 5 [.int (nI 0), .ref po, .ref pn, .int (nI len)]), (po, zi E 64 op), (pn, zi E 64 nn), (rr, zo 4 [.ref rrk, .ref rrv, .int (nI rn)]), (rrk, zi E 120 rf), (rrv, zi E 120 rg), (jse, zi E 120 (zn sx)), (jco, zi E 8 (upd co 1 (nI ((mpP op nn rf rg i).length))))] (by decide) rfl ?_
        refine z_eq (L1 := [(0, .ref jb), (1, .ref p), (2, .ref rr), (3, .int (nI sz)), (4, .int (nI i))]) (st1 := [.int (nI ((callR op nn (rf i) (rg i) (nI 0)).1))]) (w1 := [(jb, zo 1 [.ref m, .ref jse, .ref jst, .ref jjo, .ref jre, .ref jco]), (m, zo 3 [.ref ma, .ref ml, .ref ms, .int (nI h2_32), .int an2_32, .ref mp, .int (nI ((callR op nn (rf i) (rg i) (nI 0)).2.2.2.length)), .ref mt]), (ma, zi E 3 ar2_32), (ml, zi E 4 lo2_32), (ms, zi E 8 st2_32), (mp, zo 4 [.ref mpk, .ref mpv, .int (nI (rwN 600 0 (mpP op nn rf rg (i + 1))))]), (mpk, zi E 600 (rwK 600 0 f (mpP op nn rf rg (i + 1)))), (mpv, zi E 600 (rwV 600 0 g (mpP op nn rf rg (i + 1)))), (mt, zi E 4 (zn (stpU sp 0 (callR op nn (rf i) (rg i) (nI 0))))), (p, zo 5 [.int (nI 0), .ref po, .ref pn, .int (nI len)]), (po, zi E 64 op), (pn, zi E 64 nn), (rr, zo 4 [.ref rrk, .ref rrv, .int (nI rn)]), (rrk, zi E 120 rf), (rrv, zi E 120 rg), (jse, zi E 120 (zn sx)), (jco, zi E 8 (upd co 1 (nI ((mpP op nn rf rg i).length))))]) rfl rfl (by rw [rwK_app (Nat.zero_le 600), rwV_app (Nat.zero_le 600), rwN_app (Nat.zero_le 600)]; rfl) ?_
        refine z_istore 37 C0 [1, 2, 3, 4, 5, 0] [(0, .ref jb), (1, .ref p), (2, .ref rr), (3, .int (nI sz)), (4, .int (nI i)), (5, .int (nI ((callR op nn (rf i) (rg i) (nI 0)).1)))] dX1_mapRecords_35 rfl (by decide) rfl ?_
        have hle := callR_le op nn (rf i) (rg i) (nI 0)
        refine z_iload 39 C0 5 dX1_mapRecords_37 rfl rfl ?_
        refine z_if_neN 42 45 C0 (by omega) dX1_mapRecords_39 rfl (by decide) (fun k39 => ?_) (fun k39 => ?_)
        · skip
          refine z_aload_n 46 C0 0 dX1_mapRecords_45 rfl rfl rfl ?_
          refine z_get 49 C0 0 5 wz_1 rfl (by decide) (zTs_in wk_181) dX1_mapRecords_46 rfl rfl rfl ?_
          refine z_iconst 50 C0 (v := (nI 1)) dX1_mapRecords_49 rfl rfl ?_
          refine z_dup2 51 C0 dX1_mapRecords_50 rfl rfl rfl ?_
          refine z_ialdN 52 C0 16 (v := (nI ((mpP op nn rf rg i).length))) dX1_mapRecords_51 rfl rfl (by omega) (by decide) rfl ?_
          refine z_aload_n 53 C0 0 dX1_mapRecords_52 rfl rfl rfl ?_
          refine z_get 56 C0 0 0 wz_1 rfl (by decide) (zTs_in wk_175) dX1_mapRecords_53 rfl rfl rfl ?_
          refine z_get 59 C0 1 6 wz_3 rfl (by decide) (zTs_in wk_128) dX1_mapRecords_56 rfl rfl rfl ?_
          refine z_iadd 60 C0 (v := (nI ((mpP op nn rf rg (i + 1)).length))) dX1_mapRecords_59 rfl (mp_len _ _ _ _ _) ?_
          refine z_iastN 61 C0 16 [(jb, zo 1 [.ref m, .ref jse, .ref jst, .ref jjo, .ref jre, .ref jco]), (m, zo 3 [.ref ma, .ref ml, .ref ms, .int (nI h2_32), .int an2_32, .ref mp, .int (nI ((callR op nn (rf i) (rg i) (nI 0)).2.2.2.length)), .ref mt]), (ma, zi E 3 ar2_32), (ml, zi E 4 lo2_32), (ms, zi E 8 st2_32), (mp, zo 4 [.ref mpk, .ref mpv, .int (nI (rwN 600 0 (mpP op nn rf rg (i + 1))))]), (mpk, zi E 600 (rwK 600 0 f (mpP op nn rf rg (i + 1)))), (mpv, zi E 600 (rwV 600 0 g (mpP op nn rf rg (i + 1)))), (mt, zi E 4 (zn (stpU sp 0 (callR op nn (rf i) (rg i) (nI 0))))), (p, zo 5 [.int (nI 0), .ref po, .ref pn, .int (nI len)]), (po, zi E 64 op), (pn, zi E 64 nn), (rr, zo 4 [.ref rrk, .ref rrv, .int (nI rn)]), (rrk, zi E 120 rf), (rrv, zi E 120 rg), (jse, zi E 120 (zn sx)), (jco, zi E 8 (upd co 1 (nI ((mpP op nn rf rg (i + 1)).length))))] dX1_mapRecords_60 rfl rfl (by omega) (by decide) (by rw [upd_upd]; rfl) ?_
          refine z_aload_n 62 C0 0 dX1_mapRecords_61 rfl rfl rfl ?_
          refine z_get 65 C0 0 1 wz_1 rfl (by decide) (zTs_in wk_176) dX1_mapRecords_62 rfl rfl rfl ?_
          refine z_iload 67 C0 4 dX1_mapRecords_65 rfl rfl ?_
          refine z_iload_n 68 C0 3 dX1_mapRecords_67 rfl rfl rfl ?_
          refine z_idiv 69 C0 (v := (nI (i / sz))) dX1_mapRecords_68 rfl (nI_ne0 (by omega) (by omega)) (pk_div (by omega) (by omega) (by omega)) ?_
          refine z_aload_n 70 C0 0 dX1_mapRecords_69 rfl rfl rfl ?_
          refine z_get 73 C0 0 0 wz_1 rfl (by decide) (zTs_in wk_175) dX1_mapRecords_70 rfl rfl rfl ?_
          refine z_get 76 C0 1 5 wz_3 rfl (by decide) (zTs_in wk_126) dX1_mapRecords_73 rfl rfl rfl ?_
          refine z_get 79 C0 5 2 wz_4 rfl (by decide) (zTs_in wk_50) dX1_mapRecords_76 rfl rfl rfl ?_
          refine z_iastN 80 C0 15 [(jb, zo 1 [.ref m, .ref jse, .ref jst, .ref jjo, .ref jre, .ref jco]), (m, zo 3 [.ref ma, .ref ml, .ref ms, .int (nI h2_32), .int an2_32, .ref mp, .int (nI ((callR op nn (rf i) (rg i) (nI 0)).2.2.2.length)), .ref mt]), (ma, zi E 3 ar2_32), (ml, zi E 4 lo2_32), (ms, zi E 8 st2_32), (mp, zo 4 [.ref mpk, .ref mpv, .int (nI (rwN 600 0 (mpP op nn rf rg (i + 1))))]), (mpk, zi E 600 (rwK 600 0 f (mpP op nn rf rg (i + 1)))), (mpv, zi E 600 (rwV 600 0 g (mpP op nn rf rg (i + 1)))), (mt, zi E 4 (zn (stpU sp 0 (callR op nn (rf i) (rg i) (nI 0))))), (p, zo 5 [.int (nI 0), .ref po, .ref pn, .int (nI len)]), (po, zi E 64 op), (pn, zi E 64 nn), (rr, zo 4 [.ref rrk, .ref rrv, .int (nI rn)]), (rrk, zi E 120 rf), (rrv, zi E 120 rg), (jse, zi E 120 (zn (va_up sx (i / sz) (rwN 600 0 (mpP op nn rf rg (i + 1)))))), (jco, zi E 8 (upd co 1 (nI ((mpP op nn rf rg (i + 1)).length))))] dX1_mapRecords_79 rfl rfl (by have : i / sz ≤ i := Nat.div_le_self i sz; omega) (by decide) (by rw [z_upN]; rfl) ?_
          refine z_iinc 83 C0 4 [1, 2, 3, 4, 0, 5] [(0, .ref jb), (1, .ref p), (2, .ref rr), (3, .int (nI sz)), (4, .int (nI (i + 1))), (5, .int (nI ((callR op nn (rf i) (rg i) (nI 0)).1)))] (v := (nI (i + 1))) dX1_mapRecords_80 rfl rfl (z_incN _ _) (by decide) rfl ?_
          refine z_goto 3 C0 dX1_mapRecords_83 (by decide) ?_
          refine z_loc [0, 1, 2, 3, 4] [(0, .ref jb), (1, .ref p), (2, .ref rr), (3, .int (nI sz)), (4, .int (nI (i + 1)))] rfl ?_
          exact ih3 (i + 1) h2_32 an2_32 ((callR op nn (rf i) (rg i) (nI 0)).2.2.2.length) ar2_32 lo2_32 st2_32 (stpU sp 0 (callR op nn (rf i) (rg i) (nI 0))) (va_up sx (i / sz) (rwN 600 0 (mpP op nn rf rg (i + 1)))) (by omega) (fun x hx => by rcases Nat.lt_or_ge x i with q | q; exact hok x q; rw [show x = i by omega]; exact k39) (by unfold stpU; rw [if_neg k39, hsp]; exact z_up_add _ _ _ _) (mp_split hsz hsx) (by omega)
        · skip
          refine z_iload 44 C0 4 dX1_mapRecords_42 rfl rfl ?_
          exact z_iret C0 rfl dX1_mapRecords_44 ⟨h2_32, an2_32, ((mpC op nn rf rg i).2.2.2.length), ar2_32, lo2_32, st2_32, (stpU sp 0 (mpC op nn rf rg i)), (rwK 600 0 f (mpP op nn rf rg (i + 1))), (rwV 600 0 g (mpP op nn rf rg (i + 1))), (rwN 600 0 (mpP op nn rf rg (i + 1))), sx, (upd co 1 (nI ((mpP op nn rf rg i).length))), (nI i), ⟨rfl, rfl⟩, (Or.inl ⟨i, by omega, k39, hok, rfl⟩), (rwN_le (Nat.zero_le 600)), (fun q => absurd q (nI_neg1 (by omega)))⟩ (by decide) (by decide)
  exact CUT3 (rn - 0 + 1) 0 h an em ar lo st stp se (Nat.zero_le _) (fun x hx => absurd hx (Nat.not_lt_zero x)) (z_up_self _ _).symm (fun s hs => absurd hs (Nat.not_lt_zero _)) (Nat.lt_succ_self _)
end
section
theorem tab_snoc {f g : Nat → Int32} {i c : Nat} : tab f g i (c + 1) = tab f g i c ++ [(f (i + c), g (i + c))] := by
  unfold tab
  rw [List.range'_concat, List.map_append, List.map_singleton, Nat.one_mul]
theorem tab_len {f g : Nat → Int32} {i c : Nat} : (tab f g i c).length = c := by unfold tab; rw [List.length_map, List.length_range']
/-- where a split's pairs begin -/
def sst (se : Nat → Nat) : Nat → Nat
  | 0 => 0
  | s + 1 => se s
theorem sst_le {se : Nat → Nat} : ∀ {s : Nat}, (∀ x, x < s → se x ≤ 600) → sst se s ≤ 600
  | 0, _ => Nat.zero_le _
  | s + 1, h => h s (Nat.lt_succ_self s)
def sok (F : Int32 → Int32 → Int32 → Option (Int32 × Nat)) (f g : Nat → Int32) (se : Nat → Nat) (s : Nat) : Prop := mgL F (tab f g (sst se s) (se s - sst se s)) (fun _ => none, 0) ≠ none
/-- a map's rows, by rising keys -/
def tblL (M : mapT) (L : List (Int32 × Int32)) : Prop := ∃ n kf vf, tbl n kf vf M ∧ L = tab kf vf 0 n
/-- what is joined out of the first splits, and the steps -/
def jnR (F : Int32 → Int32 → Int32 → Option (Int32 × Nat)) (f g : Nat → Int32) (se : Nat → Nat) : Nat → List (Int32 × Int32) → Nat → Prop
  | 0, J, t => J = [] ∧ t = 0
  | s + 1, J, t => ∃ J0 t0 M t1 L, jnR F f g se s J0 t0 ∧ mgL F (tab f g (sst se s) (se s - sst se s)) (fun _ => none, 0) = some (M, t1) ∧ tblL M L ∧ J = J0 ++ L ∧ t = t0 + t1
def joinR (F : Int32 → Int32 → Int32 → Option (Int32 × Nat)) (f g : Nat → Int32) (se : Nat → Nat) (spl : Nat) (r : Int32) : Prop :=
  (∃ s, s < spl ∧ ¬ sok F f g se s ∧ (∀ x, x < s → sok F f g se x) ∧ r = nI (1000 + s)) ∨ ((∀ x, x < spl → sok F f g se x) ∧ r = -1)
def fldR (o : Option (mapT × Nat)) : Int32 := match o with
  | none => nI 2000
  | some _ => -1
/-- the calls of END, by place -/
def enC (op nn kf vf : Nat → Int32) (i : Nat) : aT := callR op nn (kf i) (vf i) (nI 0)
def enK (op nn kf vf : Nat → Int32) : Nat → List (Int32 × Int32)
  | 0 => []
  | i + 1 => enK op nn kf vf i ++ (if (enC op nn kf vf i).1 = 1 then [(kf i, (enC op nn kf vf i).2.1)] else [])
def enS (op nn kf vf : Nat → Int32) : Nat → Nat
  | 0 => 0
  | i + 1 => enS op nn kf vf i + (enC op nn kf vf i).2.2.1
def endR (op nn kf vf : Nat → Int32) (n : Nat) (r : Int32) : Prop := (∃ i, i < n ∧ (enC op nn kf vf i).1 = 0 ∧ r = nI 3000) ∨ ((∀ x, x < n → (enC op nn kf vf x).1 ≠ 0) ∧ r = -1)
theorem enK_take {op nn kf vf : Nat → Int32} {i : Nat} (h : (enC op nn kf vf i).1 = 1) : enK op nn kf vf (i + 1) = enK op nn kf vf i ++ [(kf i, (enC op nn kf vf i).2.1)] := by
  show enK op nn kf vf i ++ (if (enC op nn kf vf i).1 = 1 then _ else _) = _
  rw [if_pos h]
theorem enK_skip {op nn kf vf : Nat → Int32} {i : Nat} (h : (enC op nn kf vf i).1 ≠ 1) : enK op nn kf vf (i + 1) = enK op nn kf vf i := by
  show enK op nn kf vf i ++ (if (enC op nn kf vf i).1 = 1 then _ else _) = _
  rw [if_neg h, List.append_nil]
theorem enK_len (op nn kf vf : Nat → Int32) (i : Nat) : (enK op nn kf vf i).length ≤ i := by
  induction i with
  | zero => exact Nat.le_refl 0
  | succ i ih =>
    by_cases h : (enC op nn kf vf i).1 = 1
    · rw [enK_take h, List.length_append, List.length_singleton]; omega
    · rw [enK_skip h]; omega
theorem en_upd {f : Nat → Int32} {k j : Nat} {x : Int32} (h : k ≠ j) : upd f k x j = f j := if_neg (fun q => h q.symm)
theorem en_put {op nn kf vf kx vx : Nat → Int32} {i : Nat} {a : Int32} (_ : (enK op nn kf vf i).length < 600) (hA : ∀ j, j < (enK op nn kf vf i).length → (kx j, vx j) = (enK op nn kf vf i).getD j (0, 0)) (hk : kx i = kf i) (h1 : (enC op nn kf vf i).1 = 1) (ha : a = (enC op nn kf vf i).2.1) :
    ∀ j, j < (enK op nn kf vf (i + 1)).length → (upd kx (enK op nn kf vf i).length (kx i) j, upd vx (enK op nn kf vf i).length a j) = (enK op nn kf vf (i + 1)).getD j (0, 0) := by
  intro j hj
  rw [enK_take h1, List.length_append, List.length_singleton] at hj
  rw [enK_take h1, getD_snoc hj]
  by_cases e : j < (enK op nn kf vf i).length
  · rw [if_pos e, en_upd (by omega), en_upd (by omega)]
    exact hA j e
  · obtain rfl : j = (enK op nn kf vf i).length := by omega
    rw [if_neg e]
    show (if _ = _ then kx i else _, if _ = _ then a else _) = _
    rw [if_pos rfl, if_pos rfl, hk, ha]
set_option maxHeartbeats 4000000 in
set_option maxRecDepth 100000 in
theorem appendAll (l_ : Launch) (E : zE) (r : Nat) (rk : Nat) (rv : Nat) (f : Nat → Int32) (g : Nat → Int32) (n : Nat) (t : Nat) (tk : Nat) (tv : Nat) (kf : Nat → Int32) (vf : Nat → Int32) (tn : Nat) (hn : n + tn ≤ 600) : zMv l_ E yX4_appendAll (zTs yX4_appendAll cX4_appendAll 3 none) ({ frames := 1, cells := 0, slots := 0, locals := 22 } : Room) [.ref r, .ref t] [(r, zo 4 [.ref rk, .ref rv, .int (nI n)]), (rk, zi E 600 f), (rv, zi E 600 g), (t, zo 2 [.ref tk, .ref tv, .int (nI tn)]), (tk, zi E 600 kf), (tv, zi E 600 vf)] (fun w_ => (w_ = [(r, zo 4 [.ref rk, .ref rv, .int (nI (rwN 600 n (tab kf vf 0 tn)))]), (rk, zi E 600 (rwK 600 n f (tab kf vf 0 tn))), (rv, zi E 600 (rwV 600 n g (tab kf vf 0 tn))), (t, zo 2 [.ref tk, .ref tv, .int (nI tn)]), (tk, zi E 600 kf), (tv, zi E 600 vf)])) 0 0 := by
  refine zMv.of (cc := cX4_appendAll) (nL := 3) (ret := none) (by decide) rfl (Nat.le_of_ble_eq_true rfl) ?_
  intro p_ e_ s_ m_ args_ below_ meth_ c_ A_ C0 hin0
  have C0 : zC E p_ s_ m_ args_ meth_ c_ cX4_appendAll 3 none RX4 (zTs yX4_appendAll cX4_appendAll 3 none) A_ := C0
  refine z_eqL (L1 := [(0, .ref r), (1, .ref t)]) rfl ?_
  refine z_iconst 1 C0 (v := (nI 0)) dX4_appendAll_0 rfl rfl ?_
  refine z_eq (L1 := [(0, .ref r), (1, .ref t)]) (st1 := [.int (nI 0)]) (w1 := [(r, zo 4 [.ref rk, .ref rv, .int (nI (rwN 600 n (tab kf vf 0 0)))]), (rk, zi E 600 (rwK 600 n f (tab kf vf 0 0))), (rv, zi E 600 (rwV 600 n g (tab kf vf 0 0))), (t, zo 2 [.ref tk, .ref tv, .int (nI tn)]), (tk, zi E 600 kf), (tv, zi E 600 vf)]) rfl rfl (by rw [tab_0, rwK_0, rwV_0, rwN_0 (by omega)]) ?_
  refine z_istore_n 2 C0 [1, 2, 0] [(0, .ref r), (1, .ref t), (2, .int (nI 0))] dX4_appendAll_1 rfl rfl (by decide) rfl ?_
  have CUT2 : ∀ (N2 : Nat) (i : Nat), (i ≤ tn) → tn - i < N2 → Z E p_ l_ e_ ({ frames := 1, cells := 0, slots := 0, locals := 22 } : Room) s_ m_ args_ below_ meth_ c_ (MQ below_ (va_Qv (fun w_ => (w_ = [(r, zo 4 [.ref rk, .ref rv, .int (nI (rwN 600 n (tab kf vf 0 tn)))]), (rk, zi E 600 (rwK 600 n f (tab kf vf 0 tn))), (rv, zi E 600 (rwV 600 n g (tab kf vf 0 tn))), (t, zo 2 [.ref tk, .ref tv, .int (nI tn)]), (tk, zi E 600 kf), (tv, zi E 600 vf)])) (zPost E A_) A_) args_ s_ 0 0 A_) A_ 3 2 [(0, .ref r), (1, .ref t), (2, .int (nI i))] [] [(r, zo 4 [.ref rk, .ref rv, .int (nI (rwN 600 n (tab kf vf 0 i)))]), (rk, zi E 600 (rwK 600 n f (tab kf vf 0 i))), (rv, zi E 600 (rwV 600 n g (tab kf vf 0 i))), (t, zo 2 [.ref tk, .ref tv, .int (nI tn)]), (tk, zi E 600 kf), (tv, zi E 600 vf)] 0 0 := by
    intro N2
    induction N2 with
    | zero => intro i hi hm2; exact absurd hm2 (Nat.not_lt_zero _)
    | succ N2 ih2 =>
      intro i hi hm2
      refine z_iload_n 3 C0 2 dX4_appendAll_2 rfl rfl rfl ?_
      refine z_aload_n 4 C0 1 dX4_appendAll_3 rfl rfl rfl ?_
      refine z_get 7 C0 3 2 wz_2 rfl (by decide) (zTs_in wk_164) dX4_appendAll_4 rfl rfl rfl ?_
      refine z_icmp_geN 10 33 C0 (by omega) (by omega) dX4_appendAll_7 rfl (by decide) (fun k7 => ?_) (fun k7 => ?_)
      · skip
        obtain rfl : i = tn := by omega
        exact z_vret C0 rfl dX4_appendAll_33 rfl (by decide) (by decide)
      · skip
        refine z_aload_n 11 C0 0 dX4_appendAll_10 rfl rfl rfl ?_
        refine z_aload_n 12 C0 1 dX4_appendAll_11 rfl rfl rfl ?_
        refine z_get 15 C0 3 0 wz_2 rfl (by decide) (zTs_in wk_155) dX4_appendAll_12 rfl rfl rfl ?_
        refine z_iload_n 16 C0 2 dX4_appendAll_15 rfl rfl rfl ?_
        refine z_ialdN 17 C0 4 (v := (kf i)) dX4_appendAll_16 rfl rfl (by omega) (by decide) rfl ?_
        refine z_aload_n 18 C0 1 dX4_appendAll_17 rfl rfl rfl ?_
        refine z_get 21 C0 3 1 wz_2 rfl (by decide) (zTs_in wk_159) dX4_appendAll_18 rfl rfl rfl ?_
        refine z_iload_n 22 C0 2 dX4_appendAll_21 rfl rfl rfl ?_
        refine z_ialdN 23 C0 5 (v := (vf i)) dX4_appendAll_22 rfl rfl (by omega) (by decide) rfl ?_
        refine z_callVi 26 C0 [0, 1, 2] [3, 4, 5] [(t, zo 2 [.ref tk, .ref tv, .int (nI tn)]), (tk, zi E 600 kf), (tv, zi E 600 vf)] 0 0 (As := [.int (kf i), .int (vf i)]) (T := TX4) (N := 3) (C := RX4) (ci := 4) (n := 2) 0 (rappend l_ E r rk rv (rwK 600 n f (tab kf vf 0 i)) (rwV 600 n g (tab kf vf 0 i)) (rwN 600 n (tab kf vf 0 i)) 600 (kf i) (vf i) (rwN_le (by omega)) (Nat.le_refl _)) (zGIV (fun _ => zTs_in) wk_219 wk_412 wk_217 wk_218 wk_14) rfl ⟨rfl, by decide, by decide, by decide +kernel⟩ rfl rfl rfl rfl (by decide) rfl rfl (Nat.le_of_ble_eq_true rfl) ⟨by decide, by decide⟩ rfl rfl ⟨by decide, by decide⟩ ⟨by decide, by decide⟩ dX4_appendAll_23 rfl (fun r23 w23 hB23 => ?_)
        obtain ⟨rfl, rfl⟩ := hB23
        refine z_perm [3, 4, 5, 0, 1, 2] [(r, zo 4 [.ref rk, .ref rv, .int (nI (capN 600 (rwN 600 n (tab kf vf 0 i))))]), (rk, zi E 600 (capU 600 (rwN 600 n (tab kf vf 0 i)) (rwK 600 n f (tab kf vf 0 i)) (kf i))), (rv, zi E 600 (capU 600 (rwN 600 n (tab kf vf 0 i)) (rwV 600 n g (tab kf vf 0 i)) (vf i))), (t, zo 2 [.ref tk, .ref tv, .int (nI tn)]), (tk, zi E 600 kf), (tv, zi E 600 vf)] (by decide) rfl ?_
        refine z_eq (L1 := [(0, .ref r), (1, .ref t), (2, .int (nI i))]) (st1 := [.int (zb ((rwN 600 n (tab kf vf 0 i)) < 600))]) (w1 := [(r, zo 4 [.ref rk, .ref rv, .int (nI (rwN 600 n (tab kf vf 0 (i + 1))))]), (rk, zi E 600 (rwK 600 n f (tab kf vf 0 (i + 1)))), (rv, zi E 600 (rwV 600 n g (tab kf vf 0 (i + 1)))), (t, zo 2 [.ref tk, .ref tv, .int (nI tn)]), (tk, zi E 600 kf), (tv, zi E 600 vf)]) rfl rfl (by rw [tab_snoc, Nat.zero_add, rwK_s (by omega), rwV_s (by omega), rwN_s (by omega)]) ?_
        refine z_pop 27 C0 dX4_appendAll_26 rfl rfl ?_
        refine z_iinc 30 C0 2 [1, 2, 0] [(0, .ref r), (1, .ref t), (2, .int (nI (i + 1)))] (v := (nI (i + 1))) dX4_appendAll_27 rfl rfl (z_incN _ _) (by decide) rfl ?_
        refine z_goto 2 C0 dX4_appendAll_30 (by decide) ?_
        exact ih2 (i + 1) (by omega) (by omega)
  exact CUT2 (tn - 0 + 1) 0 (by omega) (Nat.lt_succ_self _)

set_option maxHeartbeats 4000000 in
set_option maxRecDepth 100000 in
theorem joinSplits (l_ : Launch) (E : zE) (jb : Nat) (jse : Nat) (jst : Nat) (jjo : Nat) (jre : Nat) (jco : Nat) (m : Nat) (ma : Nat) (ml : Nat) (ms : Nat) (mp : Nat) (mt : Nat) (h : Nat) (an : Int32) (em : Nat) (ar : Nat → Int32) (lo : Nat → Int32) (st : Nat → Int32) (mpk : Nat) (mpv : Nat) (f : Nat → Int32) (g : Nat → Int32) (n : Nat) (stp : Nat → Nat) (p : Nat) (po : Nat) (pn : Nat) (op : Nat → Int32) (nn : Nat → Int32) (len : Nat) (tk : Nat) (tv : Nat) (kf : Nat → Int32) (vf : Nat → Int32) (tn : Nat) (jok : Nat) (jov : Nat) (jf : Nat → Int32) (jg : Nat → Int32) (se : Nat → Nat) (spl : Nat) (hG : Good 1 op nn len) (hlen : len ≤ 64) (hn : n ≤ 600) (hspl : spl ≤ 120) (hse : ∀ s, s < spl → sst se s ≤ se s ∧ se s ≤ 600) : zMi l_ E yX1_joinSplits (zTs yX1_joinSplits cX1_joinSplits 5 (some .int)) ({ frames := 5, cells := 0, slots := 0, locals := 126 } : Room) [.ref jb, .ref p, .int (nI spl)] [(jb, zo 1 [.ref m, .ref jse, .ref jst, .ref jjo, .ref jre, .ref jco]), (m, zo 3 [.ref ma, .ref ml, .ref ms, .int (nI h), .int an, .ref mp, .int (nI em), .ref mt]), (ma, zi E 3 ar), (ml, zi E 4 lo), (ms, zi E 8 st), (mp, zo 4 [.ref mpk, .ref mpv, .int (nI n)]), (mpk, zi E 600 f), (mpv, zi E 600 g), (mt, zi E 4 (zn stp)), (p, zo 5 [.int (nI 1), .ref po, .ref pn, .int (nI len)]), (po, zi E 64 op), (pn, zi E 64 nn), (jst, zo 2 [.ref tk, .ref tv, .int (nI tn)]), (tk, zi E 600 kf), (tv, zi E 600 vf), (jjo, zo 4 [.ref jok, .ref jov, .int (nI 0)]), (jok, zi E 600 jf), (jov, zi E 600 jg), (jse, zi E 120 (zn se))] (fun r_ w_ => ∃ h2 : Nat, ∃ an2 : Int32, ∃ em2 : Nat, ∃ ar2 : Nat → Int32, ∃ lo2 : Nat → Int32, ∃ st2 : Nat → Int32, ∃ stp2 : Nat → Nat, ∃ n2 : Nat, ∃ kf2 : Nat → Int32, ∃ vf2 : Nat → Int32, ∃ J2 : List (Int32 × Int32), ∃ r2 : Int32, (r_ = r2 ∧ w_ = [(jb, zo 1 [.ref m, .ref jse, .ref jst, .ref jjo, .ref jre, .ref jco]), (m, zo 3 [.ref ma, .ref ml, .ref ms, .int (nI h2), .int an2, .ref mp, .int (nI em2), .ref mt]), (ma, zi E 3 ar2), (ml, zi E 4 lo2), (ms, zi E 8 st2), (mp, zo 4 [.ref mpk, .ref mpv, .int (nI n)]), (mpk, zi E 600 f), (mpv, zi E 600 g), (mt, zi E 4 (zn stp2)), (p, zo 5 [.int (nI 1), .ref po, .ref pn, .int (nI len)]), (po, zi E 64 op), (pn, zi E 64 nn), (jst, zo 2 [.ref tk, .ref tv, .int (nI n2)]), (tk, zi E 600 kf2), (tv, zi E 600 vf2), (jjo, zo 4 [.ref jok, .ref jov, .int (nI (rwN 600 0 J2))]), (jok, zi E 600 (rwK 600 0 jf J2)), (jov, zi E 600 (rwV 600 0 jg J2)), (jse, zi E 120 (zn se))]) ∧ (joinR (pF op nn) f g se spl r2) ∧ (J2.length ≤ 600) ∧ (r2 = -1 → ∃ tot, jnR (pF op nn) f g se spl J2 tot ∧ stp2 = va_up stp 1 (stp 1 + tot))) 0 0 := by
  refine zMi.of (cc := cX1_joinSplits) (nL := 5) (ret := (some .int)) (by decide) rfl (Nat.le_of_ble_eq_true rfl) ?_
  intro p_ e_ s_ m_ args_ below_ meth_ c_ A_ C0 hin0
  have C0 : zC E p_ s_ m_ args_ meth_ c_ cX1_joinSplits 5 (some .int) RX1 (zTs yX1_joinSplits cX1_joinSplits 5 (some .int)) A_ := C0
  refine z_eqL (L1 := [(0, .ref jb), (1, .ref p), (2, .int (nI spl))]) rfl ?_
  refine z_iconst 1 C0 (v := (nI 0)) dX1_joinSplits_0 rfl rfl ?_
  refine z_istore_n 2 C0 [1, 2, 3, 0] [(0, .ref jb), (1, .ref p), (2, .int (nI spl)), (3, .int (nI 0))] dX1_joinSplits_1 rfl rfl (by decide) rfl ?_
  refine z_eq (L1 := [(0, .ref jb), (1, .ref p), (2, .int (nI spl)), (3, .int (nI (sst se 0)))]) (st1 := []) (w1 := [(jb, zo 1 [.ref m, .ref jse, .ref jst, .ref jjo, .ref jre, .ref jco]), (m, zo 3 [.ref ma, .ref ml, .ref ms, .int (nI h), .int an, .ref mp, .int (nI em), .ref mt]), (ma, zi E 3 ar), (ml, zi E 4 lo), (ms, zi E 8 st), (mp, zo 4 [.ref mpk, .ref mpv, .int (nI n)]), (mpk, zi E 600 f), (mpv, zi E 600 g), (mt, zi E 4 (zn stp)), (p, zo 5 [.int (nI 1), .ref po, .ref pn, .int (nI len)]), (po, zi E 64 op), (pn, zi E 64 nn), (jst, zo 2 [.ref tk, .ref tv, .int (nI tn)]), (tk, zi E 600 kf), (tv, zi E 600 vf), (jjo, zo 4 [.ref jok, .ref jov, .int (nI (rwN 600 0 ([] : List (Int32 × Int32))))]), (jok, zi E 600 (rwK 600 0 jf ([] : List (Int32 × Int32)))), (jov, zi E 600 (rwV 600 0 jg ([] : List (Int32 × Int32)))), (jse, zi E 120 (zn se))]) rfl rfl (by rw [rwK_0, rwV_0, rwN_0 (Nat.zero_le 600)]) ?_
  refine z_iconst 3 C0 (v := (nI 0)) dX1_joinSplits_2 rfl rfl ?_
  refine z_istore 5 C0 [1, 2, 3, 4, 0] [(0, .ref jb), (1, .ref p), (2, .int (nI spl)), (3, .int (nI (sst se 0))), (4, .int (nI 0))] dX1_joinSplits_3 rfl (by decide) rfl ?_
  have CUT5 : ∀ (N5 : Nat) (s : Nat) (h : Nat) (an : Int32) (em : Nat) (ar : Nat → Int32) (lo : Nat → Int32) (st : Nat → Int32) (sp : Nat → Nat) (tn : Nat) (kf : Nat → Int32) (vf : Nat → Int32) (J : List (Int32 × Int32)) (tot : Nat), (s ≤ spl) → (∀ x, x < s → sok (pF op nn) f g se x) → (jnR (pF op nn) f g se s J tot) → (J.length ≤ sst se s) → (sp = va_up stp 1 (stp 1 + tot)) → spl - s < N5 → Z E p_ l_ e_ ({ frames := 5, cells := 0, slots := 0, locals := 126 } : Room) s_ m_ args_ below_ meth_ c_ (MQ below_ (va_Qi (fun r_ w_ => ∃ h2 : Nat, ∃ an2 : Int32, ∃ em2 : Nat, ∃ ar2 : Nat → Int32, ∃ lo2 : Nat → Int32, ∃ st2 : Nat → Int32, ∃ stp2 : Nat → Nat, ∃ n2 : Nat, ∃ kf2 : Nat → Int32, ∃ vf2 : Nat → Int32, ∃ J2 : List (Int32 × Int32), ∃ r2 : Int32, (r_ = r2 ∧ w_ = [(jb, zo 1 [.ref m, .ref jse, .ref jst, .ref jjo, .ref jre, .ref jco]), (m, zo 3 [.ref ma, .ref ml, .ref ms, .int (nI h2), .int an2, .ref mp, .int (nI em2), .ref mt]), (ma, zi E 3 ar2), (ml, zi E 4 lo2), (ms, zi E 8 st2), (mp, zo 4 [.ref mpk, .ref mpv, .int (nI n)]), (mpk, zi E 600 f), (mpv, zi E 600 g), (mt, zi E 4 (zn stp2)), (p, zo 5 [.int (nI 1), .ref po, .ref pn, .int (nI len)]), (po, zi E 64 op), (pn, zi E 64 nn), (jst, zo 2 [.ref tk, .ref tv, .int (nI n2)]), (tk, zi E 600 kf2), (tv, zi E 600 vf2), (jjo, zo 4 [.ref jok, .ref jov, .int (nI (rwN 600 0 J2))]), (jok, zi E 600 (rwK 600 0 jf J2)), (jov, zi E 600 (rwV 600 0 jg J2)), (jse, zi E 120 (zn se))]) ∧ (joinR (pF op nn) f g se spl r2) ∧ (J2.length ≤ 600) ∧ (r2 = -1 → ∃ tot, jnR (pF op nn) f g se spl J2 tot ∧ stp2 = va_up stp 1 (stp 1 + tot))) (zPost E A_) A_) args_ s_ 0 0 A_) A_ 5 5 [(0, .ref jb), (1, .ref p), (2, .int (nI spl)), (3, .int (nI (sst se s))), (4, .int (nI s))] [] [(jb, zo 1 [.ref m, .ref jse, .ref jst, .ref jjo, .ref jre, .ref jco]), (m, zo 3 [.ref ma, .ref ml, .ref ms, .int (nI h), .int an, .ref mp, .int (nI em), .ref mt]), (ma, zi E 3 ar), (ml, zi E 4 lo), (ms, zi E 8 st), (mp, zo 4 [.ref mpk, .ref mpv, .int (nI n)]), (mpk, zi E 600 f), (mpv, zi E 600 g), (mt, zi E 4 (zn sp)), (p, zo 5 [.int (nI 1), .ref po, .ref pn, .int (nI len)]), (po, zi E 64 op), (pn, zi E 64 nn), (jst, zo 2 [.ref tk, .ref tv, .int (nI tn)]), (tk, zi E 600 kf), (tv, zi E 600 vf), (jjo, zo 4 [.ref jok, .ref jov, .int (nI (rwN 600 0 J))]), (jok, zi E 600 (rwK 600 0 jf J)), (jov, zi E 600 (rwV 600 0 jg J)), (jse, zi E 120 (zn se))] 0 0 := by
    intro N5
    induction N5 with
    | zero => intro s h an em ar lo st sp tn kf vf J tot hs hok hJ hJl hsp hm5; exact absurd hm5 (Nat.not_lt_zero _)
    | succ N5 ih5 =>
      intro s h an em ar lo st sp tn kf vf J tot hs hok hJ hJl hsp hm5
      refine z_iload 7 C0 4 dX1_joinSplits_5 rfl rfl ?_
      refine z_iload_n 8 C0 2 dX1_joinSplits_7 rfl rfl rfl ?_
      refine z_icmp_geN 11 78 C0 (by omega) (by omega) dX1_joinSplits_8 rfl (by decide) (fun k8 => ?_) (fun k8 => ?_)
      · skip
        refine z_iconst 79 C0 (v := (-1)) dX1_joinSplits_78 rfl (by decide) ?_
        obtain rfl : s = spl := by omega
        exact z_iret C0 rfl dX1_joinSplits_79 ⟨h, an, em, ar, lo, st, sp, tn, kf, vf, J, (-1), ⟨rfl, rfl⟩, (Or.inr ⟨hok, rfl⟩), (by have := sst_le (se := se) (s := s) (fun x hx => (hse x hx).2); omega), (fun _ => ⟨tot, hJ, hsp⟩)⟩ (by decide) (by decide)
      · skip
        refine z_aload_n 12 C0 0 dX1_joinSplits_11 rfl rfl rfl ?_
        refine z_get 15 C0 0 2 wz_1 rfl (by decide) (zTs_in wk_177) dX1_joinSplits_12 rfl rfl rfl ?_
        refine z_iconst 16 C0 (v := (nI 0)) dX1_joinSplits_15 rfl rfl ?_
        refine z_put 19 C0 12 2 [(jb, zo 1 [.ref m, .ref jse, .ref jst, .ref jjo, .ref jre, .ref jco]), (m, zo 3 [.ref ma, .ref ml, .ref ms, .int (nI h), .int an, .ref mp, .int (nI em), .ref mt]), (ma, zi E 3 ar), (ml, zi E 4 lo), (ms, zi E 8 st), (mp, zo 4 [.ref mpk, .ref mpv, .int (nI n)]), (mpk, zi E 600 f), (mpv, zi E 600 g), (mt, zi E 4 (zn sp)), (p, zo 5 [.int (nI 1), .ref po, .ref pn, .int (nI len)]), (po, zi E 64 op), (pn, zi E 64 nn), (jst, zo 2 [.ref tk, .ref tv, .int (nI 0)]), (tk, zi E 600 kf), (tv, zi E 600 vf), (jjo, zo 4 [.ref jok, .ref jov, .int (nI (rwN 600 0 J))]), (jok, zi E 600 (rwK 600 0 jf J)), (jov, zi E 600 (rwV 600 0 jg J)), (jse, zi E 120 (zn se))] wz_2 rfl (by decide) (zTs_in wk_163) tyX2 tyX2_ok nmX2 rfl rfl rfl rfl dX1_joinSplits_16 rfl rfl (Nat.le_of_ble_eq_true rfl) rfl ?_
        refine z_aload_n 20 C0 0 dX1_joinSplits_19 rfl rfl rfl ?_
        refine z_aload_n 21 C0 1 dX1_joinSplits_20 rfl rfl rfl ?_
        refine z_aload_n 22 C0 0 dX1_joinSplits_21 rfl rfl rfl ?_
        refine z_get 25 C0 0 2 wz_1 rfl (by decide) (zTs_in wk_177) dX1_joinSplits_22 rfl rfl rfl ?_
        refine z_aload_n 26 C0 0 dX1_joinSplits_25 rfl rfl rfl ?_
        refine z_get 29 C0 0 0 wz_1 rfl (by decide) (zTs_in wk_175) dX1_joinSplits_26 rfl rfl rfl ?_
        refine z_get 32 C0 1 5 wz_3 rfl (by decide) (zTs_in wk_126) dX1_joinSplits_29 rfl rfl rfl ?_
        refine z_iload_n 33 C0 3 dX1_joinSplits_32 rfl rfl rfl ?_
        refine z_aload_n 34 C0 0 dX1_joinSplits_33 rfl rfl rfl ?_
        refine z_get 37 C0 0 1 wz_1 rfl (by decide) (zTs_in wk_176) dX1_joinSplits_34 rfl rfl rfl ?_
        refine z_iload 39 C0 4 dX1_joinSplits_37 rfl rfl ?_
        refine z_ialdN 40 C0 18 (v := (nI (se s))) dX1_joinSplits_39 rfl rfl (by omega) (by decide) rfl ?_
        refine z_callVi 43 C0 [0, 1, 2, 3, 4, 5, 6, 7, 8, 9, 10, 11, 12, 13, 14] [15, 16, 17, 18] [(jjo, zo 4 [.ref jok, .ref jov, .int (nI (rwN 600 0 J))]), (jok, zi E 600 (rwK 600 0 jf J)), (jov, zi E 600 (rwV 600 0 jg J)), (jse, zi E 120 (zn se))] 0 0 (As := [.ref p, .ref jst, .ref mp, .int (nI (sst se s)), .int (nI (se s))]) (T := TX1) (N := 6) (C := RX1) (ci := 1) (n := 5) 0 (merge_a l_ E jb jse jst jjo jre jco m ma ml ms mp mt h an em ar lo st mpk mpv f g n sp p po pn 1 op nn len jst tk tv kf vf (sst se s) (se s) (by omega) (by omega) (by omega) (by omega) (hse s (by omega)).1 (hse s (by omega)).2) (zGIV (fun _ => zTs_in) wk_392 wk_389 wk_390 wk_391 wk_17) rfl ⟨rfl, by decide, by decide, by decide +kernel⟩ rfl rfl rfl rfl (by decide) rfl rfl (Nat.le_of_ble_eq_true rfl) ⟨by decide, by decide⟩ rfl rfl ⟨by decide, by decide⟩ ⟨by decide, by decide⟩ dX1_joinSplits_40 rfl (fun r40 w40 hB40 => ?_)
        obtain ⟨h2_40, an2_40, em2_40, ar2_40, lo2_40, st2_40, stp2_40, n2_40, kf2_40, vf2_40, ⟨rfl, rfl⟩, fn_40, fM_40⟩ := hB40
        refine z_perm [4, 5, 6, 7, 8, 9, 10, 11, 12, 13, 14, 15, 16, 17, 18, 0, 1, 2, 3] [(jb, zo 1 [.ref m, .ref jse, .ref jst, .ref jjo, .ref jre, .ref jco]), (m, zo 3 [.ref ma, .ref ml, .ref ms, .int (nI h2_40), .int an2_40, .ref mp, .int (nI em2_40), .ref mt]), (ma, zi E 3 ar2_40), (ml, zi E 4 lo2_40), (ms, zi E 8 st2_40), (mp, zo 4 [.ref mpk, .ref mpv, .int (nI n)]), (mpk, zi E 600 f), (mpv, zi E 600 g), (mt, zi E 4 (zn stp2_40)), (p, zo 5 [.int (nI 1), .ref po, .ref pn, .int (nI len)]), (po, zi E 64 op), (pn, zi E 64 nn), (jst, zo 2 [.ref tk, .ref tv, .int (nI n2_40)]), (tk, zi E 600 kf2_40), (tv, zi E 600 vf2_40), (jjo, zo 4 [.ref jok, .ref jov, .int (nI (rwN 600 0 J))]), (jok, zi E 600 (rwK 600 0 jf J)), (jov, zi E 600 (rwV 600 0 jg J)), (jse, zi E 120 (zn se))] (by decide) rfl ?_
        refine z_if_neP 46 53 C0 dX1_joinSplits_43 rfl (by decide) (fun k43 => ?_) (fun k43 => ?_)
        · skip
          obtain ⟨M, t, hMt⟩ : ∃ M t, (mgL (pF op nn) (tab f g (sst se s) (se s - sst se s)) (fun _ => none, 0)) = some (M, t) := by
            cases hq : (mgL (pF op nn) (tab f g (sst se s) (se s - sst se s)) (fun _ => none, 0)) with
            | none => exact absurd hq k43
            | some z => exact ⟨z.1, z.2, rfl⟩
          have hfM := fM_40 M t hMt
          refine z_aload_n 54 C0 0 dX1_joinSplits_53 rfl rfl rfl ?_
          refine z_get 57 C0 0 3 wz_1 rfl (by decide) (zTs_in wk_178) dX1_joinSplits_54 rfl rfl rfl ?_
          refine z_aload_n 58 C0 0 dX1_joinSplits_57 rfl rfl rfl ?_
          refine z_get 61 C0 0 2 wz_1 rfl (by decide) (zTs_in wk_177) dX1_joinSplits_58 rfl rfl rfl ?_
          refine z_callVv 64 C0 [15, 16, 17, 12, 13, 14] [0, 1, 2, 3, 4, 5, 6, 7, 8, 9, 10, 11, 18] [(jb, zo 1 [.ref m, .ref jse, .ref jst, .ref jjo, .ref jre, .ref jco]), (m, zo 3 [.ref ma, .ref ml, .ref ms, .int (nI h2_40), .int an2_40, .ref mp, .int (nI em2_40), .ref mt]), (ma, zi E 3 ar2_40), (ml, zi E 4 lo2_40), (ms, zi E 8 st2_40), (mp, zo 4 [.ref mpk, .ref mpv, .int (nI n)]), (mpk, zi E 600 f), (mpv, zi E 600 g), (mt, zi E 4 (zn stp2_40)), (p, zo 5 [.int (nI 1), .ref po, .ref pn, .int (nI len)]), (po, zi E 64 op), (pn, zi E 64 nn), (jse, zi E 120 (zn se))] 0 0 (As := [.ref jst]) (T := TX4) (N := 3) (C := RX4) (ci := 4) (n := 1) 0 (appendAll l_ E jjo jok jov (rwK 600 0 jf J) (rwV 600 0 jg J) (rwN 600 0 J) jst tk tv kf2_40 vf2_40 n2_40 (by have := hse s (by omega); rw [show rwN 600 0 J = J.length by unfold rwN; rw [if_pos (by omega)]; omega]; omega)) (zGIV (fun _ => zTs_in) wk_411 wk_408 wk_409 wk_410 wk_14) rfl ⟨rfl, by decide, by decide, by decide +kernel⟩ rfl rfl rfl rfl (by decide) rfl rfl (Nat.le_of_ble_eq_true rfl) ⟨by decide, by decide⟩ rfl rfl ⟨by decide, by decide⟩ ⟨by decide, by decide⟩ dX1_joinSplits_61 rfl (fun w61 hB61 => ?_)
          obtain rfl := hB61
          refine z_perm [0, 1, 2, 3, 4, 5, 6, 7, 8, 9, 10, 11, 16, 17, 18, 13, 14, 15, 12] [(jb, zo 1 [.ref m, .ref jse, .ref jst, .ref jjo, .ref jre, .ref jco]), (m, zo 3 [.ref ma, .ref ml, .ref ms, .int (nI h2_40), .int an2_40, .ref mp, .int (nI em2_40), .ref mt]), (ma, zi E 3 ar2_40), (ml, zi E 4 lo2_40), (ms, zi E 8 st2_40), (mp, zo 4 [.ref mpk, .ref mpv, .int (nI n)]), (mpk, zi E 600 f), (mpv, zi E 600 g), (mt, zi E 4 (zn stp2_40)), (p, zo 5 [.int (nI 1), .ref po, .ref pn, .int (nI len)]), (po, zi E 64 op), (pn, zi E 64 nn), (jst, zo 2 [.ref tk, .ref tv, .int (nI n2_40)]), (tk, zi E 600 kf2_40), (tv, zi E 600 vf2_40), (jjo, zo 4 [.ref jok, .ref jov, .int (nI (rwN 600 (rwN 600 0 J) (tab kf2_40 vf2_40 0 n2_40)))]), (jok, zi E 600 (rwK 600 (rwN 600 0 J) (rwK 600 0 jf J) (tab kf2_40 vf2_40 0 n2_40))), (jov, zi E 600 (rwV 600 (rwN 600 0 J) (rwV 600 0 jg J) (tab kf2_40 vf2_40 0 n2_40))), (jse, zi E 120 (zn se))] (by decide) rfl ?_
          refine z_eq (L1 := [(0, .ref jb), (1, .ref p), (2, .int (nI spl)), (3, .int (nI (sst se s))), (4, .int (nI s))]) (st1 := []) (w1 := [(jb, zo 1 [.ref m, .ref jse, .ref jst, .ref jjo, .ref jre, .ref jco]), (m, zo 3 [.ref ma, .ref ml, .ref ms, .int (nI h2_40), .int an2_40, .ref mp, .int (nI em2_40), .ref mt]), (ma, zi E 3 ar2_40), (ml, zi E 4 lo2_40), (ms, zi E 8 st2_40), (mp, zo 4 [.ref mpk, .ref mpv, .int (nI n)]), (mpk, zi E 600 f), (mpv, zi E 600 g), (mt, zi E 4 (zn stp2_40)), (p, zo 5 [.int (nI 1), .ref po, .ref pn, .int (nI len)]), (po, zi E 64 op), (pn, zi E 64 nn), (jst, zo 2 [.ref tk, .ref tv, .int (nI n2_40)]), (tk, zi E 600 kf2_40), (tv, zi E 600 vf2_40), (jjo, zo 4 [.ref jok, .ref jov, .int (nI (rwN 600 0 (J ++ tab kf2_40 vf2_40 0 n2_40)))]), (jok, zi E 600 (rwK 600 0 jf (J ++ tab kf2_40 vf2_40 0 n2_40))), (jov, zi E 600 (rwV 600 0 jg (J ++ tab kf2_40 vf2_40 0 n2_40))), (jse, zi E 120 (zn se))]) rfl rfl (by rw [rwK_app (Nat.zero_le 600), rwV_app (Nat.zero_le 600), rwN_app (Nat.zero_le 600)]) ?_
          refine z_aload_n 65 C0 0 dX1_joinSplits_64 rfl rfl rfl ?_
          refine z_get 68 C0 0 1 wz_1 rfl (by decide) (zTs_in wk_176) dX1_joinSplits_65 rfl rfl rfl ?_
          refine z_iload 70 C0 4 dX1_joinSplits_68 rfl rfl ?_
          refine z_ialdN 71 C0 18 (v := (nI (se s))) dX1_joinSplits_70 rfl rfl (by omega) (by decide) rfl ?_
          refine z_istore_n 72 C0 [1, 2, 3, 0, 4] [(0, .ref jb), (1, .ref p), (2, .int (nI spl)), (3, .int (nI (se s))), (4, .int (nI s))] dX1_joinSplits_71 rfl rfl (by decide) rfl ?_
          refine z_eq (L1 := [(0, .ref jb), (1, .ref p), (2, .int (nI spl)), (3, .int (nI (sst se (s + 1)))), (4, .int (nI s))]) (st1 := []) (w1 := [(jb, zo 1 [.ref m, .ref jse, .ref jst, .ref jjo, .ref jre, .ref jco]), (m, zo 3 [.ref ma, .ref ml, .ref ms, .int (nI h2_40), .int an2_40, .ref mp, .int (nI em2_40), .ref mt]), (ma, zi E 3 ar2_40), (ml, zi E 4 lo2_40), (ms, zi E 8 st2_40), (mp, zo 4 [.ref mpk, .ref mpv, .int (nI n)]), (mpk, zi E 600 f), (mpv, zi E 600 g), (mt, zi E 4 (zn stp2_40)), (p, zo 5 [.int (nI 1), .ref po, .ref pn, .int (nI len)]), (po, zi E 64 op), (pn, zi E 64 nn), (jst, zo 2 [.ref tk, .ref tv, .int (nI n2_40)]), (tk, zi E 600 kf2_40), (tv, zi E 600 vf2_40), (jjo, zo 4 [.ref jok, .ref jov, .int (nI (rwN 600 0 (J ++ tab kf2_40 vf2_40 0 n2_40)))]), (jok, zi E 600 (rwK 600 0 jf (J ++ tab kf2_40 vf2_40 0 n2_40))), (jov, zi E 600 (rwV 600 0 jg (J ++ tab kf2_40 vf2_40 0 n2_40))), (jse, zi E 120 (zn se))]) rfl rfl rfl ?_
          refine z_iinc 75 C0 4 [1, 2, 3, 4, 0] [(0, .ref jb), (1, .ref p), (2, .int (nI spl)), (3, .int (nI (sst se (s + 1)))), (4, .int (nI (s + 1)))] (v := (nI (s + 1))) dX1_joinSplits_72 rfl rfl (z_incN _ _) (by decide) rfl ?_
          refine z_goto 5 C0 dX1_joinSplits_75 (by decide) ?_
          exact ih5 (s + 1) h2_40 an2_40 em2_40 ar2_40 lo2_40 st2_40 stp2_40 n2_40 kf2_40 vf2_40 (J ++ tab kf2_40 vf2_40 0 n2_40) (tot + t) (by omega) (fun x hx => by rcases Nat.lt_or_ge x s with q | q; exact hok x q; rw [show x = s by omega]; exact k43) (⟨J, tot, M, t, _, hJ, hMt, ⟨_, _, _, hfM.1, rfl⟩, rfl, rfl⟩) (by rw [List.length_append, tab_len]; show _ ≤ se s; have := hse s k8; omega) (by rw [hfM.2, hsp]; exact z_up_add _ _ _ _) (by omega)
        · skip
          refine z_sipush 49 C0 (v := (nI 1000)) dX1_joinSplits_46 rfl rfl ?_
          refine z_iload 51 C0 4 dX1_joinSplits_49 rfl rfl ?_
          refine z_iadd 52 C0 (v := (nI (1000 + s))) dX1_joinSplits_51 rfl (nI_add _ _) ?_
          exact z_iret C0 rfl dX1_joinSplits_52 ⟨h2_40, an2_40, em2_40, ar2_40, lo2_40, st2_40, stp2_40, n2_40, kf2_40, vf2_40, J, (nI (1000 + s)), ⟨rfl, rfl⟩, (Or.inl ⟨s, by omega, k43, hok, rfl⟩), (by have := hse s (by omega); omega), (fun q => absurd q (nI_neg1 (by omega)))⟩ (by decide) (by decide)
  exact CUT5 (spl - 0 + 1) 0 h an em ar lo st stp tn kf vf ([] : List (Int32 × Int32)) 0 (Nat.zero_le _) (fun x hx => absurd hx (Nat.not_lt_zero x)) (⟨rfl, rfl⟩) (Nat.zero_le _) (z_up_self _ _).symm (Nat.lt_succ_self _)

set_option maxHeartbeats 4000000 in
set_option maxRecDepth 100000 in
theorem fold_a (l_ : Launch) (E : zE) (jb : Nat) (jse : Nat) (jst : Nat) (jjo : Nat) (jre : Nat) (jco : Nat) (m : Nat) (ma : Nat) (ml : Nat) (ms : Nat) (mp : Nat) (mt : Nat) (h : Nat) (an : Int32) (em : Nat) (ar : Nat → Int32) (lo : Nat → Int32) (st : Nat → Int32) (mpk : Nat) (mpv : Nat) (f : Nat → Int32) (g : Nat → Int32) (n : Nat) (stp : Nat → Nat) (p : Nat) (po : Nat) (pn : Nat) (op : Nat → Int32) (nn : Nat → Int32) (len : Nat) (tk : Nat) (tv : Nat) (kf : Nat → Int32) (vf : Nat → Int32) (co : Nat → Int32) (hG : Good 2 op nn len) (hlen : len ≤ 64) (hn : n ≤ 600) : zMi l_ E yX1_foldValues (zTs yX1_foldValues cX1_foldValues 3 (some .int)) ({ frames := 5, cells := 0, slots := 0, locals := 126 } : Room) [.ref jb, .ref p, .ref mp] [(jb, zo 1 [.ref m, .ref jse, .ref jst, .ref jjo, .ref jre, .ref jco]), (m, zo 3 [.ref ma, .ref ml, .ref ms, .int (nI h), .int an, .ref mp, .int (nI em), .ref mt]), (ma, zi E 3 ar), (ml, zi E 4 lo), (ms, zi E 8 st), (mp, zo 4 [.ref mpk, .ref mpv, .int (nI n)]), (mpk, zi E 600 f), (mpv, zi E 600 g), (mt, zi E 4 (zn stp)), (p, zo 5 [.int (nI 2), .ref po, .ref pn, .int (nI len)]), (po, zi E 64 op), (pn, zi E 64 nn), (jre, zo 2 [.ref tk, .ref tv, .int (nI 0)]), (tk, zi E 600 kf), (tv, zi E 600 vf), (jco, zi E 8 co)] (fun r_ w_ => ∃ h2 : Nat, ∃ an2 : Int32, ∃ em2 : Nat, ∃ ar2 : Nat → Int32, ∃ lo2 : Nat → Int32, ∃ st2 : Nat → Int32, ∃ stp2 : Nat → Nat, ∃ n2 : Nat, ∃ kf2 : Nat → Int32, ∃ vf2 : Nat → Int32, ∃ co2 : Nat → Int32, (r_ = (fldR (mgL (pF op nn) (tab f g 0 n) (fun _ => none, 0))) ∧ w_ = [(jb, zo 1 [.ref m, .ref jse, .ref jst, .ref jjo, .ref jre, .ref jco]), (m, zo 3 [.ref ma, .ref ml, .ref ms, .int (nI h2), .int an2, .ref mp, .int (nI em2), .ref mt]), (ma, zi E 3 ar2), (ml, zi E 4 lo2), (ms, zi E 8 st2), (mp, zo 4 [.ref mpk, .ref mpv, .int (nI n)]), (mpk, zi E 600 f), (mpv, zi E 600 g), (mt, zi E 4 (zn stp2)), (p, zo 5 [.int (nI 2), .ref po, .ref pn, .int (nI len)]), (po, zi E 64 op), (pn, zi E 64 nn), (jre, zo 2 [.ref tk, .ref tv, .int (nI n2)]), (tk, zi E 600 kf2), (tv, zi E 600 vf2), (jco, zi E 8 co2)]) ∧ (n2 ≤ n) ∧ (∀ M s, (mgL (pF op nn) (tab f g 0 n) (fun _ => none, 0)) = some (M, s) → tbl n2 kf2 vf2 M ∧ stp2 = va_up stp 2 (stp 2 + s) ∧ co2 = upd (upd co 2 (nI n)) 3 (nI n2))) 0 0 := by
  refine zMi.of (cc := cX1_foldValues) (nL := 3) (ret := (some .int)) (by decide) rfl (Nat.le_of_ble_eq_true rfl) ?_
  intro p_ e_ s_ m_ args_ below_ meth_ c_ A_ C0 hin0
  have C0 : zC E p_ s_ m_ args_ meth_ c_ cX1_foldValues 3 (some .int) RX1 (zTs yX1_foldValues cX1_foldValues 3 (some .int)) A_ := C0
  refine z_eqL (L1 := [(0, .ref jb), (1, .ref p), (2, .ref mp)]) rfl ?_
  refine z_aload_n 1 C0 0 dX1_foldValues_0 rfl rfl rfl ?_
  refine z_get 4 C0 0 5 wz_1 rfl (by decide) (zTs_in wk_181) dX1_foldValues_1 rfl rfl rfl ?_
  refine z_iconst 5 C0 (v := (nI 2)) dX1_foldValues_4 rfl rfl ?_
  refine z_aload_n 6 C0 2 dX1_foldValues_5 rfl rfl rfl ?_
  refine z_get 9 C0 5 2 wz_4 rfl (by decide) (zTs_in wk_50) dX1_foldValues_6 rfl rfl rfl ?_
  refine z_iastN 10 C0 15 [(jb, zo 1 [.ref m, .ref jse, .ref jst, .ref jjo, .ref jre, .ref jco]), (m, zo 3 [.ref ma, .ref ml, .ref ms, .int (nI h), .int an, .ref mp, .int (nI em), .ref mt]), (ma, zi E 3 ar), (ml, zi E 4 lo), (ms, zi E 8 st), (mp, zo 4 [.ref mpk, .ref mpv, .int (nI n)]), (mpk, zi E 600 f), (mpv, zi E 600 g), (mt, zi E 4 (zn stp)), (p, zo 5 [.int (nI 2), .ref po, .ref pn, .int (nI len)]), (po, zi E 64 op), (pn, zi E 64 nn), (jre, zo 2 [.ref tk, .ref tv, .int (nI 0)]), (tk, zi E 600 kf), (tv, zi E 600 vf), (jco, zi E 8 (upd co 2 (nI n)))] dX1_foldValues_9 rfl rfl (by omega) (by decide) rfl ?_
  refine z_aload_n 11 C0 0 dX1_foldValues_10 rfl rfl rfl ?_
  refine z_aload_n 12 C0 1 dX1_foldValues_11 rfl rfl rfl ?_
  refine z_aload_n 13 C0 0 dX1_foldValues_12 rfl rfl rfl ?_
  refine z_get 16 C0 0 4 wz_1 rfl (by decide) (zTs_in wk_179) dX1_foldValues_13 rfl rfl rfl ?_
  refine z_aload_n 17 C0 2 dX1_foldValues_16 rfl rfl rfl ?_
  refine z_iconst 18 C0 (v := (nI 0)) dX1_foldValues_17 rfl rfl ?_
  refine z_aload_n 19 C0 2 dX1_foldValues_18 rfl rfl rfl ?_
  refine z_get 22 C0 5 2 wz_4 rfl (by decide) (zTs_in wk_50) dX1_foldValues_19 rfl rfl rfl ?_
  refine z_callVi 25 C0 [0, 1, 2, 3, 4, 5, 6, 7, 8, 9, 10, 11, 12, 13, 14] [15] [(jco, zi E 8 (upd co 2 (nI n)))] 0 0 (As := [.ref p, .ref jre, .ref mp, .int (nI 0), .int (nI n)]) (T := TX1) (N := 6) (C := RX1) (ci := 1) (n := 5) 0 (merge_a l_ E jb jse jst jjo jre jco m ma ml ms mp mt h an em ar lo st mpk mpv f g n stp p po pn 2 op nn len jre tk tv kf vf 0 n (by omega) (by omega) (by omega) (by omega) (Nat.zero_le _) (by omega)) (zGIV (fun _ => zTs_in) wk_392 wk_389 wk_390 wk_391 wk_17) rfl ⟨rfl, by decide, by decide, by decide +kernel⟩ rfl rfl rfl rfl (by decide) rfl rfl (Nat.le_of_ble_eq_true rfl) ⟨by decide, by decide⟩ rfl rfl ⟨by decide, by decide⟩ ⟨by decide, by decide⟩ dX1_foldValues_22 rfl (fun r22 w22 hB22 => ?_)
  obtain ⟨h2_22, an2_22, em2_22, ar2_22, lo2_22, st2_22, stp2_22, n2_22, kf2_22, vf2_22, ⟨rfl, rfl⟩, fn_22, fM_22⟩ := hB22
  refine z_perm [1, 2, 3, 4, 5, 6, 7, 8, 9, 10, 11, 12, 13, 14, 15, 0] [(jb, zo 1 [.ref m, .ref jse, .ref jst, .ref jjo, .ref jre, .ref jco]), (m, zo 3 [.ref ma, .ref ml, .ref ms, .int (nI h2_22), .int an2_22, .ref mp, .int (nI em2_22), .ref mt]), (ma, zi E 3 ar2_22), (ml, zi E 4 lo2_22), (ms, zi E 8 st2_22), (mp, zo 4 [.ref mpk, .ref mpv, .int (nI n)]), (mpk, zi E 600 f), (mpv, zi E 600 g), (mt, zi E 4 (zn stp2_22)), (p, zo 5 [.int (nI 2), .ref po, .ref pn, .int (nI len)]), (po, zi E 64 op), (pn, zi E 64 nn), (jre, zo 2 [.ref tk, .ref tv, .int (nI n2_22)]), (tk, zi E 600 kf2_22), (tv, zi E 600 vf2_22), (jco, zi E 8 (upd co 2 (nI n)))] (by decide) rfl ?_
  refine z_if_neP 28 32 C0 dX1_foldValues_25 rfl (by decide) (fun k25 => ?_) (fun k25 => ?_)
  · skip
    refine z_aload_n 33 C0 0 dX1_foldValues_32 rfl rfl rfl ?_
    refine z_get 36 C0 0 5 wz_1 rfl (by decide) (zTs_in wk_181) dX1_foldValues_33 rfl rfl rfl ?_
    refine z_iconst 37 C0 (v := (nI 3)) dX1_foldValues_36 rfl rfl ?_
    refine z_aload_n 38 C0 0 dX1_foldValues_37 rfl rfl rfl ?_
    refine z_get 41 C0 0 4 wz_1 rfl (by decide) (zTs_in wk_179) dX1_foldValues_38 rfl rfl rfl ?_
    refine z_get 44 C0 12 2 wz_2 rfl (by decide) (zTs_in wk_163) dX1_foldValues_41 rfl rfl rfl ?_
    refine z_iastN 45 C0 15 [(jb, zo 1 [.ref m, .ref jse, .ref jst, .ref jjo, .ref jre, .ref jco]), (m, zo 3 [.ref ma, .ref ml, .ref ms, .int (nI h2_22), .int an2_22, .ref mp, .int (nI em2_22), .ref mt]), (ma, zi E 3 ar2_22), (ml, zi E 4 lo2_22), (ms, zi E 8 st2_22), (mp, zo 4 [.ref mpk, .ref mpv, .int (nI n)]), (mpk, zi E 600 f), (mpv, zi E 600 g), (mt, zi E 4 (zn stp2_22)), (p, zo 5 [.int (nI 2), .ref po, .ref pn, .int (nI len)]), (po, zi E 64 op), (pn, zi E 64 nn), (jre, zo 2 [.ref tk, .ref tv, .int (nI n2_22)]), (tk, zi E 600 kf2_22), (tv, zi E 600 vf2_22), (jco, zi E 8 (upd (upd co 2 (nI n)) 3 (nI n2_22)))] dX1_foldValues_44 rfl rfl (by omega) (by decide) rfl ?_
    refine z_iconst 46 C0 (v := (-1)) dX1_foldValues_45 rfl (by decide) ?_
    obtain ⟨z, hz⟩ : ∃ z, (mgL (pF op nn) (tab f g 0 n) (fun _ => none, 0)) = some z := Option.ne_none_iff_exists'.mp k25
    exact z_iret C0 rfl dX1_foldValues_46 ⟨h2_22, an2_22, em2_22, ar2_22, lo2_22, st2_22, stp2_22, n2_22, kf2_22, vf2_22, (upd (upd co 2 (nI n)) 3 (nI n2_22)), ⟨(by rw [hz]; rfl), rfl⟩, (by omega), (fun M s q => ⟨(fM_22 M s q).1, (fM_22 M s q).2, rfl⟩)⟩ (by decide) (by decide)
  · skip
    refine z_sipush 31 C0 (v := (nI 2000)) dX1_foldValues_28 rfl rfl ?_
    have hno : (mgL (pF op nn) (tab f g 0 n) (fun _ => none, 0)) = none := Classical.byContradiction fun q => k25 q
    exact z_iret C0 rfl dX1_foldValues_31 ⟨h2_22, an2_22, em2_22, ar2_22, lo2_22, st2_22, stp2_22, n2_22, kf2_22, vf2_22, (upd co 2 (nI n)), ⟨(by rw [hno]; rfl), rfl⟩, (by omega), (fun M s q => by rw [hno] at q; cases q)⟩ (by decide) (by decide)

set_option maxHeartbeats 4000000 in
set_option maxRecDepth 100000 in
theorem fold_s (l_ : Launch) (E : zE) (jb : Nat) (jse : Nat) (jst : Nat) (jjo : Nat) (jre : Nat) (jco : Nat) (m : Nat) (ma : Nat) (ml : Nat) (ms : Nat) (mp : Nat) (mt : Nat) (h : Nat) (an : Int32) (em : Nat) (ar : Nat → Int32) (lo : Nat → Int32) (st : Nat → Int32) (mpk : Nat) (mpv : Nat) (f : Nat → Int32) (g : Nat → Int32) (n : Nat) (stp : Nat → Nat) (p : Nat) (po : Nat) (pn : Nat) (op : Nat → Int32) (nn : Nat → Int32) (len : Nat) (tk : Nat) (tv : Nat) (kf : Nat → Int32) (vf : Nat → Int32) (r : Nat) (rk : Nat) (rv : Nat) (rf : Nat → Int32) (rg : Nat → Int32) (rn : Nat) (co : Nat → Int32) (hG : Good 2 op nn len) (hlen : len ≤ 64) (hn : n ≤ 600) (hrn : rn ≤ 600) : zMi l_ E yX1_foldValues (zTs yX1_foldValues cX1_foldValues 3 (some .int)) ({ frames := 5, cells := 0, slots := 0, locals := 126 } : Room) [.ref jb, .ref p, .ref r] [(jb, zo 1 [.ref m, .ref jse, .ref jst, .ref jjo, .ref jre, .ref jco]), (m, zo 3 [.ref ma, .ref ml, .ref ms, .int (nI h), .int an, .ref mp, .int (nI em), .ref mt]), (ma, zi E 3 ar), (ml, zi E 4 lo), (ms, zi E 8 st), (mp, zo 4 [.ref mpk, .ref mpv, .int (nI n)]), (mpk, zi E 600 f), (mpv, zi E 600 g), (mt, zi E 4 (zn stp)), (p, zo 5 [.int (nI 2), .ref po, .ref pn, .int (nI len)]), (po, zi E 64 op), (pn, zi E 64 nn), (jre, zo 2 [.ref tk, .ref tv, .int (nI 0)]), (tk, zi E 600 kf), (tv, zi E 600 vf), (r, zo 4 [.ref rk, .ref rv, .int (nI rn)]), (rk, zi E 600 rf), (rv, zi E 600 rg), (jco, zi E 8 co)] (fun r_ w_ => ∃ h2 : Nat, ∃ an2 : Int32, ∃ em2 : Nat, ∃ ar2 : Nat → Int32, ∃ lo2 : Nat → Int32, ∃ st2 : Nat → Int32, ∃ stp2 : Nat → Nat, ∃ n2 : Nat, ∃ kf2 : Nat → Int32, ∃ vf2 : Nat → Int32, ∃ co2 : Nat → Int32, (r_ = (fldR (mgL (pF op nn) (tab rf rg 0 rn) (fun _ => none, 0))) ∧ w_ = [(jb, zo 1 [.ref m, .ref jse, .ref jst, .ref jjo, .ref jre, .ref jco]), (m, zo 3 [.ref ma, .ref ml, .ref ms, .int (nI h2), .int an2, .ref mp, .int (nI em2), .ref mt]), (ma, zi E 3 ar2), (ml, zi E 4 lo2), (ms, zi E 8 st2), (mp, zo 4 [.ref mpk, .ref mpv, .int (nI n)]), (mpk, zi E 600 f), (mpv, zi E 600 g), (mt, zi E 4 (zn stp2)), (p, zo 5 [.int (nI 2), .ref po, .ref pn, .int (nI len)]), (po, zi E 64 op), (pn, zi E 64 nn), (jre, zo 2 [.ref tk, .ref tv, .int (nI n2)]), (tk, zi E 600 kf2), (tv, zi E 600 vf2), (r, zo 4 [.ref rk, .ref rv, .int (nI rn)]), (rk, zi E 600 rf), (rv, zi E 600 rg), (jco, zi E 8 co2)]) ∧ (n2 ≤ rn) ∧ (∀ M s, (mgL (pF op nn) (tab rf rg 0 rn) (fun _ => none, 0)) = some (M, s) → tbl n2 kf2 vf2 M ∧ stp2 = va_up stp 2 (stp 2 + s) ∧ co2 = upd (upd co 2 (nI rn)) 3 (nI n2))) 0 0 := by
  refine zMi.of (cc := cX1_foldValues) (nL := 3) (ret := (some .int)) (by decide) rfl (Nat.le_of_ble_eq_true rfl) ?_
  intro p_ e_ s_ m_ args_ below_ meth_ c_ A_ C0 hin0
  have C0 : zC E p_ s_ m_ args_ meth_ c_ cX1_foldValues 3 (some .int) RX1 (zTs yX1_foldValues cX1_foldValues 3 (some .int)) A_ := C0
  refine z_eqL (L1 := [(0, .ref jb), (1, .ref p), (2, .ref r)]) rfl ?_
  refine z_aload_n 1 C0 0 dX1_foldValues_0 rfl rfl rfl ?_
  refine z_get 4 C0 0 5 wz_1 rfl (by decide) (zTs_in wk_181) dX1_foldValues_1 rfl rfl rfl ?_
  refine z_iconst 5 C0 (v := (nI 2)) dX1_foldValues_4 rfl rfl ?_
  refine z_aload_n 6 C0 2 dX1_foldValues_5 rfl rfl rfl ?_
  refine z_get 9 C0 15 2 wz_4 rfl (by decide) (zTs_in wk_50) dX1_foldValues_6 rfl rfl rfl ?_
  refine z_iastN 10 C0 18 [(jb, zo 1 [.ref m, .ref jse, .ref jst, .ref jjo, .ref jre, .ref jco]), (m, zo 3 [.ref ma, .ref ml, .ref ms, .int (nI h), .int an, .ref mp, .int (nI em), .ref mt]), (ma, zi E 3 ar), (ml, zi E 4 lo), (ms, zi E 8 st), (mp, zo 4 [.ref mpk, .ref mpv, .int (nI n)]), (mpk, zi E 600 f), (mpv, zi E 600 g), (mt, zi E 4 (zn stp)), (p, zo 5 [.int (nI 2), .ref po, .ref pn, .int (nI len)]), (po, zi E 64 op), (pn, zi E 64 nn), (jre, zo 2 [.ref tk, .ref tv, .int (nI 0)]), (tk, zi E 600 kf), (tv, zi E 600 vf), (r, zo 4 [.ref rk, .ref rv, .int (nI rn)]), (rk, zi E 600 rf), (rv, zi E 600 rg), (jco, zi E 8 (upd co 2 (nI rn)))] dX1_foldValues_9 rfl rfl (by omega) (by decide) rfl ?_
  refine z_aload_n 11 C0 0 dX1_foldValues_10 rfl rfl rfl ?_
  refine z_aload_n 12 C0 1 dX1_foldValues_11 rfl rfl rfl ?_
  refine z_aload_n 13 C0 0 dX1_foldValues_12 rfl rfl rfl ?_
  refine z_get 16 C0 0 4 wz_1 rfl (by decide) (zTs_in wk_179) dX1_foldValues_13 rfl rfl rfl ?_
  refine z_aload_n 17 C0 2 dX1_foldValues_16 rfl rfl rfl ?_
  refine z_iconst 18 C0 (v := (nI 0)) dX1_foldValues_17 rfl rfl ?_
  refine z_aload_n 19 C0 2 dX1_foldValues_18 rfl rfl rfl ?_
  refine z_get 22 C0 15 2 wz_4 rfl (by decide) (zTs_in wk_50) dX1_foldValues_19 rfl rfl rfl ?_
  refine z_callVi 25 C0 [0, 1, 2, 3, 4, 5, 6, 7, 8, 9, 10, 11, 12, 13, 14, 15, 16, 17] [18] [(jco, zi E 8 (upd co 2 (nI rn)))] 0 0 (As := [.ref p, .ref jre, .ref r, .int (nI 0), .int (nI rn)]) (T := TX1) (N := 6) (C := RX1) (ci := 1) (n := 5) 0 (merge_s l_ E jb jse jst jjo jre jco m ma ml ms mp mt h an em ar lo st mpk mpv f g n stp p po pn 2 op nn len jre tk tv kf vf r rk rv rf rg rn 0 rn (by omega) (by omega) (by omega) (by omega) (Nat.zero_le _) (by omega)) (zGIV (fun _ => zTs_in) wk_392 wk_389 wk_390 wk_391 wk_17) rfl ⟨rfl, by decide, by decide, by decide +kernel⟩ rfl rfl rfl rfl (by decide) rfl rfl (Nat.le_of_ble_eq_true rfl) ⟨by decide, by decide⟩ rfl rfl ⟨by decide, by decide⟩ ⟨by decide, by decide⟩ dX1_foldValues_22 rfl (fun r22 w22 hB22 => ?_)
  obtain ⟨h2_22, an2_22, em2_22, ar2_22, lo2_22, st2_22, stp2_22, n2_22, kf2_22, vf2_22, ⟨rfl, rfl⟩, fn_22, fM_22⟩ := hB22
  refine z_perm [1, 2, 3, 4, 5, 6, 7, 8, 9, 10, 11, 12, 13, 14, 15, 16, 17, 18, 0] [(jb, zo 1 [.ref m, .ref jse, .ref jst, .ref jjo, .ref jre, .ref jco]), (m, zo 3 [.ref ma, .ref ml, .ref ms, .int (nI h2_22), .int an2_22, .ref mp, .int (nI em2_22), .ref mt]), (ma, zi E 3 ar2_22), (ml, zi E 4 lo2_22), (ms, zi E 8 st2_22), (mp, zo 4 [.ref mpk, .ref mpv, .int (nI n)]), (mpk, zi E 600 f), (mpv, zi E 600 g), (mt, zi E 4 (zn stp2_22)), (p, zo 5 [.int (nI 2), .ref po, .ref pn, .int (nI len)]), (po, zi E 64 op), (pn, zi E 64 nn), (jre, zo 2 [.ref tk, .ref tv, .int (nI n2_22)]), (tk, zi E 600 kf2_22), (tv, zi E 600 vf2_22), (r, zo 4 [.ref rk, .ref rv, .int (nI rn)]), (rk, zi E 600 rf), (rv, zi E 600 rg), (jco, zi E 8 (upd co 2 (nI rn)))] (by decide) rfl ?_
  refine z_if_neP 28 32 C0 dX1_foldValues_25 rfl (by decide) (fun k25 => ?_) (fun k25 => ?_)
  · skip
    refine z_aload_n 33 C0 0 dX1_foldValues_32 rfl rfl rfl ?_
    refine z_get 36 C0 0 5 wz_1 rfl (by decide) (zTs_in wk_181) dX1_foldValues_33 rfl rfl rfl ?_
    refine z_iconst 37 C0 (v := (nI 3)) dX1_foldValues_36 rfl rfl ?_
    refine z_aload_n 38 C0 0 dX1_foldValues_37 rfl rfl rfl ?_
    refine z_get 41 C0 0 4 wz_1 rfl (by decide) (zTs_in wk_179) dX1_foldValues_38 rfl rfl rfl ?_
    refine z_get 44 C0 12 2 wz_2 rfl (by decide) (zTs_in wk_163) dX1_foldValues_41 rfl rfl rfl ?_
    refine z_iastN 45 C0 18 [(jb, zo 1 [.ref m, .ref jse, .ref jst, .ref jjo, .ref jre, .ref jco]), (m, zo 3 [.ref ma, .ref ml, .ref ms, .int (nI h2_22), .int an2_22, .ref mp, .int (nI em2_22), .ref mt]), (ma, zi E 3 ar2_22), (ml, zi E 4 lo2_22), (ms, zi E 8 st2_22), (mp, zo 4 [.ref mpk, .ref mpv, .int (nI n)]), (mpk, zi E 600 f), (mpv, zi E 600 g), (mt, zi E 4 (zn stp2_22)), (p, zo 5 [.int (nI 2), .ref po, .ref pn, .int (nI len)]), (po, zi E 64 op), (pn, zi E 64 nn), (jre, zo 2 [.ref tk, .ref tv, .int (nI n2_22)]), (tk, zi E 600 kf2_22), (tv, zi E 600 vf2_22), (r, zo 4 [.ref rk, .ref rv, .int (nI rn)]), (rk, zi E 600 rf), (rv, zi E 600 rg), (jco, zi E 8 (upd (upd co 2 (nI rn)) 3 (nI n2_22)))] dX1_foldValues_44 rfl rfl (by omega) (by decide) rfl ?_
    refine z_iconst 46 C0 (v := (-1)) dX1_foldValues_45 rfl (by decide) ?_
    obtain ⟨z, hz⟩ : ∃ z, (mgL (pF op nn) (tab rf rg 0 rn) (fun _ => none, 0)) = some z := Option.ne_none_iff_exists'.mp k25
    exact z_iret C0 rfl dX1_foldValues_46 ⟨h2_22, an2_22, em2_22, ar2_22, lo2_22, st2_22, stp2_22, n2_22, kf2_22, vf2_22, (upd (upd co 2 (nI rn)) 3 (nI n2_22)), ⟨(by rw [hz]; rfl), rfl⟩, (by omega), (fun M s q => ⟨(fM_22 M s q).1, (fM_22 M s q).2, rfl⟩)⟩ (by decide) (by decide)
  · skip
    refine z_sipush 31 C0 (v := (nI 2000)) dX1_foldValues_28 rfl rfl ?_
    have hno : (mgL (pF op nn) (tab rf rg 0 rn) (fun _ => none, 0)) = none := Classical.byContradiction fun q => k25 q
    exact z_iret C0 rfl dX1_foldValues_31 ⟨h2_22, an2_22, em2_22, ar2_22, lo2_22, st2_22, stp2_22, n2_22, kf2_22, vf2_22, (upd co 2 (nI rn)), ⟨(by rw [hno]; rfl), rfl⟩, (by omega), (fun M s q => by rw [hno] at q; cases q)⟩ (by decide) (by decide)

set_option maxHeartbeats 4000000 in
set_option maxRecDepth 100000 in
theorem endKeys (l_ : Launch) (E : zE) (jb : Nat) (jse : Nat) (jst : Nat) (jjo : Nat) (jre : Nat) (jco : Nat) (m : Nat) (ma : Nat) (ml : Nat) (ms : Nat) (mp : Nat) (mt : Nat) (h : Nat) (an : Int32) (em : Nat) (ar : Nat → Int32) (lo : Nat → Int32) (st : Nat → Int32) (mpk : Nat) (mpv : Nat) (f : Nat → Int32) (g : Nat → Int32) (n : Nat) (stp : Nat → Nat) (p : Nat) (po : Nat) (pn : Nat) (op : Nat → Int32) (nn : Nat → Int32) (len : Nat) (tk : Nat) (tv : Nat) (kf : Nat → Int32) (vf : Nat → Int32) (tn : Nat) (hG : Good 3 op nn len) (hlen : len ≤ 64) (hn : n ≤ 600) (htn : tn ≤ 600) : zMi l_ E yX1_endKeys (zTs yX1_endKeys cX1_endKeys 5 (some .int)) ({ frames := 4, cells := 0, slots := 0, locals := 97 } : Room) [.ref jb, .ref p] [(jb, zo 1 [.ref m, .ref jse, .ref jst, .ref jjo, .ref jre, .ref jco]), (m, zo 3 [.ref ma, .ref ml, .ref ms, .int (nI h), .int an, .ref mp, .int (nI em), .ref mt]), (ma, zi E 3 ar), (ml, zi E 4 lo), (ms, zi E 8 st), (mp, zo 4 [.ref mpk, .ref mpv, .int (nI n)]), (mpk, zi E 600 f), (mpv, zi E 600 g), (mt, zi E 4 (zn stp)), (p, zo 5 [.int (nI 3), .ref po, .ref pn, .int (nI len)]), (po, zi E 64 op), (pn, zi E 64 nn), (jre, zo 2 [.ref tk, .ref tv, .int (nI tn)]), (tk, zi E 600 kf), (tv, zi E 600 vf)] (fun r_ w_ => ∃ h2 : Nat, ∃ an2 : Int32, ∃ em2 : Nat, ∃ ar2 : Nat → Int32, ∃ lo2 : Nat → Int32, ∃ st2 : Nat → Int32, ∃ stp2 : Nat → Nat, ∃ n2 : Nat, ∃ kf2 : Nat → Int32, ∃ vf2 : Nat → Int32, ∃ r2 : Int32, (r_ = r2 ∧ w_ = [(jb, zo 1 [.ref m, .ref jse, .ref jst, .ref jjo, .ref jre, .ref jco]), (m, zo 3 [.ref ma, .ref ml, .ref ms, .int (nI h2), .int an2, .ref mp, .int (nI em2), .ref mt]), (ma, zi E 3 ar2), (ml, zi E 4 lo2), (ms, zi E 8 st2), (mp, zo 4 [.ref mpk, .ref mpv, .int (nI n)]), (mpk, zi E 600 f), (mpv, zi E 600 g), (mt, zi E 4 (zn stp2)), (p, zo 5 [.int (nI 3), .ref po, .ref pn, .int (nI len)]), (po, zi E 64 op), (pn, zi E 64 nn), (jre, zo 2 [.ref tk, .ref tv, .int (nI n2)]), (tk, zi E 600 kf2), (tv, zi E 600 vf2)]) ∧ (endR op nn kf vf tn r2) ∧ (n2 ≤ 600) ∧ (r2 = -1 → n2 = (enK op nn kf vf tn).length ∧ (∀ j, j < n2 → (kf2 j, vf2 j) = (enK op nn kf vf tn).getD j (0, 0)) ∧ stp2 = va_up stp 3 (stp 3 + enS op nn kf vf tn))) 0 0 := by
  refine zMi.of (cc := cX1_endKeys) (nL := 5) (ret := (some .int)) (by decide) rfl (Nat.le_of_ble_eq_true rfl) ?_
  intro p_ e_ s_ m_ args_ below_ meth_ c_ A_ C0 hin0
  have C0 : zC E p_ s_ m_ args_ meth_ c_ cX1_endKeys 5 (some .int) RX1 (zTs yX1_endKeys cX1_endKeys 5 (some .int)) A_ := C0
  refine z_eqL (L1 := [(0, .ref jb), (1, .ref p)]) rfl ?_
  refine z_iconst 1 C0 (v := (nI 0)) dX1_endKeys_0 rfl rfl ?_
  refine z_istore_n 2 C0 [1, 2, 0] [(0, .ref jb), (1, .ref p), (2, .int (nI 0))] dX1_endKeys_1 rfl rfl (by decide) rfl ?_
  refine z_iconst 3 C0 (v := (nI 0)) dX1_endKeys_2 rfl rfl ?_
  refine z_eq (L1 := [(0, .ref jb), (1, .ref p), (2, .int (nI ((enK op nn kf vf 0).length)))]) (st1 := [.int (nI 0)]) (w1 := [(jb, zo 1 [.ref m, .ref jse, .ref jst, .ref jjo, .ref jre, .ref jco]), (m, zo 3 [.ref ma, .ref ml, .ref ms, .int (nI h), .int an, .ref mp, .int (nI em), .ref mt]), (ma, zi E 3 ar), (ml, zi E 4 lo), (ms, zi E 8 st), (mp, zo 4 [.ref mpk, .ref mpv, .int (nI n)]), (mpk, zi E 600 f), (mpv, zi E 600 g), (mt, zi E 4 (zn stp)), (p, zo 5 [.int (nI 3), .ref po, .ref pn, .int (nI len)]), (po, zi E 64 op), (pn, zi E 64 nn), (jre, zo 2 [.ref tk, .ref tv, .int (nI tn)]), (tk, zi E 600 kf), (tv, zi E 600 vf)]) rfl rfl rfl ?_
  refine z_istore_n 4 C0 [1, 2, 3, 0] [(0, .ref jb), (1, .ref p), (2, .int (nI ((enK op nn kf vf 0).length))), (3, .int (nI 0))] dX1_endKeys_3 rfl rfl (by decide) rfl ?_
  have CUT4 : ∀ (N4 : Nat) (i : Nat) (h : Nat) (an : Int32) (em : Nat) (ar : Nat → Int32) (lo : Nat → Int32) (st : Nat → Int32) (sp : Nat → Nat) (kx : Nat → Int32) (vx : Nat → Int32), (i ≤ tn) → (∀ x, x < i → (enC op nn kf vf x).1 ≠ 0) → (∀ j, j < (enK op nn kf vf i).length → (kx j, vx j) = (enK op nn kf vf i).getD j (0, 0)) → (∀ j, i ≤ j → kx j = kf j ∧ vx j = vf j) → (sp = va_up stp 3 (stp 3 + enS op nn kf vf i)) → tn - i < N4 → Z E p_ l_ e_ ({ frames := 4, cells := 0, slots := 0, locals := 97 } : Room) s_ m_ args_ below_ meth_ c_ (MQ below_ (va_Qi (fun r_ w_ => ∃ h2 : Nat, ∃ an2 : Int32, ∃ em2 : Nat, ∃ ar2 : Nat → Int32, ∃ lo2 : Nat → Int32, ∃ st2 : Nat → Int32, ∃ stp2 : Nat → Nat, ∃ n2 : Nat, ∃ kf2 : Nat → Int32, ∃ vf2 : Nat → Int32, ∃ r2 : Int32, (r_ = r2 ∧ w_ = [(jb, zo 1 [.ref m, .ref jse, .ref jst, .ref jjo, .ref jre, .ref jco]), (m, zo 3 [.ref ma, .ref ml, .ref ms, .int (nI h2), .int an2, .ref mp, .int (nI em2), .ref mt]), (ma, zi E 3 ar2), (ml, zi E 4 lo2), (ms, zi E 8 st2), (mp, zo 4 [.ref mpk, .ref mpv, .int (nI n)]), (mpk, zi E 600 f), (mpv, zi E 600 g), (mt, zi E 4 (zn stp2)), (p, zo 5 [.int (nI 3), .ref po, .ref pn, .int (nI len)]), (po, zi E 64 op), (pn, zi E 64 nn), (jre, zo 2 [.ref tk, .ref tv, .int (nI n2)]), (tk, zi E 600 kf2), (tv, zi E 600 vf2)]) ∧ (endR op nn kf vf tn r2) ∧ (n2 ≤ 600) ∧ (r2 = -1 → n2 = (enK op nn kf vf tn).length ∧ (∀ j, j < n2 → (kf2 j, vf2 j) = (enK op nn kf vf tn).getD j (0, 0)) ∧ stp2 = va_up stp 3 (stp 3 + enS op nn kf vf tn))) (zPost E A_) A_) args_ s_ 0 0 A_) A_ 5 4 [(0, .ref jb), (1, .ref p), (2, .int (nI ((enK op nn kf vf i).length))), (3, .int (nI i))] [] [(jb, zo 1 [.ref m, .ref jse, .ref jst, .ref jjo, .ref jre, .ref jco]), (m, zo 3 [.ref ma, .ref ml, .ref ms, .int (nI h), .int an, .ref mp, .int (nI em), .ref mt]), (ma, zi E 3 ar), (ml, zi E 4 lo), (ms, zi E 8 st), (mp, zo 4 [.ref mpk, .ref mpv, .int (nI n)]), (mpk, zi E 600 f), (mpv, zi E 600 g), (mt, zi E 4 (zn sp)), (p, zo 5 [.int (nI 3), .ref po, .ref pn, .int (nI len)]), (po, zi E 64 op), (pn, zi E 64 nn), (jre, zo 2 [.ref tk, .ref tv, .int (nI tn)]), (tk, zi E 600 kx), (tv, zi E 600 vx)] 0 0 := by
    intro N4
    induction N4 with
    | zero => intro i h an em ar lo st sp kx vx hi hok hA hB hsp hm4; exact absurd hm4 (Nat.not_lt_zero _)
    | succ N4 ih4 =>
      intro i h an em ar lo st sp kx vx hi hok hA hB hsp hm4
      refine z_iload_n 5 C0 3 dX1_endKeys_4 rfl rfl rfl ?_
      refine z_aload_n 6 C0 0 dX1_endKeys_5 rfl rfl rfl ?_
      refine z_get 9 C0 0 4 wz_1 rfl (by decide) (zTs_in wk_179) dX1_endKeys_6 rfl rfl rfl ?_
      refine z_get 12 C0 12 2 wz_2 rfl (by decide) (zTs_in wk_163) dX1_endKeys_9 rfl rfl rfl ?_
      refine z_icmp_geN 15 102 C0 (by omega) (by omega) dX1_endKeys_12 rfl (by decide) (fun k12 => ?_) (fun k12 => ?_)
      · skip
        refine z_aload_n 103 C0 0 dX1_endKeys_102 rfl rfl rfl ?_
        refine z_get 106 C0 0 4 wz_1 rfl (by decide) (zTs_in wk_179) dX1_endKeys_103 rfl rfl rfl ?_
        refine z_iload_n 107 C0 2 dX1_endKeys_106 rfl rfl rfl ?_
        refine z_put 110 C0 12 2 [(jb, zo 1 [.ref m, .ref jse, .ref jst, .ref jjo, .ref jre, .ref jco]), (m, zo 3 [.ref ma, .ref ml, .ref ms, .int (nI h), .int an, .ref mp, .int (nI em), .ref mt]), (ma, zi E 3 ar), (ml, zi E 4 lo), (ms, zi E 8 st), (mp, zo 4 [.ref mpk, .ref mpv, .int (nI n)]), (mpk, zi E 600 f), (mpv, zi E 600 g), (mt, zi E 4 (zn sp)), (p, zo 5 [.int (nI 3), .ref po, .ref pn, .int (nI len)]), (po, zi E 64 op), (pn, zi E 64 nn), (jre, zo 2 [.ref tk, .ref tv, .int (nI ((enK op nn kf vf i).length))]), (tk, zi E 600 kx), (tv, zi E 600 vx)] wz_2 rfl (by decide) (zTs_in wk_163) tyX2 tyX2_ok nmX2 rfl rfl rfl rfl dX1_endKeys_107 rfl rfl (Nat.le_of_ble_eq_true rfl) rfl ?_
        refine z_iconst 111 C0 (v := (-1)) dX1_endKeys_110 rfl (by decide) ?_
        obtain rfl : i = tn := by omega
        have hle := enK_len op nn kf vf i
        exact z_iret C0 rfl dX1_endKeys_111 ⟨h, an, em, ar, lo, st, sp, ((enK op nn kf vf i).length), kx, vx, (-1), ⟨rfl, rfl⟩, (Or.inr ⟨hok, rfl⟩), (by omega), (fun _ => ⟨rfl, hA, hsp⟩)⟩ (by decide) (by decide)
      · skip
        refine z_aload_n 16 C0 0 dX1_endKeys_15 rfl rfl rfl ?_
        refine z_get 19 C0 0 0 wz_1 rfl (by decide) (zTs_in wk_175) dX1_endKeys_16 rfl rfl rfl ?_
        refine z_aload_n 20 C0 1 dX1_endKeys_19 rfl rfl rfl ?_
        refine z_aload_n 21 C0 0 dX1_endKeys_20 rfl rfl rfl ?_
        refine z_get 24 C0 0 4 wz_1 rfl (by decide) (zTs_in wk_179) dX1_endKeys_21 rfl rfl rfl ?_
        refine z_get 27 C0 12 0 wz_2 rfl (by decide) (zTs_in wk_156) dX1_endKeys_24 rfl rfl rfl ?_
        refine z_iload_n 28 C0 3 dX1_endKeys_27 rfl rfl rfl ?_
        refine z_ialdN 29 C0 13 (v := (kf i)) dX1_endKeys_28 rfl rfl (by omega) (by decide) (hB i (Nat.le_refl i)).1 ?_
        refine z_aload_n 30 C0 0 dX1_endKeys_29 rfl rfl rfl ?_
        refine z_get 33 C0 0 4 wz_1 rfl (by decide) (zTs_in wk_179) dX1_endKeys_30 rfl rfl rfl ?_
        refine z_get 36 C0 12 1 wz_2 rfl (by decide) (zTs_in wk_160) dX1_endKeys_33 rfl rfl rfl ?_
        refine z_iload_n 37 C0 3 dX1_endKeys_36 rfl rfl rfl ?_
        refine z_ialdN 38 C0 14 (v := (vf i)) dX1_endKeys_37 rfl rfl (by omega) (by decide) (hB i (Nat.le_refl i)).2 ?_
        refine z_iconst 39 C0 (v := (nI 0)) dX1_endKeys_38 rfl rfl ?_
        refine z_callVi 42 C0 [1, 2, 3, 4, 5, 6, 7, 8, 9, 10, 11] [0, 12, 13, 14] [(jb, zo 1 [.ref m, .ref jse, .ref jst, .ref jjo, .ref jre, .ref jco]), (jre, zo 2 [.ref tk, .ref tv, .int (nI tn)]), (tk, zi E 600 kx), (tv, zi E 600 vx)] 0 0 (As := [.ref p, .int (kf i), .int (vf i), .int (nI 0)]) (T := TX3) (N := 8) (C := RX3) (ci := 3) (n := 4) 0 (call l_ E m ma ml ms mp mt h an em ar lo st mpk mpv f g n sp p po pn 3 op nn len (kf i) (vf i) (nI 0) (by omega) (by omega) (by omega) (by omega)) (zGIV (fun _ => zTs_in) wk_343 wk_340 wk_341 wk_342 wk_18) rfl ⟨rfl, by decide, by decide, by decide +kernel⟩ rfl rfl rfl rfl (by decide) rfl rfl (Nat.le_of_ble_eq_true rfl) ⟨by decide, by decide⟩ rfl rfl ⟨by decide, by decide⟩ ⟨by decide, by decide⟩ dX1_endKeys_39 rfl (fun r39 w39 hB39 => ?_)
        obtain ⟨h2_39, an2_39, ar2_39, lo2_39, st2_39, ⟨rfl, rfl⟩, fh_39, fa_39⟩ := hB39
        refine z_perm [0, 4, 5, 6, 7, 8, 9, 10, 11, 12, 13, 14, 1, 2, 3] [(jb, zo 1 [.ref m, .ref jse, .ref jst, .ref jjo, .ref jre, .ref jco]), (m, zo 3 [.ref ma, .ref ml, .ref ms, .int (nI h2_39), .int an2_39, .ref mp, .int (nI ((callR op nn (kf i) (vf i) (nI 0)).2.2.2.length)), .ref mt]), (ma, zi E 3 ar2_39), (ml, zi E 4 lo2_39), (ms, zi E 8 st2_39), (mp, zo 4 [.ref mpk, .ref mpv, .int (nI (rwN 600 n (callR op nn (kf i) (vf i) (nI 0)).2.2.2))]), (mpk, zi E 600 (rwK 600 n f (callR op nn (kf i) (vf i) (nI 0)).2.2.2)), (mpv, zi E 600 (rwV 600 n g (callR op nn (kf i) (vf i) (nI 0)).2.2.2)), (mt, zi E 4 (zn (stpU sp 3 (callR op nn (kf i) (vf i) (nI 0))))), (p, zo 5 [.int (nI 3), .ref po, .ref pn, .int (nI len)]), (po, zi E 64 op), (pn, zi E 64 nn), (jre, zo 2 [.ref tk, .ref tv, .int (nI tn)]), (tk, zi E 600 kx), (tv, zi E 600 vx)] (by decide) rfl ?_
        have hP0 : (enC op nn kf vf i).2.2.2 = [] := callR_nil hG hlen (by decide) _ _ _
        have hle := callR_le op nn (kf i) (vf i) (nI 0)
        refine z_eq (L1 := [(0, .ref jb), (1, .ref p), (2, .int (nI ((enK op nn kf vf i).length))), (3, .int (nI i))]) (st1 := [.int (nI ((callR op nn (kf i) (vf i) (nI 0)).1))]) (w1 := [(jb, zo 1 [.ref m, .ref jse, .ref jst, .ref jjo, .ref jre, .ref jco]), (m, zo 3 [.ref ma, .ref ml, .ref ms, .int (nI h2_39), .int an2_39, .ref mp, .int (nI ((callR op nn (kf i) (vf i) (nI 0)).2.2.2.length)), .ref mt]), (ma, zi E 3 ar2_39), (ml, zi E 4 lo2_39), (ms, zi E 8 st2_39), (mp, zo 4 [.ref mpk, .ref mpv, .int (nI n)]), (mpk, zi E 600 f), (mpv, zi E 600 g), (mt, zi E 4 (zn (stpU sp 3 (callR op nn (kf i) (vf i) (nI 0))))), (p, zo 5 [.int (nI 3), .ref po, .ref pn, .int (nI len)]), (po, zi E 64 op), (pn, zi E 64 nn), (jre, zo 2 [.ref tk, .ref tv, .int (nI tn)]), (tk, zi E 600 kx), (tv, zi E 600 vx)]) rfl rfl (by show [_, _, _, _, _, (_, zo 4 [_, _, .int (nI (rwN 600 n (enC op nn kf vf i).2.2.2))]), (_, zi E 600 (rwK 600 n f (enC op nn kf vf i).2.2.2)), (_, zi E 600 (rwV 600 n g (enC op nn kf vf i).2.2.2)), _, _, _, _, _, _, _] = _; rw [hP0, rwK_0, rwV_0, rwN_0 hn]) ?_
        refine z_istore 44 C0 [1, 2, 3, 4, 0] [(0, .ref jb), (1, .ref p), (2, .int (nI ((enK op nn kf vf i).length))), (3, .int (nI i)), (4, .int (nI ((callR op nn (kf i) (vf i) (nI 0)).1)))] dX1_endKeys_42 rfl (by decide) rfl ?_
        refine z_iload 46 C0 4 dX1_endKeys_44 rfl rfl ?_
        refine z_if_neN 49 53 C0 (by omega) dX1_endKeys_46 rfl (by decide) (fun k46 => ?_) (fun k46 => ?_)
        · skip
          refine z_iload 55 C0 4 dX1_endKeys_53 rfl rfl ?_
          refine z_iconst 56 C0 (v := (nI 1)) dX1_endKeys_55 rfl rfl ?_
          refine z_icmp_neN 59 96 C0 (by omega) (by decide) dX1_endKeys_56 rfl (by decide) (fun k56 => ?_) (fun k56 => ?_)
          · skip
            refine z_eq (L1 := [(0, .ref jb), (1, .ref p), (2, .int (nI ((enK op nn kf vf (i + 1)).length))), (3, .int (nI i)), (4, .int (nI ((callR op nn (kf i) (vf i) (nI 0)).1)))]) (st1 := []) (w1 := [(jb, zo 1 [.ref m, .ref jse, .ref jst, .ref jjo, .ref jre, .ref jco]), (m, zo 3 [.ref ma, .ref ml, .ref ms, .int (nI h2_39), .int an2_39, .ref mp, .int (nI ((callR op nn (kf i) (vf i) (nI 0)).2.2.2.length)), .ref mt]), (ma, zi E 3 ar2_39), (ml, zi E 4 lo2_39), (ms, zi E 8 st2_39), (mp, zo 4 [.ref mpk, .ref mpv, .int (nI n)]), (mpk, zi E 600 f), (mpv, zi E 600 g), (mt, zi E 4 (zn (stpU sp 3 (callR op nn (kf i) (vf i) (nI 0))))), (p, zo 5 [.int (nI 3), .ref po, .ref pn, .int (nI len)]), (po, zi E 64 op), (pn, zi E 64 nn), (jre, zo 2 [.ref tk, .ref tv, .int (nI tn)]), (tk, zi E 600 kx), (tv, zi E 600 vx)]) (by rw [enK_skip k56]) rfl rfl ?_
            refine z_iinc 99 C0 3 [1, 2, 3, 0, 4] [(0, .ref jb), (1, .ref p), (2, .int (nI ((enK op nn kf vf (i + 1)).length))), (3, .int (nI (i + 1))), (4, .int (nI ((callR op nn (kf i) (vf i) (nI 0)).1)))] (v := (nI (i + 1))) dX1_endKeys_96 rfl rfl (z_incN _ _) (by decide) rfl ?_
            refine z_goto 4 C0 dX1_endKeys_99 (by decide) ?_
            refine z_loc [0, 1, 2, 3] [(0, .ref jb), (1, .ref p), (2, .int (nI ((enK op nn kf vf (i + 1)).length))), (3, .int (nI (i + 1)))] rfl ?_
            exact ih4 (i + 1) h2_39 an2_39 ((callR op nn (kf i) (vf i) (nI 0)).2.2.2.length) ar2_39 lo2_39 st2_39 (stpU sp 3 (callR op nn (kf i) (vf i) (nI 0))) kx vx (by omega) (fun x hx => by rcases Nat.lt_or_ge x i with q | q; exact hok x q; rw [show x = i by omega]; exact k46) (by rw [enK_skip k56]; exact hA) (fun j hj => hB j (by omega)) (by show _ = va_up stp 3 (stp 3 + (enS op nn kf vf i + (enC op nn kf vf i).2.2.1)); unfold stpU; rw [if_neg k46, hsp]; exact z_up_add _ _ _ _) (by omega)
          · skip
            have hlt : (enK op nn kf vf i).length < 600 := by have := enK_len op nn kf vf i; omega
            refine z_aload_n 60 C0 0 dX1_endKeys_59 rfl rfl rfl ?_
            refine z_get 63 C0 0 4 wz_1 rfl (by decide) (zTs_in wk_179) dX1_endKeys_60 rfl rfl rfl ?_
            refine z_get 66 C0 12 0 wz_2 rfl (by decide) (zTs_in wk_156) dX1_endKeys_63 rfl rfl rfl ?_
            refine z_iload_n 67 C0 2 dX1_endKeys_66 rfl rfl rfl ?_
            refine z_aload_n 68 C0 0 dX1_endKeys_67 rfl rfl rfl ?_
            refine z_get 71 C0 0 4 wz_1 rfl (by decide) (zTs_in wk_179) dX1_endKeys_68 rfl rfl rfl ?_
            refine z_get 74 C0 12 0 wz_2 rfl (by decide) (zTs_in wk_156) dX1_endKeys_71 rfl rfl rfl ?_
            refine z_iload_n 75 C0 3 dX1_endKeys_74 rfl rfl rfl ?_
            refine z_ialdN 76 C0 13 (v := (kx i)) dX1_endKeys_75 rfl rfl (by omega) (by decide) rfl ?_
            refine z_iastN 77 C0 13 [(jb, zo 1 [.ref m, .ref jse, .ref jst, .ref jjo, .ref jre, .ref jco]), (m, zo 3 [.ref ma, .ref ml, .ref ms, .int (nI h2_39), .int an2_39, .ref mp, .int (nI ((callR op nn (kf i) (vf i) (nI 0)).2.2.2.length)), .ref mt]), (ma, zi E 3 ar2_39), (ml, zi E 4 lo2_39), (ms, zi E 8 st2_39), (mp, zo 4 [.ref mpk, .ref mpv, .int (nI n)]), (mpk, zi E 600 f), (mpv, zi E 600 g), (mt, zi E 4 (zn (stpU sp 3 (callR op nn (kf i) (vf i) (nI 0))))), (p, zo 5 [.int (nI 3), .ref po, .ref pn, .int (nI len)]), (po, zi E 64 op), (pn, zi E 64 nn), (jre, zo 2 [.ref tk, .ref tv, .int (nI tn)]), (tk, zi E 600 (upd kx ((enK op nn kf vf i).length) (kx i))), (tv, zi E 600 vx)] dX1_endKeys_76 rfl rfl (by omega) (by decide) rfl ?_
            refine z_aload_n 78 C0 0 dX1_endKeys_77 rfl rfl rfl ?_
            refine z_get 81 C0 0 4 wz_1 rfl (by decide) (zTs_in wk_179) dX1_endKeys_78 rfl rfl rfl ?_
            refine z_get 84 C0 12 1 wz_2 rfl (by decide) (zTs_in wk_160) dX1_endKeys_81 rfl rfl rfl ?_
            refine z_iload_n 85 C0 2 dX1_endKeys_84 rfl rfl rfl ?_
            refine z_aload_n 86 C0 0 dX1_endKeys_85 rfl rfl rfl ?_
            refine z_get 89 C0 0 0 wz_1 rfl (by decide) (zTs_in wk_175) dX1_endKeys_86 rfl rfl rfl ?_
            refine z_get 92 C0 1 4 wz_3 rfl (by decide) (zTs_in wk_124) dX1_endKeys_89 rfl rfl rfl ?_
            refine z_iastN 93 C0 14 [(jb, zo 1 [.ref m, .ref jse, .ref jst, .ref jjo, .ref jre, .ref jco]), (m, zo 3 [.ref ma, .ref ml, .ref ms, .int (nI h2_39), .int an2_39, .ref mp, .int (nI ((callR op nn (kf i) (vf i) (nI 0)).2.2.2.length)), .ref mt]), (ma, zi E 3 ar2_39), (ml, zi E 4 lo2_39), (ms, zi E 8 st2_39), (mp, zo 4 [.ref mpk, .ref mpv, .int (nI n)]), (mpk, zi E 600 f), (mpv, zi E 600 g), (mt, zi E 4 (zn (stpU sp 3 (callR op nn (kf i) (vf i) (nI 0))))), (p, zo 5 [.int (nI 3), .ref po, .ref pn, .int (nI len)]), (po, zi E 64 op), (pn, zi E 64 nn), (jre, zo 2 [.ref tk, .ref tv, .int (nI tn)]), (tk, zi E 600 (upd kx ((enK op nn kf vf i).length) (kx i))), (tv, zi E 600 (upd vx ((enK op nn kf vf i).length) an2_39))] dX1_endKeys_92 rfl rfl (by omega) (by decide) rfl ?_
            refine z_iinc 96 C0 2 [1, 2, 0, 3, 4] [(0, .ref jb), (1, .ref p), (2, .int (nI (((enK op nn kf vf i).length) + 1))), (3, .int (nI i)), (4, .int (nI ((callR op nn (kf i) (vf i) (nI 0)).1)))] (v := (nI (((enK op nn kf vf i).length) + 1))) dX1_endKeys_93 rfl rfl (z_incN _ _) (by decide) rfl ?_
            refine z_eq (L1 := [(0, .ref jb), (1, .ref p), (2, .int (nI ((enK op nn kf vf (i + 1)).length))), (3, .int (nI i)), (4, .int (nI ((callR op nn (kf i) (vf i) (nI 0)).1)))]) (st1 := []) (w1 := [(jb, zo 1 [.ref m, .ref jse, .ref jst, .ref jjo, .ref jre, .ref jco]), (m, zo 3 [.ref ma, .ref ml, .ref ms, .int (nI h2_39), .int an2_39, .ref mp, .int (nI ((callR op nn (kf i) (vf i) (nI 0)).2.2.2.length)), .ref mt]), (ma, zi E 3 ar2_39), (ml, zi E 4 lo2_39), (ms, zi E 8 st2_39), (mp, zo 4 [.ref mpk, .ref mpv, .int (nI n)]), (mpk, zi E 600 f), (mpv, zi E 600 g), (mt, zi E 4 (zn (stpU sp 3 (callR op nn (kf i) (vf i) (nI 0))))), (p, zo 5 [.int (nI 3), .ref po, .ref pn, .int (nI len)]), (po, zi E 64 op), (pn, zi E 64 nn), (jre, zo 2 [.ref tk, .ref tv, .int (nI tn)]), (tk, zi E 600 (upd kx ((enK op nn kf vf i).length) (kx i))), (tv, zi E 600 (upd vx ((enK op nn kf vf i).length) an2_39))]) (by rw [enK_take k56, List.length_append]; rfl) rfl rfl ?_
            refine z_iinc 99 C0 3 [1, 2, 3, 0, 4] [(0, .ref jb), (1, .ref p), (2, .int (nI ((enK op nn kf vf (i + 1)).length))), (3, .int (nI (i + 1))), (4, .int (nI ((callR op nn (kf i) (vf i) (nI 0)).1)))] (v := (nI (i + 1))) dX1_endKeys_96 rfl rfl (z_incN _ _) (by decide) rfl ?_
            refine z_goto 4 C0 dX1_endKeys_99 (by decide) ?_
            refine z_loc [0, 1, 2, 3] [(0, .ref jb), (1, .ref p), (2, .int (nI ((enK op nn kf vf (i + 1)).length))), (3, .int (nI (i + 1)))] rfl ?_
            exact ih4 (i + 1) h2_39 an2_39 ((callR op nn (kf i) (vf i) (nI 0)).2.2.2.length) ar2_39 lo2_39 st2_39 (stpU sp 3 (callR op nn (kf i) (vf i) (nI 0))) (upd kx ((enK op nn kf vf i).length) (kx i)) (upd vx ((enK op nn kf vf i).length) an2_39) (by omega) (fun x hx => by rcases Nat.lt_or_ge x i with q | q; exact hok x q; rw [show x = i by omega]; exact k46) (en_put hlt hA (hB i (Nat.le_refl i)).1 k56 (fa_39 k46)) (fun j hj => by have := enK_len op nn kf vf i; rw [en_upd (by omega), en_upd (by omega)]; exact hB j (by omega)) (by show _ = va_up stp 3 (stp 3 + (enS op nn kf vf i + (enC op nn kf vf i).2.2.1)); unfold stpU; rw [if_neg k46, hsp]; exact z_up_add _ _ _ _) (by omega)
        · skip
          refine z_sipush 52 C0 (v := (nI 3000)) dX1_endKeys_49 rfl rfl ?_
          exact z_iret C0 rfl dX1_endKeys_52 ⟨h2_39, an2_39, ((enC op nn kf vf i).2.2.2.length), ar2_39, lo2_39, st2_39, (stpU sp 3 (enC op nn kf vf i)), tn, kx, vx, (nI 3000), ⟨rfl, rfl⟩, (Or.inl ⟨i, by omega, k46, rfl⟩), (by omega), (fun q => absurd q (nI_neg1 (by omega)))⟩ (by decide) (by decide)
  exact CUT4 (tn - 0 + 1) 0 h an em ar lo st stp kf vf (Nat.zero_le _) (fun x hx => absurd hx (Nat.not_lt_zero x)) (fun j hj => absurd hj (Nat.not_lt_zero j)) (fun j _ => ⟨rfl, rfl⟩) (z_up_self _ _).symm (Nat.lt_succ_self _)
end
section
/-! a job, as mathematics -/
section JOB
variable {op nn rf rg : Nat → Int32}
theorem spl_lt {rn sz s : Nat} (hsz : 1 ≤ sz) (h : s < (rn + sz - 1) / sz) : s * sz < rn := by
  have h1 : (s + 1) * sz ≤ (rn + sz - 1) / sz * sz := Nat.mul_le_mul_right sz h
  have h2 := Nat.div_mul_le_self (rn + sz - 1) sz
  rw [Nat.add_mul, Nat.one_mul] at h1
  omega
theorem spl_le {rn sz : Nat} (hsz : 1 ≤ sz) : (rn + sz - 1) / sz ≤ rn := by
  rcases Nat.eq_zero_or_pos rn with h | h
  · subst h
    rw [Nat.div_eq_of_lt (by omega)]
    exact Nat.le_refl 0
  · apply Nat.le_of_not_lt
    intro q
    have := spl_lt hsz q
    have h2 : rn * 1 ≤ rn * sz := Nat.mul_le_mul_left rn hsz
    omega
theorem mpP_app (i d : Nat) : ∃ R, mpP op nn rf rg (i + d) = mpP op nn rf rg i ++ R := by
  induction d with
  | zero => exact ⟨[], (List.append_nil _).symm⟩
  | succ d ih =>
    obtain ⟨R, hR⟩ := ih
    refine ⟨R ++ (mpC op nn rf rg (i + d)).2.2.2, ?_⟩
    show mpP op nn rf rg (i + d) ++ (mpC op nn rf rg (i + d)).2.2.2 = _
    rw [hR, List.append_assoc]
theorem mpP_mono {i j : Nat} (h : i ≤ j) : (mpP op nn rf rg i).length ≤ (mpP op nn rf rg j).length := by
  obtain ⟨R, hR⟩ := mpP_app (op := op) (nn := nn) (rf := rf) (rg := rg) i (j - i)
  rw [show i + (j - i) = j by omega] at hR
  rw [hR, List.length_append]
  omega
end JOB
def PK (P : List (Int32 × Int32)) (j : Nat) : Int32 := (P.getD j (0, 0)).1
def PV (P : List (Int32 × Int32)) (j : Nat) : Int32 := (P.getD j (0, 0)).2
theorem tab_congr {f g f2 g2 : Nat → Int32} : ∀ {i c : Nat}, (∀ j, i ≤ j → j < i + c → f j = f2 j ∧ g j = g2 j) → tab f g i c = tab f2 g2 i c := by
  intro i c
  induction c generalizing i with
  | zero => intro _; rfl
  | succ c ih =>
    intro h
    rw [tab_s, tab_s, (h i (Nat.le_refl i) (by omega)).1, (h i (Nat.le_refl i) (by omega)).2, ih (fun j h1 h2 => h j (by omega) (by omega))]
theorem tab_get {f g : Nat → Int32} : ∀ {c i j : Nat}, (tab f g i c)[j]? = if j < c then some (f (i + j), g (i + j)) else none := by
  intro c
  induction c with
  | zero => intro i j; rw [if_neg (Nat.not_lt_zero j)]; rfl
  | succ c ih =>
    intro i j
    rw [tab_s]
    cases j with
    | zero => rw [List.getElem?_cons_zero, if_pos (Nat.succ_pos c)]; rfl
    | succ j =>
      rw [List.getElem?_cons_succ, ih, show i + 1 + j = i + (j + 1) by omega]
      by_cases h : j < c
      · rw [if_pos h, if_pos (by omega)]
      · rw [if_neg h, if_neg (by omega)]
theorem tab_PK (P : List (Int32 × Int32)) : tab (PK P) (PV P) 0 P.length = P := by
  apply List.ext_getElem?
  intro j
  rw [tab_get]
  by_cases h : j < P.length
  · rw [if_pos h, List.getElem?_eq_getElem h]
    show some ((P.getD (0 + j) (0, 0)).1, (P.getD (0 + j) (0, 0)).2) = some P[j]
    rw [Nat.zero_add, List.getD_eq_getElem?_getD, List.getElem?_eq_getElem h]
    rfl
  · rw [if_neg h, List.getElem?_eq_none (by omega)]
theorem rwK_PK {f : Nat → Int32} {P : List (Int32 × Int32)} {j : Nat} (h : P.length ≤ 600) (hj : j < P.length) : rwK 600 0 f P j = PK P j := by
  unfold rwK
  rw [if_pos ⟨Nat.zero_le j, by omega, by omega⟩]
  rfl
theorem rwV_PV {f : Nat → Int32} {P : List (Int32 × Int32)} {j : Nat} (h : P.length ≤ 600) (hj : j < P.length) : rwV 600 0 f P j = PV P j := by
  unfold rwV
  rw [if_pos ⟨Nat.zero_le j, by omega, by omega⟩]
  rfl
theorem rwN_len {P : List (Int32 × Int32)} (h : P.length ≤ 600) : rwN 600 0 P = P.length := by
  unfold rwN
  rw [if_pos (by omega), Nat.zero_add]
/-- where a split's pairs begin, among all pairs; and the pairs of a split -/
def cutP (op nn rf rg : Nat → Int32) (rn sz s : Nat) : Nat := (mpP op nn rf rg (min (s * sz) rn)).length
def spLs (op nn rf rg : Nat → Int32) (rn sz s : Nat) : List (Int32 × Int32) :=
  tab (PK (mpP op nn rf rg rn)) (PV (mpP op nn rf rg rn)) (cutP op nn rf rg rn sz s) (cutP op nn rf rg rn sz (s + 1) - cutP op nn rf rg rn sz s)
abbrev mgF : Type := Int32 → Int32 → Int32 → Option (Int32 × Nat)
def jnL (F : mgF) (Ls : Nat → List (Int32 × Int32)) : Nat → List (Int32 × Int32) → Nat → Prop
  | 0, J, t => J = [] ∧ t = 0
  | s + 1, J, t => ∃ J0 t0 M t1 L, jnL F Ls s J0 t0 ∧ mgL F (Ls s) (fun _ => none, 0) = some (M, t1) ∧ tblL M L ∧ J = J0 ++ L ∧ t = t0 + t1
def joinL (F : mgF) (Ls : Nat → List (Int32 × Int32)) (spl : Nat) (r : Int32) : Prop :=
  (∃ s, s < spl ∧ mgL F (Ls s) (fun _ => none, 0) = none ∧ (∀ x, x < s → mgL F (Ls x) (fun _ => none, 0) ≠ none) ∧ r = nI (1000 + s)) ∨ ((∀ x, x < spl → mgL F (Ls x) (fun _ => none, 0) ≠ none) ∧ r = -1)
theorem joinL_of {F : mgF} {f g : Nat → Int32} {se : Nat → Nat} {Ls : Nat → List (Int32 × Int32)} {spl : Nat} {r : Int32} (h : ∀ s, s < spl → tab f g (sst se s) (se s - sst se s) = Ls s) (hj : joinR F f g se spl r) : joinL F Ls spl r := by
  rcases hj with ⟨s, h1, h2, h3, h4⟩ | ⟨h1, h2⟩
  · refine Or.inl ⟨s, h1, ?_, fun x hx => ?_, h4⟩
    · rw [← h s h1]; exact Classical.byContradiction fun q => h2 q
    · rw [← h x (by omega)]; exact h3 x hx
  · refine Or.inr ⟨fun x hx => ?_, h2⟩
    rw [← h x hx]; exact h1 x hx
theorem jnL_of {F : mgF} {f g : Nat → Int32} {se : Nat → Nat} {Ls : Nat → List (Int32 × Int32)} : ∀ {spl : Nat} {J : List (Int32 × Int32)} {t : Nat}, (∀ s, s < spl → tab f g (sst se s) (se s - sst se s) = Ls s) → jnR F f g se spl J t → jnL F Ls spl J t
  | 0, _, _, _, h => h
  | s + 1, _, _, hs, ⟨J0, t0, M, t1, L, h1, h2, h3, h4, h5⟩ => ⟨J0, t0, M, t1, L, jnL_of (fun x hx => hs x (by omega)) h1, by rw [← hs s (Nat.lt_succ_self s)]; exact h2, h3, h4, h5⟩
abbrev oT : Type := Int32 × List (Int32 × Int32) × (Nat → Int32)
def cE (e : Int32) : Nat → Int32 := fun j => if j = 0 then e else nI 0
def cOK (a b c d e f g : Nat) : Nat → Int32 := fun j =>
  if j = 0 then -1 else if j = 1 then nI a else if j = 2 then nI b else if j = 3 then nI c else if j = 4 then nI d else if j = 5 then nI e else if j = 6 then nI f else nI g
def endO (op3 nn3 : Nat → Int32) (len3 : Nat) (kf vf : Nat → Int32) (n a b d e f : Nat) (o : oT) : Prop :=
  ∃ r3, ((len3 = 0 ∧ r3 = -1) ∨ (len3 ≠ 0 ∧ endR op3 nn3 kf vf n r3)) ∧
    ((r3 ≠ -1 ∧ o = (r3, [], cE r3)) ∨ (r3 = -1 ∧ o = (-1, (if len3 = 0 then tab kf vf 0 n else enK op3 nn3 kf vf n), cOK a b n d e f (if len3 = 0 then 0 else enS op3 nn3 kf vf n))))
def foldO (op2 nn2 op3 nn3 : Nat → Int32) (len3 : Nat) (V : List (Int32 × Int32)) (a d e : Nat) (o : oT) : Prop :=
  (mgL (pF op2 nn2) V (fun _ => none, 0) = none ∧ o = (nI 2000, [], cE (nI 2000))) ∨
  (∃ M t2 n kf vf, mgL (pF op2 nn2) V (fun _ => none, 0) = some (M, t2) ∧ tbl n kf vf M ∧ endO op3 nn3 len3 kf vf n a V.length d e t2 o)
def joinO (op1 nn1 : Nat → Int32) (len1 : Nat) (Ls : Nat → List (Int32 × Int32)) (spl : Nat) (P : List (Int32 × Int32)) (r1 : Int32) (V : List (Int32 × Int32)) (t1 : Nat) : Prop :=
  (len1 = 0 ∧ r1 = -1 ∧ V = P ∧ t1 = 0) ∨ (len1 ≠ 0 ∧ joinL (pF op1 nn1) Ls spl r1 ∧ (r1 = -1 → jnL (pF op1 nn1) Ls spl V t1))
/-- what comes out: the error, the results, the counts -/
def jobR (op0 nn0 op1 nn1 op2 nn2 op3 nn3 : Nat → Int32) (len1 len3 : Nat) (rf rg : Nat → Int32) (rn sz : Nat) (o : oT) : Prop :=
  ∃ r0, mapR op0 nn0 rf rg rn r0 ∧ ((r0 ≠ -1 ∧ o = (r0, [], cE r0)) ∨
    (r0 = -1 ∧ ∃ r1 V t1, joinO op1 nn1 len1 (spLs op0 nn0 rf rg rn sz) ((rn + sz - 1) / sz) (mpP op0 nn0 rf rg rn) r1 V t1 ∧
      ((r1 ≠ -1 ∧ o = (r1, [], cE r1)) ∨ (r1 = -1 ∧ foldO op2 nn2 op3 nn3 len3 V (mpP op0 nn0 rf rg rn).length (mpS op0 nn0 rf rg rn) t1 o))))
theorem mapR_ok {op nn rf rg : Nat → Int32} {n : Nat} {r : Int32} (hn : n < 2147483648) (h : mapR op nn rf rg n r) (hr : r = -1) : (∀ x, x < n → (mpC op nn rf rg x).1 ≠ 0) ∧ (mpP op nn rf rg n).length ≤ 600 := by
  rcases h with ⟨i, h1, -, -, h2⟩ | ⟨-, -, h2⟩ | ⟨h1, h2, -⟩
  · exact absurd (h2.symm.trans hr) (nI_neg1 (by omega))
  · exact absurd (h2.symm.trans hr) (nI_neg1 (by omega))
  · exact ⟨h1, h2⟩
/-- the splits' ends, as the class keeps them -/
theorem se_ok {op nn rf rg : Nat → Int32} {rn sz : Nat} {se : Nat → Nat} (hsz : 1 ≤ sz) (hP : (mpP op nn rf rg rn).length ≤ 600) (h : ∀ s, s * sz < rn → se s = rwN 600 0 (mpP op nn rf rg (min ((s + 1) * sz) rn))) :
    ∀ s, s < (rn + sz - 1) / sz → sst se s = cutP op nn rf rg rn sz s ∧ se s = cutP op nn rf rg rn sz (s + 1) ∧ cutP op nn rf rg rn sz s ≤ cutP op nn rf rg rn sz (s + 1) ∧ cutP op nn rf rg rn sz (s + 1) ≤ (mpP op nn rf rg rn).length := by
  intro s hs
  have h1 := spl_lt hsz hs
  have hle : ∀ s, (mpP op nn rf rg (min (s * sz) rn)).length ≤ (mpP op nn rf rg rn).length := fun s => mpP_mono (Nat.min_le_right _ _)
  have hse : ∀ s, s * sz < rn → se s = cutP op nn rf rg rn sz (s + 1) := fun s q => by
    rw [h s q]
    exact rwN_len (Nat.le_trans (hle (s + 1)) hP)
  have hm : cutP op nn rf rg rn sz s ≤ cutP op nn rf rg rn sz (s + 1) := mpP_mono (by
    have : s * sz ≤ (s + 1) * sz := Nat.mul_le_mul_right sz (Nat.le_succ s)
    omega)
  refine ⟨?_, hse s h1, hm, hle (s + 1)⟩
  cases s with
  | zero =>
    show 0 = (mpP op nn rf rg (min (0 * sz) rn)).length
    rw [Nat.zero_mul, Nat.zero_min]
    rfl
  | succ s =>
    exact hse s (by
      have : s * sz ≤ (s + 1) * sz := Nat.mul_le_mul_right sz (Nat.le_succ s)
      omega)
theorem spLs_of {op nn rf rg : Nat → Int32} {rn sz : Nat} {se : Nat → Nat} {f g : Nat → Int32} (hsz : 1 ≤ sz) (hP : (mpP op nn rf rg rn).length ≤ 600) (h : ∀ s, s * sz < rn → se s = rwN 600 0 (mpP op nn rf rg (min ((s + 1) * sz) rn))) :
    ∀ s, s < (rn + sz - 1) / sz → tab (rwK 600 0 f (mpP op nn rf rg rn)) (rwV 600 0 g (mpP op nn rf rg rn)) (sst se s) (se s - sst se s) = spLs op nn rf rg rn sz s := by
  intro s hs
  obtain ⟨h1, h2, h3, h4⟩ := se_ok hsz hP h s hs
  rw [h1, h2]
  exact tab_congr (fun j ha hb => ⟨rwK_PK hP (by omega), rwV_PV hP (by omega)⟩)
theorem se_hyp {op nn rf rg : Nat → Int32} {rn sz : Nat} {se : Nat → Nat} (hsz : 1 ≤ sz) (hP : (mpP op nn rf rg rn).length ≤ 600) (h : ∀ s, s * sz < rn → se s = rwN 600 0 (mpP op nn rf rg (min ((s + 1) * sz) rn))) :
    ∀ s, s < (rn + sz - 1) / sz → sst se s ≤ se s ∧ se s ≤ 600 := by
  intro s hs
  obtain ⟨h1, h2, h3, h4⟩ := se_ok hsz hP h s hs
  rw [h1, h2]
  exact ⟨h3, by omega⟩
end
section
def pf4 (p0 p1 p2 p3 : Nat) : Nat → Option Nat := fun j => if j = 0 then some p0 else if j = 1 then some p1 else if j = 2 then some p2 else some p3
/-- what run answers -/
noncomputable def perf (o : oT) : Int32 := if o.1 = -1 then nI o.2.1.length else -4
theorem cOK_gen {s : Nat → Nat} {z : Nat → Int32} {a b c d e f g : Nat} (h0 : s 0 = d) (h1 : s 1 = e) (h2 : s 2 = f) (h3 : s 3 = g) (j : Nat) (hj : j < 8) :
    va_cpy (zn s) (upd (upd (upd (upd z 0 (-1)) 1 (nI a)) 2 (nI b)) 3 (nI c)) 0 4 4 j = cOK a b c d e f g j := by
  subst h0; subst h1; subst h2; subst h3
  rcases (show j = 0 ∨ j = 1 ∨ j = 2 ∨ j = 3 ∨ j = 4 ∨ j = 5 ∨ j = 6 ∨ j = 7 by omega) with rfl | rfl | rfl | rfl | rfl | rfl | rfl | rfl <;> rfl
theorem cE_upd (e : Int32) (j : Nat) : upd (fun _ => nI 0) 0 e j = cE e j := rfl
set_option maxHeartbeats 4000000 in
set_option maxRecDepth 100000 in
theorem perform (l_ : Launch) (E : zE) (jb : Nat) (jse : Nat) (jst : Nat) (jjo : Nat) (jre : Nat) (jco : Nat) (m : Nat) (ma : Nat) (ml : Nat) (ms : Nat) (mp : Nat) (mt : Nat) (h : Nat) (an : Int32) (em : Nat) (ar : Nat → Int32) (lo : Nat → Int32) (st : Nat → Int32) (mpk : Nat) (mpv : Nat) (f : Nat → Int32) (g : Nat → Int32) (n : Nat) (stp : Nat → Nat) (se : Nat → Nat) (jsk : Nat) (jsv : Nat) (sn : Nat) (sk : Nat → Int32) (sv : Nat → Int32) (jok : Nat) (jov : Nat) (jf : Nat → Int32) (jg : Nat → Int32) (jn : Nat) (tk : Nat) (tv : Nat) (kf : Nat → Int32) (vf : Nat → Int32) (tn : Nat) (co : Nat → Int32) (pa : Nat) (p0 : Nat) (po0 : Nat) (pn0 : Nat) (op0 : Nat → Int32) (nn0 : Nat → Int32) (len0 : Nat) (p1 : Nat) (po1 : Nat) (pn1 : Nat) (op1 : Nat → Int32) (nn1 : Nat → Int32) (len1 : Nat) (p2 : Nat) (po2 : Nat) (pn2 : Nat) (op2 : Nat → Int32) (nn2 : Nat → Int32) (len2 : Nat) (p3 : Nat) (po3 : Nat) (pn3 : Nat) (op3 : Nat → Int32) (nn3 : Nat → Int32) (len3 : Nat) (rr : Nat) (rrk : Nat) (rrv : Nat) (rf : Nat → Int32) (rg : Nat → Int32) (rn : Nat) (sz : Nat) (hG0 : Good 0 op0 nn0 len0) (hG1 : len1 = 0 ∨ Good 1 op1 nn1 len1) (hG2 : Good 2 op2 nn2 len2) (hG3 : len3 = 0 ∨ Good 3 op3 nn3 len3) (hl0 : len0 ≤ 64) (hl1 : len1 ≤ 64) (hl2 : len2 ≤ 64) (hl3 : len3 ≤ 64) (hrn : rn ≤ 120) (hsz : 1 ≤ sz) (hsz2 : sz ≤ 16) : zMi l_ E yX1_perform (zTs yX1_perform cX1_perform 7 (some .int)) ({ frames := 6, cells := 0, slots := 0, locals := 150 } : Room) [.ref jb, .ref pa, .ref rr, .int (nI sz)] [(jb, zo 1 [.ref m, .ref jse, .ref jst, .ref jjo, .ref jre, .ref jco]), (m, zo 3 [.ref ma, .ref ml, .ref ms, .int (nI h), .int an, .ref mp, .int (nI em), .ref mt]), (ma, zi E 3 ar), (ml, zi E 4 lo), (ms, zi E 8 st), (mp, zo 4 [.ref mpk, .ref mpv, .int (nI n)]), (mpk, zi E 600 f), (mpv, zi E 600 g), (mt, zi E 4 (zn stp)), (jse, zi E 120 (zn se)), (jst, zo 2 [.ref jsk, .ref jsv, .int (nI sn)]), (jsk, zi E 600 sk), (jsv, zi E 600 sv), (jjo, zo 4 [.ref jok, .ref jov, .int (nI jn)]), (jok, zi E 600 jf), (jov, zi E 600 jg), (jre, zo 2 [.ref tk, .ref tv, .int (nI tn)]), (tk, zi E 600 kf), (tv, zi E 600 vf), (jco, zi E 8 co), (pa, zp E 4 (pf4 p0 p1 p2 p3)), (p0, zo 5 [.int (nI 0), .ref po0, .ref pn0, .int (nI len0)]), (po0, zi E 64 op0), (pn0, zi E 64 nn0), (p1, zo 5 [.int (nI 1), .ref po1, .ref pn1, .int (nI len1)]), (po1, zi E 64 op1), (pn1, zi E 64 nn1), (p2, zo 5 [.int (nI 2), .ref po2, .ref pn2, .int (nI len2)]), (po2, zi E 64 op2), (pn2, zi E 64 nn2), (p3, zo 5 [.int (nI 3), .ref po3, .ref pn3, .int (nI len3)]), (po3, zi E 64 op3), (pn3, zi E 64 nn3), (rr, zo 4 [.ref rrk, .ref rrv, .int (nI rn)]), (rrk, zi E 120 rf), (rrv, zi E 120 rg)] (fun r_ w_ => ∃ h2 : Nat, ∃ an2 : Int32, ∃ em2 : Nat, ∃ ar2 : Nat → Int32, ∃ lo2 : Nat → Int32, ∃ st2 : Nat → Int32, ∃ stp2 : Nat → Nat, ∃ f2 : Nat → Int32, ∃ g2 : Nat → Int32, ∃ n2 : Nat, ∃ se2 : Nat → Nat, ∃ sn2 : Nat, ∃ sk2 : Nat → Int32, ∃ sv2 : Nat → Int32, ∃ jf2 : Nat → Int32, ∃ jg2 : Nat → Int32, ∃ jn2 : Nat, ∃ kf2 : Nat → Int32, ∃ vf2 : Nat → Int32, ∃ tn2 : Nat, ∃ co2 : Nat → Int32, ∃ o : oT, (r_ = (perf o) ∧ w_ = [(jb, zo 1 [.ref m, .ref jse, .ref jst, .ref jjo, .ref jre, .ref jco]), (m, zo 3 [.ref ma, .ref ml, .ref ms, .int (nI h2), .int an2, .ref mp, .int (nI em2), .ref mt]), (ma, zi E 3 ar2), (ml, zi E 4 lo2), (ms, zi E 8 st2), (mp, zo 4 [.ref mpk, .ref mpv, .int (nI n2)]), (mpk, zi E 600 f2), (mpv, zi E 600 g2), (mt, zi E 4 (zn stp2)), (jse, zi E 120 (zn se2)), (jst, zo 2 [.ref jsk, .ref jsv, .int (nI sn2)]), (jsk, zi E 600 sk2), (jsv, zi E 600 sv2), (jjo, zo 4 [.ref jok, .ref jov, .int (nI jn2)]), (jok, zi E 600 jf2), (jov, zi E 600 jg2), (jre, zo 2 [.ref tk, .ref tv, .int (nI tn2)]), (tk, zi E 600 kf2), (tv, zi E 600 vf2), (jco, zi E 8 co2), (pa, zp E 4 (pf4 p0 p1 p2 p3)), (p0, zo 5 [.int (nI 0), .ref po0, .ref pn0, .int (nI len0)]), (po0, zi E 64 op0), (pn0, zi E 64 nn0), (p1, zo 5 [.int (nI 1), .ref po1, .ref pn1, .int (nI len1)]), (po1, zi E 64 op1), (pn1, zi E 64 nn1), (p2, zo 5 [.int (nI 2), .ref po2, .ref pn2, .int (nI len2)]), (po2, zi E 64 op2), (pn2, zi E 64 nn2), (p3, zo 5 [.int (nI 3), .ref po3, .ref pn3, .int (nI len3)]), (po3, zi E 64 op3), (pn3, zi E 64 nn3), (rr, zo 4 [.ref rrk, .ref rrv, .int (nI rn)]), (rrk, zi E 120 rf), (rrv, zi E 120 rg)]) ∧ (jobR op0 nn0 op1 nn1 op2 nn2 op3 nn3 len1 len3 rf rg rn sz o) ∧ (tn2 = o.2.1.length ∧ tn2 ≤ 600) ∧ (∀ j, j < tn2 → (kf2 j, vf2 j) = o.2.1.getD j (0, 0)) ∧ (∀ j, j < 8 → co2 j = o.2.2 j)) 0 0 := by
  refine zMi.of (cc := cX1_perform) (nL := 7) (ret := (some .int)) (by decide) rfl (Nat.le_of_ble_eq_true rfl) ?_
  intro p_ e_ s_ m_ args_ below_ meth_ c_ A_ C0 hin0
  have C0 : zC E p_ s_ m_ args_ meth_ c_ cX1_perform 7 (some .int) RX1 (zTs yX1_perform cX1_perform 7 (some .int)) A_ := C0
  refine z_eqL (L1 := [(0, .ref jb), (1, .ref pa), (2, .ref rr), (3, .int (nI sz))]) rfl ?_
  refine z_aload_n 1 C0 0 dX1_perform_0 rfl rfl rfl ?_
  refine z_iconst 2 C0 (v := (-1)) dX1_perform_1 rfl (by decide) ?_
  refine z_callVv 5 C0 [0, 1, 5, 8, 13, 16, 19] [2, 3, 4, 6, 7, 9, 10, 11, 12, 14, 15, 17, 18, 20, 21, 22, 23, 24, 25, 26, 27, 28, 29, 30, 31, 32, 33, 34, 35] [(ma, zi E 3 ar), (ml, zi E 4 lo), (ms, zi E 8 st), (mpk, zi E 600 f), (mpv, zi E 600 g), (jse, zi E 120 (zn se)), (jst, zo 2 [.ref jsk, .ref jsv, .int (nI sn)]), (jsk, zi E 600 sk), (jsv, zi E 600 sv), (jok, zi E 600 jf), (jov, zi E 600 jg), (tk, zi E 600 kf), (tv, zi E 600 vf), (pa, zp E 4 (pf4 p0 p1 p2 p3)), (p0, zo 5 [.int (nI 0), .ref po0, .ref pn0, .int (nI len0)]), (po0, zi E 64 op0), (pn0, zi E 64 nn0), (p1, zo 5 [.int (nI 1), .ref po1, .ref pn1, .int (nI len1)]), (po1, zi E 64 op1), (pn1, zi E 64 nn1), (p2, zo 5 [.int (nI 2), .ref po2, .ref pn2, .int (nI len2)]), (po2, zi E 64 op2), (pn2, zi E 64 nn2), (p3, zo 5 [.int (nI 3), .ref po3, .ref pn3, .int (nI len3)]), (po3, zi E 64 op3), (pn3, zi E 64 nn3), (rr, zo 4 [.ref rrk, .ref rrv, .int (nI rn)]), (rrk, zi E 120 rf), (rrv, zi E 120 rg)] 0 0 (As := [.int (-1)]) (T := TX1) (N := 6) (C := RX1) (ci := 1) (n := 1) 0 (forget l_ E jb jse jst jjo jre jco m ma ml ms mp mt h an em mpk mpv n stp jok jov jn tk tv tn co (-1) ) (zGIV (fun _ => zTs_in) wk_329 wk_326 wk_327 wk_328 wk_17) rfl ⟨rfl, by decide, by decide, by decide +kernel⟩ rfl rfl rfl rfl (by decide) rfl rfl (Nat.le_of_ble_eq_true rfl) ⟨by decide, by decide⟩ rfl rfl ⟨by decide, by decide⟩ ⟨by decide, by decide⟩ dX1_perform_2 rfl (fun w2 hB2 => ?_)
  obtain rfl := hB2
  refine z_perm [29, 30, 0, 1, 2, 31, 3, 4, 32, 5, 6, 7, 8, 33, 9, 10, 34, 11, 12, 35, 13, 14, 15, 16, 17, 18, 19, 20, 21, 22, 23, 24, 25, 26, 27, 28] [(jb, zo 1 [.ref m, .ref jse, .ref jst, .ref jjo, .ref jre, .ref jco]), (m, zo 3 [.ref ma, .ref ml, .ref ms, .int (nI h), .int an, .ref mp, .int (nI em), .ref mt]), (ma, zi E 3 ar), (ml, zi E 4 lo), (ms, zi E 8 st), (mp, zo 4 [.ref mpk, .ref mpv, .int (nI 0)]), (mpk, zi E 600 f), (mpv, zi E 600 g), (mt, zi E 4 (zn (fun _ => 0))), (jse, zi E 120 (zn se)), (jst, zo 2 [.ref jsk, .ref jsv, .int (nI sn)]), (jsk, zi E 600 sk), (jsv, zi E 600 sv), (jjo, zo 4 [.ref jok, .ref jov, .int (nI 0)]), (jok, zi E 600 jf), (jov, zi E 600 jg), (jre, zo 2 [.ref tk, .ref tv, .int (nI 0)]), (tk, zi E 600 kf), (tv, zi E 600 vf), (jco, zi E 8 (upd (fun _ => (nI 0)) 0 (-1))), (pa, zp E 4 (pf4 p0 p1 p2 p3)), (p0, zo 5 [.int (nI 0), .ref po0, .ref pn0, .int (nI len0)]), (po0, zi E 64 op0), (pn0, zi E 64 nn0), (p1, zo 5 [.int (nI 1), .ref po1, .ref pn1, .int (nI len1)]), (po1, zi E 64 op1), (pn1, zi E 64 nn1), (p2, zo 5 [.int (nI 2), .ref po2, .ref pn2, .int (nI len2)]), (po2, zi E 64 op2), (pn2, zi E 64 nn2), (p3, zo 5 [.int (nI 3), .ref po3, .ref pn3, .int (nI len3)]), (po3, zi E 64 op3), (pn3, zi E 64 nn3), (rr, zo 4 [.ref rrk, .ref rrv, .int (nI rn)]), (rrk, zi E 120 rf), (rrv, zi E 120 rg)] (by decide) rfl ?_
  refine z_aload_n 6 C0 2 dX1_perform_5 rfl rfl rfl ?_
  refine z_get 9 C0 33 2 wz_4 rfl (by decide) (zTs_in wk_50) dX1_perform_6 rfl rfl rfl ?_
  refine z_iload_n 10 C0 3 dX1_perform_9 rfl rfl rfl ?_
  refine z_iadd 11 C0 (v := (nI (rn + sz))) dX1_perform_10 rfl (nI_add _ _) ?_
  refine z_iconst 12 C0 (v := (nI 1)) dX1_perform_11 rfl rfl ?_
  refine z_isub 13 C0 (v := (nI ((rn + sz) - 1))) dX1_perform_12 rfl (z_subN (by omega)) ?_
  refine z_iload_n 14 C0 3 dX1_perform_13 rfl rfl rfl ?_
  refine z_idiv 15 C0 (v := (nI (((rn + sz) - 1) / sz))) dX1_perform_14 rfl (nI_ne0 (by omega) (by omega)) (pk_div (by omega) (by omega) (by omega)) ?_
  refine z_istore 17 C0 [1, 2, 3, 4, 0] [(0, .ref jb), (1, .ref pa), (2, .ref rr), (3, .int (nI sz)), (4, .int (nI (((rn + sz) - 1) / sz)))] dX1_perform_15 rfl (by decide) rfl ?_
  refine z_aload_n 18 C0 0 dX1_perform_17 rfl rfl rfl ?_
  refine z_aload_n 19 C0 1 dX1_perform_18 rfl rfl rfl ?_
  refine z_iconst 20 C0 (v := (nI 0)) dX1_perform_19 rfl rfl ?_
  refine z_aald 21 C0 20 1 dX1_perform_20 rfl rfl rfl rfl (by omega) (by decide) (v := .ref p0) rfl ?_
  refine z_aload_n 22 C0 2 dX1_perform_21 rfl rfl rfl ?_
  refine z_iload_n 23 C0 3 dX1_perform_22 rfl rfl rfl ?_
  refine z_callVi 26 C0 [0, 1, 2, 3, 4, 5, 6, 7, 8, 21, 22, 23, 33, 34, 35, 9, 19] [10, 11, 12, 13, 14, 15, 16, 17, 18, 20, 24, 25, 26, 27, 28, 29, 30, 31, 32] [(jst, zo 2 [.ref jsk, .ref jsv, .int (nI sn)]), (jsk, zi E 600 sk), (jsv, zi E 600 sv), (jjo, zo 4 [.ref jok, .ref jov, .int (nI 0)]), (jok, zi E 600 jf), (jov, zi E 600 jg), (jre, zo 2 [.ref tk, .ref tv, .int (nI 0)]), (tk, zi E 600 kf), (tv, zi E 600 vf), (pa, zp E 4 (pf4 p0 p1 p2 p3)), (p1, zo 5 [.int (nI 1), .ref po1, .ref pn1, .int (nI len1)]), (po1, zi E 64 op1), (pn1, zi E 64 nn1), (p2, zo 5 [.int (nI 2), .ref po2, .ref pn2, .int (nI len2)]), (po2, zi E 64 op2), (pn2, zi E 64 nn2), (p3, zo 5 [.int (nI 3), .ref po3, .ref pn3, .int (nI len3)]), (po3, zi E 64 op3), (pn3, zi E 64 nn3)] 0 0 (As := [.ref p0, .ref rr, .int (nI sz)]) (T := TX1) (N := 6) (C := RX1) (ci := 1) (n := 3) 0 (mapRecords l_ E jb jse jst jjo jre jco m ma ml ms mp mt h an em ar lo st mpk mpv f g (fun _ => 0) p0 po0 pn0 op0 nn0 len0 rr rrk rrv rf rg rn se (upd (fun _ => (nI 0)) 0 (-1)) sz (hG0) (hl0) (hrn) (hsz) (hsz2) (rfl)) (zGIV (fun _ => zTs_in) wk_339 wk_336 wk_337 wk_338 wk_17) rfl ⟨rfl, by decide, by decide, by decide +kernel⟩ rfl rfl rfl rfl (by decide) rfl rfl (Nat.le_of_ble_eq_true rfl) ⟨by decide, by decide⟩ rfl rfl ⟨by decide, by decide⟩ ⟨by decide, by decide⟩ dX1_perform_23 rfl (fun r23 w23 hB23 => ?_)
  obtain ⟨h2_23, an2_23, em2_23, ar2_23, lo2_23, st2_23, stp2_23, f2_23, g2_23, n2_23, se2_23, co2_23, r2_23, ⟨hr23, rfl⟩, fR_23, fn_23, fD_23⟩ := hB23
  replace hr23 := hr23.symm
  subst hr23
  refine z_perm [19, 20, 21, 22, 23, 24, 25, 26, 27, 34, 0, 1, 2, 3, 4, 5, 6, 7, 8, 35, 9, 28, 29, 30, 10, 11, 12, 13, 14, 15, 16, 17, 18, 31, 32, 33] [(jb, zo 1 [.ref m, .ref jse, .ref jst, .ref jjo, .ref jre, .ref jco]), (m, zo 3 [.ref ma, .ref ml, .ref ms, .int (nI h2_23), .int an2_23, .ref mp, .int (nI em2_23), .ref mt]), (ma, zi E 3 ar2_23), (ml, zi E 4 lo2_23), (ms, zi E 8 st2_23), (mp, zo 4 [.ref mpk, .ref mpv, .int (nI n2_23)]), (mpk, zi E 600 f2_23), (mpv, zi E 600 g2_23), (mt, zi E 4 (zn stp2_23)), (jse, zi E 120 (zn se2_23)), (jst, zo 2 [.ref jsk, .ref jsv, .int (nI sn)]), (jsk, zi E 600 sk), (jsv, zi E 600 sv), (jjo, zo 4 [.ref jok, .ref jov, .int (nI 0)]), (jok, zi E 600 jf), (jov, zi E 600 jg), (jre, zo 2 [.ref tk, .ref tv, .int (nI 0)]), (tk, zi E 600 kf), (tv, zi E 600 vf), (jco, zi E 8 co2_23), (pa, zp E 4 (pf4 p0 p1 p2 p3)), (p0, zo 5 [.int (nI 0), .ref po0, .ref pn0, .int (nI len0)]), (po0, zi E 64 op0), (pn0, zi E 64 nn0), (p1, zo 5 [.int (nI 1), .ref po1, .ref pn1, .int (nI len1)]), (po1, zi E 64 op1), (pn1, zi E 64 nn1), (p2, zo 5 [.int (nI 2), .ref po2, .ref pn2, .int (nI len2)]), (po2, zi E 64 op2), (pn2, zi E 64 nn2), (p3, zo 5 [.int (nI 3), .ref po3, .ref pn3, .int (nI len3)]), (po3, zi E 64 op3), (pn3, zi E 64 nn3), (rr, zo 4 [.ref rrk, .ref rrv, .int (nI rn)]), (rrk, zi E 120 rf), (rrv, zi E 120 rg)] (by decide) rfl ?_
  refine z_istore 28 C0 [1, 2, 3, 4, 5, 0] [(0, .ref jb), (1, .ref pa), (2, .ref rr), (3, .int (nI sz)), (4, .int (nI (((rn + sz) - 1) / sz))), (5, .int r2_23)] dX1_perform_26 rfl (by decide) rfl ?_
  refine z_aload_n 29 C0 0 dX1_perform_28 rfl rfl rfl ?_
  refine z_get 32 C0 0 0 wz_1 rfl (by decide) (zTs_in wk_175) dX1_perform_29 rfl rfl rfl ?_
  refine z_get 35 C0 1 5 wz_3 rfl (by decide) (zTs_in wk_126) dX1_perform_32 rfl rfl rfl ?_
  refine z_astore 37 C0 [1, 2, 3, 4, 5, 6, 0] [(0, .ref jb), (1, .ref pa), (2, .ref rr), (3, .int (nI sz)), (4, .int (nI (((rn + sz) - 1) / sz))), (5, .int r2_23), (6, .ref mp)] dX1_perform_35 rfl (by decide) rfl ?_
  refine z_iload 39 C0 5 dX1_perform_37 rfl rfl ?_
  refine z_iconst 40 C0 (v := (-1)) dX1_perform_39 rfl (by decide) ?_
  refine z_icmp_ne 43 69 C0 dX1_perform_40 rfl (by decide) (fun k40 => ?_) (fun k40 => ?_)
  · skip
    refine z_iload 71 C0 5 dX1_perform_69 rfl rfl ?_
    refine z_iconst 72 C0 (v := (-1)) dX1_perform_71 rfl (by decide) ?_
    refine z_icmp_ne 75 86 C0 dX1_perform_72 rfl (by decide) (fun k72 => ?_) (fun k72 => absurd k72 k40)
    refine z_iload 88 C0 5 dX1_perform_86 rfl rfl ?_
    refine z_iconst 89 C0 (v := (-1)) dX1_perform_88 rfl (by decide) ?_
    refine z_icmp_ne 92 110 C0 dX1_perform_89 rfl (by decide) (fun k89 => ?_) (fun k89 => absurd k89 k40)
    refine z_iload 112 C0 5 dX1_perform_110 rfl rfl ?_
    refine z_iconst 113 C0 (v := (-1)) dX1_perform_112 rfl (by decide) ?_
    refine z_icmp_eq 116 125 C0 dX1_perform_113 rfl (by decide) (fun k113 => absurd k113 k40) (fun k113 => ?_)
    refine z_aload_n 117 C0 0 dX1_perform_116 rfl rfl rfl ?_
    refine z_iload 119 C0 5 dX1_perform_117 rfl rfl ?_
    refine z_callVv 122 C0 [0, 1, 5, 8, 13, 16, 19] [2, 3, 4, 6, 7, 9, 10, 11, 12, 14, 15, 17, 18, 20, 21, 22, 23, 24, 25, 26, 27, 28, 29, 30, 31, 32, 33, 34, 35] [(ma, zi E 3 ar2_23), (ml, zi E 4 lo2_23), (ms, zi E 8 st2_23), (mpk, zi E 600 f2_23), (mpv, zi E 600 g2_23), (jse, zi E 120 (zn se2_23)), (jst, zo 2 [.ref jsk, .ref jsv, .int (nI sn)]), (jsk, zi E 600 sk), (jsv, zi E 600 sv), (jok, zi E 600 jf), (jov, zi E 600 jg), (tk, zi E 600 kf), (tv, zi E 600 vf), (pa, zp E 4 (pf4 p0 p1 p2 p3)), (p0, zo 5 [.int (nI 0), .ref po0, .ref pn0, .int (nI len0)]), (po0, zi E 64 op0), (pn0, zi E 64 nn0), (p1, zo 5 [.int (nI 1), .ref po1, .ref pn1, .int (nI len1)]), (po1, zi E 64 op1), (pn1, zi E 64 nn1), (p2, zo 5 [.int (nI 2), .ref po2, .ref pn2, .int (nI len2)]), (po2, zi E 64 op2), (pn2, zi E 64 nn2), (p3, zo 5 [.int (nI 3), .ref po3, .ref pn3, .int (nI len3)]), (po3, zi E 64 op3), (pn3, zi E 64 nn3), (rr, zo 4 [.ref rrk, .ref rrv, .int (nI rn)]), (rrk, zi E 120 rf), (rrv, zi E 120 rg)] 0 0 (As := [.int r2_23]) (T := TX1) (N := 6) (C := RX1) (ci := 1) (n := 1) 0 (forget l_ E jb jse jst jjo jre jco m ma ml ms mp mt h2_23 an2_23 em2_23 mpk mpv n2_23 stp2_23 jok jov 0 tk tv 0 co2_23 r2_23 ) (zGIV (fun _ => zTs_in) wk_329 wk_326 wk_327 wk_328 wk_17) rfl ⟨rfl, by decide, by decide, by decide +kernel⟩ rfl rfl rfl rfl (by decide) rfl rfl (Nat.le_of_ble_eq_true rfl) ⟨by decide, by decide⟩ rfl rfl ⟨by decide, by decide⟩ ⟨by decide, by decide⟩ dX1_perform_119 rfl (fun w119 hB119 => ?_)
    obtain rfl := hB119
    refine z_perm [29, 30, 0, 1, 2, 31, 3, 4, 32, 5, 6, 7, 8, 33, 9, 10, 34, 11, 12, 35, 13, 14, 15, 16, 17, 18, 19, 20, 21, 22, 23, 24, 25, 26, 27, 28] [(jb, zo 1 [.ref m, .ref jse, .ref jst, .ref jjo, .ref jre, .ref jco]), (m, zo 3 [.ref ma, .ref ml, .ref ms, .int (nI h2_23), .int an2_23, .ref mp, .int (nI em2_23), .ref mt]), (ma, zi E 3 ar2_23), (ml, zi E 4 lo2_23), (ms, zi E 8 st2_23), (mp, zo 4 [.ref mpk, .ref mpv, .int (nI 0)]), (mpk, zi E 600 f2_23), (mpv, zi E 600 g2_23), (mt, zi E 4 (zn (fun _ => 0))), (jse, zi E 120 (zn se2_23)), (jst, zo 2 [.ref jsk, .ref jsv, .int (nI sn)]), (jsk, zi E 600 sk), (jsv, zi E 600 sv), (jjo, zo 4 [.ref jok, .ref jov, .int (nI 0)]), (jok, zi E 600 jf), (jov, zi E 600 jg), (jre, zo 2 [.ref tk, .ref tv, .int (nI 0)]), (tk, zi E 600 kf), (tv, zi E 600 vf), (jco, zi E 8 (upd (fun _ => (nI 0)) 0 r2_23)), (pa, zp E 4 (pf4 p0 p1 p2 p3)), (p0, zo 5 [.int (nI 0), .ref po0, .ref pn0, .int (nI len0)]), (po0, zi E 64 op0), (pn0, zi E 64 nn0), (p1, zo 5 [.int (nI 1), .ref po1, .ref pn1, .int (nI len1)]), (po1, zi E 64 op1), (pn1, zi E 64 nn1), (p2, zo 5 [.int (nI 2), .ref po2, .ref pn2, .int (nI len2)]), (po2, zi E 64 op2), (pn2, zi E 64 nn2), (p3, zo 5 [.int (nI 3), .ref po3, .ref pn3, .int (nI len3)]), (po3, zi E 64 op3), (pn3, zi E 64 nn3), (rr, zo 4 [.ref rrk, .ref rrv, .int (nI rn)]), (rrk, zi E 120 rf), (rrv, zi E 120 rg)] (by decide) rfl ?_
    refine z_bipush 124 C0 (v := (-4)) dX1_perform_122 rfl (by decide) ?_
    exact z_iret C0 rfl dX1_perform_124 ⟨h2_23, an2_23, em2_23, ar2_23, lo2_23, st2_23, (fun _ => 0), f2_23, g2_23, 0, se2_23, sn, sk, sv, jf, jg, 0, kf, vf, 0, (upd (fun _ => (nI 0)) 0 r2_23), (r2_23, [], cE r2_23), ⟨(by unfold perf; rw [if_neg k40]), rfl⟩, (⟨r2_23, fR_23, Or.inl ⟨k40, rfl⟩⟩), (⟨rfl, Nat.zero_le _⟩), (fun j hj => absurd hj (Nat.not_lt_zero j)), (fun j _ => cE_upd r2_23 j)⟩ (by decide) (by decide)
  · skip
    have hmO := mapR_ok (by omega) fR_23 k40
    have hfD := fD_23 k40
    obtain ⟨he1, he2, he3, he4, he5, he6⟩ := hfD
    have hPl : n2_23 = (mpP op0 nn0 rf rg rn).length := by rw [he3]; exact rwN_len hmO.2
    refine z_aload_n 44 C0 1 dX1_perform_43 rfl rfl rfl ?_
    refine z_iconst 45 C0 (v := (nI 1)) dX1_perform_44 rfl rfl ?_
    refine z_aald 46 C0 20 1 dX1_perform_45 rfl rfl rfl rfl (by omega) (by decide) (v := .ref p1) rfl ?_
    refine z_get 49 C0 24 3 wz_5 rfl (by decide) (zTs_in wk_78) dX1_perform_46 rfl rfl rfl ?_
    refine z_if_leN 52 69 C0 (by omega) dX1_perform_49 rfl (by decide) (fun k49 => ?_) (fun k49 => ?_)
    · skip
      refine z_iload 71 C0 5 dX1_perform_69 rfl rfl ?_
      refine z_iconst 72 C0 (v := (-1)) dX1_perform_71 rfl (by decide) ?_
      refine z_icmp_ne 75 86 C0 dX1_perform_72 rfl (by decide) (fun k72 => absurd k72 (fun q => q k40)) (fun k72 => ?_)
      refine z_aload_n 76 C0 0 dX1_perform_75 rfl rfl rfl ?_
      refine z_aload_n 77 C0 1 dX1_perform_76 rfl rfl rfl ?_
      refine z_iconst 78 C0 (v := (nI 2)) dX1_perform_77 rfl rfl ?_
      refine z_aald 79 C0 20 1 dX1_perform_78 rfl rfl rfl rfl (by omega) (by decide) (v := .ref p2) rfl ?_
      refine z_aload 81 C0 6 dX1_perform_79 rfl rfl ?_
      refine z_callVi 84 C0 [0, 1, 2, 3, 4, 5, 6, 7, 8, 27, 28, 29, 16, 17, 18, 19] [9, 10, 11, 12, 13, 14, 15, 20, 21, 22, 23, 24, 25, 26, 30, 31, 32, 33, 34, 35] [(jse, zi E 120 (zn se2_23)), (jst, zo 2 [.ref jsk, .ref jsv, .int (nI sn)]), (jsk, zi E 600 sk), (jsv, zi E 600 sv), (jjo, zo 4 [.ref jok, .ref jov, .int (nI 0)]), (jok, zi E 600 jf), (jov, zi E 600 jg), (pa, zp E 4 (pf4 p0 p1 p2 p3)), (p0, zo 5 [.int (nI 0), .ref po0, .ref pn0, .int (nI len0)]), (po0, zi E 64 op0), (pn0, zi E 64 nn0), (p1, zo 5 [.int (nI 1), .ref po1, .ref pn1, .int (nI len1)]), (po1, zi E 64 op1), (pn1, zi E 64 nn1), (p3, zo 5 [.int (nI 3), .ref po3, .ref pn3, .int (nI len3)]), (po3, zi E 64 op3), (pn3, zi E 64 nn3), (rr, zo 4 [.ref rrk, .ref rrv, .int (nI rn)]), (rrk, zi E 120 rf), (rrv, zi E 120 rg)] 0 0 (As := [.ref p2, .ref mp]) (T := TX1) (N := 6) (C := RX1) (ci := 1) (n := 2) 0 (fold_a l_ E jb jse jst jjo jre jco m ma ml ms mp mt h2_23 an2_23 em2_23 ar2_23 lo2_23 st2_23 mpk mpv f2_23 g2_23 n2_23 stp2_23 p2 po2 pn2 op2 nn2 len2 tk tv kf vf co2_23 (hG2) (hl2) (fn_23)) (zGIV (fun _ => zTs_in) wk_416 wk_413 wk_414 wk_415 wk_17) rfl ⟨rfl, by decide, by decide, by decide +kernel⟩ rfl rfl rfl rfl (by decide) rfl rfl (Nat.le_of_ble_eq_true rfl) ⟨by decide, by decide⟩ rfl rfl ⟨by decide, by decide⟩ ⟨by decide, by decide⟩ dX1_perform_81 rfl (fun r81 w81 hB81 => ?_)
      obtain ⟨h2_81, an2_81, em2_81, ar2_81, lo2_81, st2_81, stp2_81, n2_81, kf2_81, vf2_81, co2_81, ⟨rfl, rfl⟩, fn_81, fM_81⟩ := hB81
      refine z_perm [20, 21, 22, 23, 24, 25, 26, 27, 28, 0, 1, 2, 3, 4, 5, 6, 32, 33, 34, 35, 7, 8, 9, 10, 11, 12, 13, 29, 30, 31, 14, 15, 16, 17, 18, 19] [(jb, zo 1 [.ref m, .ref jse, .ref jst, .ref jjo, .ref jre, .ref jco]), (m, zo 3 [.ref ma, .ref ml, .ref ms, .int (nI h2_81), .int an2_81, .ref mp, .int (nI em2_81), .ref mt]), (ma, zi E 3 ar2_81), (ml, zi E 4 lo2_81), (ms, zi E 8 st2_81), (mp, zo 4 [.ref mpk, .ref mpv, .int (nI n2_23)]), (mpk, zi E 600 f2_23), (mpv, zi E 600 g2_23), (mt, zi E 4 (zn stp2_81)), (jse, zi E 120 (zn se2_23)), (jst, zo 2 [.ref jsk, .ref jsv, .int (nI sn)]), (jsk, zi E 600 sk), (jsv, zi E 600 sv), (jjo, zo 4 [.ref jok, .ref jov, .int (nI 0)]), (jok, zi E 600 jf), (jov, zi E 600 jg), (jre, zo 2 [.ref tk, .ref tv, .int (nI n2_81)]), (tk, zi E 600 kf2_81), (tv, zi E 600 vf2_81), (jco, zi E 8 co2_81), (pa, zp E 4 (pf4 p0 p1 p2 p3)), (p0, zo 5 [.int (nI 0), .ref po0, .ref pn0, .int (nI len0)]), (po0, zi E 64 op0), (pn0, zi E 64 nn0), (p1, zo 5 [.int (nI 1), .ref po1, .ref pn1, .int (nI len1)]), (po1, zi E 64 op1), (pn1, zi E 64 nn1), (p2, zo 5 [.int (nI 2), .ref po2, .ref pn2, .int (nI len2)]), (po2, zi E 64 op2), (pn2, zi E 64 nn2), (p3, zo 5 [.int (nI 3), .ref po3, .ref pn3, .int (nI len3)]), (po3, zi E 64 op3), (pn3, zi E 64 nn3), (rr, zo 4 [.ref rrk, .ref rrv, .int (nI rn)]), (rrk, zi E 120 rf), (rrv, zi E 120 rg)] (by decide) rfl ?_
      refine z_istore 86 C0 [1, 2, 3, 4, 5, 0, 6] [(0, .ref jb), (1, .ref pa), (2, .ref rr), (3, .int (nI sz)), (4, .int (nI (((rn + sz) - 1) / sz))), (5, .int (fldR (mgL (pF op2 nn2) (tab f2_23 g2_23 0 n2_23) (fun _ => none, 0)))), (6, .ref mp)] dX1_perform_84 rfl (by decide) rfl ?_
      refine z_iload 88 C0 5 dX1_perform_86 rfl rfl ?_
      refine z_iconst 89 C0 (v := (-1)) dX1_perform_88 rfl (by decide) ?_
      refine z_icmp_ne 92 110 C0 dX1_perform_89 rfl (by decide) (fun k89 => ?_) (fun k89 => ?_)
      · skip
        refine z_iload 112 C0 5 dX1_perform_110 rfl rfl ?_
        refine z_iconst 113 C0 (v := (-1)) dX1_perform_112 rfl (by decide) ?_
        refine z_icmp_eq 116 125 C0 dX1_perform_113 rfl (by decide) (fun k113 => absurd k113 k89) (fun k113 => ?_)
        refine z_aload_n 117 C0 0 dX1_perform_116 rfl rfl rfl ?_
        refine z_iload 119 C0 5 dX1_perform_117 rfl rfl ?_
        refine z_callVv 122 C0 [0, 1, 5, 8, 13, 16, 19] [2, 3, 4, 6, 7, 9, 10, 11, 12, 14, 15, 17, 18, 20, 21, 22, 23, 24, 25, 26, 27, 28, 29, 30, 31, 32, 33, 34, 35] [(ma, zi E 3 ar2_81), (ml, zi E 4 lo2_81), (ms, zi E 8 st2_81), (mpk, zi E 600 f2_23), (mpv, zi E 600 g2_23), (jse, zi E 120 (zn se2_23)), (jst, zo 2 [.ref jsk, .ref jsv, .int (nI sn)]), (jsk, zi E 600 sk), (jsv, zi E 600 sv), (jok, zi E 600 jf), (jov, zi E 600 jg), (tk, zi E 600 kf2_81), (tv, zi E 600 vf2_81), (pa, zp E 4 (pf4 p0 p1 p2 p3)), (p0, zo 5 [.int (nI 0), .ref po0, .ref pn0, .int (nI len0)]), (po0, zi E 64 op0), (pn0, zi E 64 nn0), (p1, zo 5 [.int (nI 1), .ref po1, .ref pn1, .int (nI len1)]), (po1, zi E 64 op1), (pn1, zi E 64 nn1), (p2, zo 5 [.int (nI 2), .ref po2, .ref pn2, .int (nI len2)]), (po2, zi E 64 op2), (pn2, zi E 64 nn2), (p3, zo 5 [.int (nI 3), .ref po3, .ref pn3, .int (nI len3)]), (po3, zi E 64 op3), (pn3, zi E 64 nn3), (rr, zo 4 [.ref rrk, .ref rrv, .int (nI rn)]), (rrk, zi E 120 rf), (rrv, zi E 120 rg)] 0 0 (As := [.int (fldR (mgL (pF op2 nn2) (tab f2_23 g2_23 0 n2_23) (fun _ => none, 0)))]) (T := TX1) (N := 6) (C := RX1) (ci := 1) (n := 1) 0 (forget l_ E jb jse jst jjo jre jco m ma ml ms mp mt h2_81 an2_81 em2_81 mpk mpv n2_23 stp2_81 jok jov 0 tk tv n2_81 co2_81 (fldR (mgL (pF op2 nn2) (tab f2_23 g2_23 0 n2_23) (fun _ => none, 0))) ) (zGIV (fun _ => zTs_in) wk_329 wk_326 wk_327 wk_328 wk_17) rfl ⟨rfl, by decide, by decide, by decide +kernel⟩ rfl rfl rfl rfl (by decide) rfl rfl (Nat.le_of_ble_eq_true rfl) ⟨by decide, by decide⟩ rfl rfl ⟨by decide, by decide⟩ ⟨by decide, by decide⟩ dX1_perform_119 rfl (fun w119 hB119 => ?_)
        obtain rfl := hB119
        refine z_perm [29, 30, 0, 1, 2, 31, 3, 4, 32, 5, 6, 7, 8, 33, 9, 10, 34, 11, 12, 35, 13, 14, 15, 16, 17, 18, 19, 20, 21, 22, 23, 24, 25, 26, 27, 28] [(jb, zo 1 [.ref m, .ref jse, .ref jst, .ref jjo, .ref jre, .ref jco]), (m, zo 3 [.ref ma, .ref ml, .ref ms, .int (nI h2_81), .int an2_81, .ref mp, .int (nI em2_81), .ref mt]), (ma, zi E 3 ar2_81), (ml, zi E 4 lo2_81), (ms, zi E 8 st2_81), (mp, zo 4 [.ref mpk, .ref mpv, .int (nI 0)]), (mpk, zi E 600 f2_23), (mpv, zi E 600 g2_23), (mt, zi E 4 (zn (fun _ => 0))), (jse, zi E 120 (zn se2_23)), (jst, zo 2 [.ref jsk, .ref jsv, .int (nI sn)]), (jsk, zi E 600 sk), (jsv, zi E 600 sv), (jjo, zo 4 [.ref jok, .ref jov, .int (nI 0)]), (jok, zi E 600 jf), (jov, zi E 600 jg), (jre, zo 2 [.ref tk, .ref tv, .int (nI 0)]), (tk, zi E 600 kf2_81), (tv, zi E 600 vf2_81), (jco, zi E 8 (upd (fun _ => (nI 0)) 0 (fldR (mgL (pF op2 nn2) (tab f2_23 g2_23 0 n2_23) (fun _ => none, 0))))), (pa, zp E 4 (pf4 p0 p1 p2 p3)), (p0, zo 5 [.int (nI 0), .ref po0, .ref pn0, .int (nI len0)]), (po0, zi E 64 op0), (pn0, zi E 64 nn0), (p1, zo 5 [.int (nI 1), .ref po1, .ref pn1, .int (nI len1)]), (po1, zi E 64 op1), (pn1, zi E 64 nn1), (p2, zo 5 [.int (nI 2), .ref po2, .ref pn2, .int (nI len2)]), (po2, zi E 64 op2), (pn2, zi E 64 nn2), (p3, zo 5 [.int (nI 3), .ref po3, .ref pn3, .int (nI len3)]), (po3, zi E 64 op3), (pn3, zi E 64 nn3), (rr, zo 4 [.ref rrk, .ref rrv, .int (nI rn)]), (rrk, zi E 120 rf), (rrv, zi E 120 rg)] (by decide) rfl ?_
        refine z_bipush 124 C0 (v := (-4)) dX1_perform_122 rfl (by decide) ?_
        have hfl : fldR (mgL (pF op2 nn2) (tab f2_23 g2_23 0 n2_23) (fun _ => none, 0)) = nI 2000 := by
          cases hq : (mgL (pF op2 nn2) (tab f2_23 g2_23 0 n2_23) (fun _ => none, 0)) with
          | none => rfl
          | some z => rw [hq] at k89; exact absurd rfl k89
        have hno : mgL (pF op2 nn2) (mpP op0 nn0 rf rg rn) (fun _ => none, 0) = none := by
          have hV : (tab f2_23 g2_23 0 n2_23) = (mpP op0 nn0 rf rg rn) := (by rw [he1, he2, he3, rwN_len hmO.2]; exact (tab_congr (fun j _ hb => ⟨rwK_PK hmO.2 (by omega), rwV_PV hmO.2 (by omega)⟩)).trans (tab_PK _))
          rw [← hV]
          cases hq : (mgL (pF op2 nn2) (tab f2_23 g2_23 0 n2_23) (fun _ => none, 0)) with
          | none => rfl
          | some z => rw [hq] at k89; exact absurd rfl k89
        exact z_iret C0 rfl dX1_perform_124 ⟨h2_81, an2_81, em2_81, ar2_81, lo2_81, st2_81, (fun _ => 0), f2_23, g2_23, 0, se2_23, sn, sk, sv, jf, jg, 0, kf2_81, vf2_81, 0, (upd (fun _ => (nI 0)) 0 (fldR (mgL (pF op2 nn2) (tab f2_23 g2_23 0 n2_23) (fun _ => none, 0)))), ((nI 2000), [], cE (nI 2000)), ⟨(by unfold perf; rw [if_neg (show ¬ nI 2000 = -1 by decide)]), rfl⟩, (⟨r2_23, fR_23, Or.inr ⟨k40, (-1), (mpP op0 nn0 rf rg rn), 0, (Or.inl ⟨by omega, rfl, rfl, rfl⟩), Or.inr ⟨rfl, Or.inl ⟨hno, rfl⟩⟩⟩⟩), (⟨rfl, Nat.zero_le _⟩), (fun j hj => absurd hj (Nat.not_lt_zero j)), (fun j _ => by rw [hfl]; exact cE_upd (nI 2000) j)⟩ (by decide) (by decide)
      · skip
        obtain ⟨M, t2, hM⟩ : ∃ M t2, (mgL (pF op2 nn2) (tab f2_23 g2_23 0 n2_23) (fun _ => none, 0)) = some (M, t2) := by
          cases hq : (mgL (pF op2 nn2) (tab f2_23 g2_23 0 n2_23) (fun _ => none, 0)) with
          | none => rw [hq] at k89; exact absurd k89 (by decide)
          | some z => exact ⟨z.1, z.2, rfl⟩
        obtain ⟨htb, hst2, hco2⟩ := fM_81 M t2 hM
        have hV : (tab f2_23 g2_23 0 n2_23) = (mpP op0 nn0 rf rg rn) := (by rw [he1, he2, he3, rwN_len hmO.2]; exact (tab_congr (fun j _ hb => ⟨rwK_PK hmO.2 (by omega), rwV_PV hmO.2 (by omega)⟩)).trans (tab_PK _))
        rw [hV] at hM
        refine z_aload_n 93 C0 1 dX1_perform_92 rfl rfl rfl ?_
        refine z_iconst 94 C0 (v := (nI 3)) dX1_perform_93 rfl rfl ?_
        refine z_aald 95 C0 20 1 dX1_perform_94 rfl rfl rfl rfl (by omega) (by decide) (v := .ref p3) rfl ?_
        refine z_get 98 C0 30 3 wz_5 rfl (by decide) (zTs_in wk_78) dX1_perform_95 rfl rfl rfl ?_
        refine z_if_leN 101 110 C0 (by omega) dX1_perform_98 rfl (by decide) (fun k98 => ?_) (fun k98 => ?_)
        · skip
          refine z_iload 112 C0 5 dX1_perform_110 rfl rfl ?_
          refine z_iconst 113 C0 (v := (-1)) dX1_perform_112 rfl (by decide) ?_
          refine z_icmp_eq 116 125 C0 dX1_perform_113 rfl (by decide) (fun k113 => ?_) (fun k113 => absurd k113 (fun q => q k89))
          refine z_aload_n 126 C0 0 dX1_perform_125 rfl rfl rfl ?_
          refine z_get 129 C0 0 0 wz_1 rfl (by decide) (zTs_in wk_175) dX1_perform_126 rfl rfl rfl ?_
          refine z_get 132 C0 1 7 wz_3 rfl (by decide) (zTs_in wk_130) dX1_perform_129 rfl rfl rfl ?_
          refine z_iconst 133 C0 (v := (nI 0)) dX1_perform_132 rfl rfl ?_
          refine z_aload_n 134 C0 0 dX1_perform_133 rfl rfl rfl ?_
          refine z_get 137 C0 0 5 wz_1 rfl (by decide) (zTs_in wk_181) dX1_perform_134 rfl rfl rfl ?_
          refine z_iconst 138 C0 (v := (nI 4)) dX1_perform_137 rfl rfl ?_
          refine z_iconst 139 C0 (v := (nI 4)) dX1_perform_138 rfl rfl ?_
          refine z_copy 142 C0 8 19 [(jb, zo 1 [.ref m, .ref jse, .ref jst, .ref jjo, .ref jre, .ref jco]), (m, zo 3 [.ref ma, .ref ml, .ref ms, .int (nI h2_81), .int an2_81, .ref mp, .int (nI em2_81), .ref mt]), (ma, zi E 3 ar2_81), (ml, zi E 4 lo2_81), (ms, zi E 8 st2_81), (mp, zo 4 [.ref mpk, .ref mpv, .int (nI n2_23)]), (mpk, zi E 600 f2_23), (mpv, zi E 600 g2_23), (mt, zi E 4 (zn stp2_81)), (jse, zi E 120 (zn se2_23)), (jst, zo 2 [.ref jsk, .ref jsv, .int (nI sn)]), (jsk, zi E 600 sk), (jsv, zi E 600 sv), (jjo, zo 4 [.ref jok, .ref jov, .int (nI 0)]), (jok, zi E 600 jf), (jov, zi E 600 jg), (jre, zo 2 [.ref tk, .ref tv, .int (nI n2_81)]), (tk, zi E 600 kf2_81), (tv, zi E 600 vf2_81), (jco, zi E 8 (va_cpy (zn stp2_81) co2_81 0 4 4)), (pa, zp E 4 (pf4 p0 p1 p2 p3)), (p0, zo 5 [.int (nI 0), .ref po0, .ref pn0, .int (nI len0)]), (po0, zi E 64 op0), (pn0, zi E 64 nn0), (p1, zo 5 [.int (nI 1), .ref po1, .ref pn1, .int (nI len1)]), (po1, zi E 64 op1), (pn1, zi E 64 nn1), (p2, zo 5 [.int (nI 2), .ref po2, .ref pn2, .int (nI len2)]), (po2, zi E 64 op2), (pn2, zi E 64 nn2), (p3, zo 5 [.int (nI 3), .ref po3, .ref pn3, .int (nI len3)]), (po3, zi E 64 op3), (pn3, zi E 64 nn3), (rr, zo 4 [.ref rrk, .ref rrv, .int (nI rn)]), (rrk, zi E 120 rf), (rrv, zi E 120 rg)] (zTs_in wk_421) (zTs_in wk_407) (zTs_in wk_406) (zTs_in wk_23) rfl rfl (by omega) (by omega) (by decide) (by decide) (by decide) (Nat.le_of_ble_eq_true rfl) (by decide) dX1_perform_139 rfl rfl ?_
          refine z_aload_n 143 C0 0 dX1_perform_142 rfl rfl rfl ?_
          refine z_get 146 C0 0 4 wz_1 rfl (by decide) (zTs_in wk_179) dX1_perform_143 rfl rfl rfl ?_
          refine z_get 149 C0 16 2 wz_2 rfl (by decide) (zTs_in wk_163) dX1_perform_146 rfl rfl rfl ?_
          exact z_iret C0 rfl dX1_perform_149 ⟨h2_81, an2_81, em2_81, ar2_81, lo2_81, st2_81, stp2_81, f2_23, g2_23, n2_23, se2_23, sn, sk, sv, jf, jg, 0, kf2_81, vf2_81, n2_81, (va_cpy (zn stp2_81) co2_81 0 4 4), (-1, (tab kf2_81 vf2_81 0 n2_81), cOK (mpP op0 nn0 rf rg rn).length (mpP op0 nn0 rf rg rn).length n2_81 (mpS op0 nn0 rf rg rn) 0 t2 0), ⟨(by unfold perf; rw [if_pos rfl]; exact congrArg nI tab_len.symm), rfl⟩, (⟨r2_23, fR_23, Or.inr ⟨k40, (-1), (mpP op0 nn0 rf rg rn), 0, (Or.inl ⟨by omega, rfl, rfl, rfl⟩), Or.inr ⟨rfl, Or.inr ⟨M, t2, n2_81, kf2_81, vf2_81, hM, htb, ⟨-1, Or.inl ⟨by omega, rfl⟩, Or.inr ⟨rfl, by rw [if_pos (show len3 = 0 by omega), if_pos (show len3 = 0 by omega)]⟩⟩⟩⟩⟩⟩), (⟨tab_len.symm, by have h1 := fn_81; have h2 := fn_23; omega⟩), (fun j hj => by show _ = (tab kf2_81 vf2_81 0 n2_81).getD j (0, 0); rw [List.getD_eq_getElem?_getD, tab_get, if_pos hj, Nat.zero_add]; rfl), (fun j hj => by rw [hco2, he5, hPl]; exact cOK_gen (by rw [hst2, he4]; simp [va_up]) (by rw [hst2, he4]; simp [va_up]) (by rw [hst2, he4]; simp [va_up]) (by rw [hst2, he4]; simp [va_up]) j hj)⟩ (by decide) (by decide)
        · skip
          have hGe : Good 3 op3 nn3 len3 := hG3.resolve_left (by omega)
          refine z_aload_n 102 C0 0 dX1_perform_101 rfl rfl rfl ?_
          refine z_aload_n 103 C0 1 dX1_perform_102 rfl rfl rfl ?_
          refine z_iconst 104 C0 (v := (nI 3)) dX1_perform_103 rfl rfl ?_
          refine z_aald 105 C0 20 1 dX1_perform_104 rfl rfl rfl rfl (by omega) (by decide) (v := .ref p3) rfl ?_
          refine z_callVi 108 C0 [0, 1, 2, 3, 4, 5, 6, 7, 8, 30, 31, 32, 16, 17, 18] [9, 10, 11, 12, 13, 14, 15, 19, 20, 21, 22, 23, 24, 25, 26, 27, 28, 29, 33, 34, 35] [(jse, zi E 120 (zn se2_23)), (jst, zo 2 [.ref jsk, .ref jsv, .int (nI sn)]), (jsk, zi E 600 sk), (jsv, zi E 600 sv), (jjo, zo 4 [.ref jok, .ref jov, .int (nI 0)]), (jok, zi E 600 jf), (jov, zi E 600 jg), (jco, zi E 8 co2_81), (pa, zp E 4 (pf4 p0 p1 p2 p3)), (p0, zo 5 [.int (nI 0), .ref po0, .ref pn0, .int (nI len0)]), (po0, zi E 64 op0), (pn0, zi E 64 nn0), (p1, zo 5 [.int (nI 1), .ref po1, .ref pn1, .int (nI len1)]), (po1, zi E 64 op1), (pn1, zi E 64 nn1), (p2, zo 5 [.int (nI 2), .ref po2, .ref pn2, .int (nI len2)]), (po2, zi E 64 op2), (pn2, zi E 64 nn2), (rr, zo 4 [.ref rrk, .ref rrv, .int (nI rn)]), (rrk, zi E 120 rf), (rrv, zi E 120 rg)] 0 0 (As := [.ref p3]) (T := TX1) (N := 6) (C := RX1) (ci := 1) (n := 1) 0 (endKeys l_ E jb jse jst jjo jre jco m ma ml ms mp mt h2_81 an2_81 em2_81 ar2_81 lo2_81 st2_81 mpk mpv f2_23 g2_23 n2_23 stp2_81 p3 po3 pn3 op3 nn3 len3 tk tv kf2_81 vf2_81 n2_81 (hGe) (hl3) (fn_23) (by have h1 := fn_81; omega)) (zGIV (fun _ => zTs_in) wk_420 wk_417 wk_418 wk_419 wk_17) rfl ⟨rfl, by decide, by decide, by decide +kernel⟩ rfl rfl rfl rfl (by decide) rfl rfl (Nat.le_of_ble_eq_true rfl) ⟨by decide, by decide⟩ rfl rfl ⟨by decide, by decide⟩ ⟨by decide, by decide⟩ dX1_perform_105 rfl (fun r105 w105 hB105 => ?_)
          obtain ⟨h2_105, an2_105, em2_105, ar2_105, lo2_105, st2_105, stp2_105, n2_105, kf2_105, vf2_105, r2_105, ⟨hr105, rfl⟩, fR_105, fn_105, fD_105⟩ := hB105
          replace hr105 := hr105.symm
          subst hr105
          refine z_perm [21, 22, 23, 24, 25, 26, 27, 28, 29, 0, 1, 2, 3, 4, 5, 6, 33, 34, 35, 7, 8, 9, 10, 11, 12, 13, 14, 15, 16, 17, 30, 31, 32, 18, 19, 20] [(jb, zo 1 [.ref m, .ref jse, .ref jst, .ref jjo, .ref jre, .ref jco]), (m, zo 3 [.ref ma, .ref ml, .ref ms, .int (nI h2_105), .int an2_105, .ref mp, .int (nI em2_105), .ref mt]), (ma, zi E 3 ar2_105), (ml, zi E 4 lo2_105), (ms, zi E 8 st2_105), (mp, zo 4 [.ref mpk, .ref mpv, .int (nI n2_23)]), (mpk, zi E 600 f2_23), (mpv, zi E 600 g2_23), (mt, zi E 4 (zn stp2_105)), (jse, zi E 120 (zn se2_23)), (jst, zo 2 [.ref jsk, .ref jsv, .int (nI sn)]), (jsk, zi E 600 sk), (jsv, zi E 600 sv), (jjo, zo 4 [.ref jok, .ref jov, .int (nI 0)]), (jok, zi E 600 jf), (jov, zi E 600 jg), (jre, zo 2 [.ref tk, .ref tv, .int (nI n2_105)]), (tk, zi E 600 kf2_105), (tv, zi E 600 vf2_105), (jco, zi E 8 co2_81), (pa, zp E 4 (pf4 p0 p1 p2 p3)), (p0, zo 5 [.int (nI 0), .ref po0, .ref pn0, .int (nI len0)]), (po0, zi E 64 op0), (pn0, zi E 64 nn0), (p1, zo 5 [.int (nI 1), .ref po1, .ref pn1, .int (nI len1)]), (po1, zi E 64 op1), (pn1, zi E 64 nn1), (p2, zo 5 [.int (nI 2), .ref po2, .ref pn2, .int (nI len2)]), (po2, zi E 64 op2), (pn2, zi E 64 nn2), (p3, zo 5 [.int (nI 3), .ref po3, .ref pn3, .int (nI len3)]), (po3, zi E 64 op3), (pn3, zi E 64 nn3), (rr, zo 4 [.ref rrk, .ref rrv, .int (nI rn)]), (rrk, zi E 120 rf), (rrv, zi E 120 rg)] (by decide) rfl ?_
          refine z_istore 110 C0 [1, 2, 3, 4, 5, 0, 6] [(0, .ref jb), (1, .ref pa), (2, .ref rr), (3, .int (nI sz)), (4, .int (nI (((rn + sz) - 1) / sz))), (5, .int r2_105), (6, .ref mp)] dX1_perform_108 rfl (by decide) rfl ?_
          refine z_iload 112 C0 5 dX1_perform_110 rfl rfl ?_
          refine z_iconst 113 C0 (v := (-1)) dX1_perform_112 rfl (by decide) ?_
          refine z_icmp_eq 116 125 C0 dX1_perform_113 rfl (by decide) (fun k113 => ?_) (fun k113 => ?_)
          · skip
            refine z_aload_n 126 C0 0 dX1_perform_125 rfl rfl rfl ?_
            refine z_get 129 C0 0 0 wz_1 rfl (by decide) (zTs_in wk_175) dX1_perform_126 rfl rfl rfl ?_
            refine z_get 132 C0 1 7 wz_3 rfl (by decide) (zTs_in wk_130) dX1_perform_129 rfl rfl rfl ?_
            refine z_iconst 133 C0 (v := (nI 0)) dX1_perform_132 rfl rfl ?_
            refine z_aload_n 134 C0 0 dX1_perform_133 rfl rfl rfl ?_
            refine z_get 137 C0 0 5 wz_1 rfl (by decide) (zTs_in wk_181) dX1_perform_134 rfl rfl rfl ?_
            refine z_iconst 138 C0 (v := (nI 4)) dX1_perform_137 rfl rfl ?_
            refine z_iconst 139 C0 (v := (nI 4)) dX1_perform_138 rfl rfl ?_
            refine z_copy 142 C0 8 19 [(jb, zo 1 [.ref m, .ref jse, .ref jst, .ref jjo, .ref jre, .ref jco]), (m, zo 3 [.ref ma, .ref ml, .ref ms, .int (nI h2_105), .int an2_105, .ref mp, .int (nI em2_105), .ref mt]), (ma, zi E 3 ar2_105), (ml, zi E 4 lo2_105), (ms, zi E 8 st2_105), (mp, zo 4 [.ref mpk, .ref mpv, .int (nI n2_23)]), (mpk, zi E 600 f2_23), (mpv, zi E 600 g2_23), (mt, zi E 4 (zn stp2_105)), (jse, zi E 120 (zn se2_23)), (jst, zo 2 [.ref jsk, .ref jsv, .int (nI sn)]), (jsk, zi E 600 sk), (jsv, zi E 600 sv), (jjo, zo 4 [.ref jok, .ref jov, .int (nI 0)]), (jok, zi E 600 jf), (jov, zi E 600 jg), (jre, zo 2 [.ref tk, .ref tv, .int (nI n2_105)]), (tk, zi E 600 kf2_105), (tv, zi E 600 vf2_105), (jco, zi E 8 (va_cpy (zn stp2_105) co2_81 0 4 4)), (pa, zp E 4 (pf4 p0 p1 p2 p3)), (p0, zo 5 [.int (nI 0), .ref po0, .ref pn0, .int (nI len0)]), (po0, zi E 64 op0), (pn0, zi E 64 nn0), (p1, zo 5 [.int (nI 1), .ref po1, .ref pn1, .int (nI len1)]), (po1, zi E 64 op1), (pn1, zi E 64 nn1), (p2, zo 5 [.int (nI 2), .ref po2, .ref pn2, .int (nI len2)]), (po2, zi E 64 op2), (pn2, zi E 64 nn2), (p3, zo 5 [.int (nI 3), .ref po3, .ref pn3, .int (nI len3)]), (po3, zi E 64 op3), (pn3, zi E 64 nn3), (rr, zo 4 [.ref rrk, .ref rrv, .int (nI rn)]), (rrk, zi E 120 rf), (rrv, zi E 120 rg)] (zTs_in wk_421) (zTs_in wk_407) (zTs_in wk_406) (zTs_in wk_23) rfl rfl (by omega) (by omega) (by decide) (by decide) (by decide) (Nat.le_of_ble_eq_true rfl) (by decide) dX1_perform_139 rfl rfl ?_
            refine z_aload_n 143 C0 0 dX1_perform_142 rfl rfl rfl ?_
            refine z_get 146 C0 0 4 wz_1 rfl (by decide) (zTs_in wk_179) dX1_perform_143 rfl rfl rfl ?_
            refine z_get 149 C0 16 2 wz_2 rfl (by decide) (zTs_in wk_163) dX1_perform_146 rfl rfl rfl ?_
            have hen := fD_105 k113
            exact z_iret C0 rfl dX1_perform_149 ⟨h2_105, an2_105, em2_105, ar2_105, lo2_105, st2_105, stp2_105, f2_23, g2_23, n2_23, se2_23, sn, sk, sv, jf, jg, 0, kf2_105, vf2_105, n2_105, (va_cpy (zn stp2_105) co2_81 0 4 4), (-1, (enK op3 nn3 kf2_81 vf2_81 n2_81), cOK (mpP op0 nn0 rf rg rn).length (mpP op0 nn0 rf rg rn).length n2_81 (mpS op0 nn0 rf rg rn) 0 t2 (enS op3 nn3 kf2_81 vf2_81 n2_81)), ⟨(by unfold perf; rw [if_pos rfl]; exact congrArg nI hen.1), rfl⟩, (⟨r2_23, fR_23, Or.inr ⟨k40, (-1), (mpP op0 nn0 rf rg rn), 0, (Or.inl ⟨by omega, rfl, rfl, rfl⟩), Or.inr ⟨rfl, Or.inr ⟨M, t2, n2_81, kf2_81, vf2_81, hM, htb, ⟨r2_105, Or.inr ⟨by omega, fR_105⟩, Or.inr ⟨k113, by rw [if_neg (show ¬ len3 = 0 by omega), if_neg (show ¬ len3 = 0 by omega)]⟩⟩⟩⟩⟩⟩), (⟨hen.1, fn_105⟩), (hen.2.1), (fun j hj => by rw [hco2, he5, hPl]; exact cOK_gen (by rw [hen.2.2, hst2, he4]; simp [va_up]) (by rw [hen.2.2, hst2, he4]; simp [va_up]) (by rw [hen.2.2, hst2, he4]; simp [va_up]) (by rw [hen.2.2, hst2, he4]; simp [va_up]) j hj)⟩ (by decide) (by decide)
          · skip
            refine z_aload_n 117 C0 0 dX1_perform_116 rfl rfl rfl ?_
            refine z_iload 119 C0 5 dX1_perform_117 rfl rfl ?_
            refine z_callVv 122 C0 [0, 1, 5, 8, 13, 16, 19] [2, 3, 4, 6, 7, 9, 10, 11, 12, 14, 15, 17, 18, 20, 21, 22, 23, 24, 25, 26, 27, 28, 29, 30, 31, 32, 33, 34, 35] [(ma, zi E 3 ar2_105), (ml, zi E 4 lo2_105), (ms, zi E 8 st2_105), (mpk, zi E 600 f2_23), (mpv, zi E 600 g2_23), (jse, zi E 120 (zn se2_23)), (jst, zo 2 [.ref jsk, .ref jsv, .int (nI sn)]), (jsk, zi E 600 sk), (jsv, zi E 600 sv), (jok, zi E 600 jf), (jov, zi E 600 jg), (tk, zi E 600 kf2_105), (tv, zi E 600 vf2_105), (pa, zp E 4 (pf4 p0 p1 p2 p3)), (p0, zo 5 [.int (nI 0), .ref po0, .ref pn0, .int (nI len0)]), (po0, zi E 64 op0), (pn0, zi E 64 nn0), (p1, zo 5 [.int (nI 1), .ref po1, .ref pn1, .int (nI len1)]), (po1, zi E 64 op1), (pn1, zi E 64 nn1), (p2, zo 5 [.int (nI 2), .ref po2, .ref pn2, .int (nI len2)]), (po2, zi E 64 op2), (pn2, zi E 64 nn2), (p3, zo 5 [.int (nI 3), .ref po3, .ref pn3, .int (nI len3)]), (po3, zi E 64 op3), (pn3, zi E 64 nn3), (rr, zo 4 [.ref rrk, .ref rrv, .int (nI rn)]), (rrk, zi E 120 rf), (rrv, zi E 120 rg)] 0 0 (As := [.int r2_105]) (T := TX1) (N := 6) (C := RX1) (ci := 1) (n := 1) 0 (forget l_ E jb jse jst jjo jre jco m ma ml ms mp mt h2_105 an2_105 em2_105 mpk mpv n2_23 stp2_105 jok jov 0 tk tv n2_105 co2_81 r2_105 ) (zGIV (fun _ => zTs_in) wk_329 wk_326 wk_327 wk_328 wk_17) rfl ⟨rfl, by decide, by decide, by decide +kernel⟩ rfl rfl rfl rfl (by decide) rfl rfl (Nat.le_of_ble_eq_true rfl) ⟨by decide, by decide⟩ rfl rfl ⟨by decide, by decide⟩ ⟨by decide, by decide⟩ dX1_perform_119 rfl (fun w119 hB119 => ?_)
            obtain rfl := hB119
            refine z_perm [29, 30, 0, 1, 2, 31, 3, 4, 32, 5, 6, 7, 8, 33, 9, 10, 34, 11, 12, 35, 13, 14, 15, 16, 17, 18, 19, 20, 21, 22, 23, 24, 25, 26, 27, 28] [(jb, zo 1 [.ref m, .ref jse, .ref jst, .ref jjo, .ref jre, .ref jco]), (m, zo 3 [.ref ma, .ref ml, .ref ms, .int (nI h2_105), .int an2_105, .ref mp, .int (nI em2_105), .ref mt]), (ma, zi E 3 ar2_105), (ml, zi E 4 lo2_105), (ms, zi E 8 st2_105), (mp, zo 4 [.ref mpk, .ref mpv, .int (nI 0)]), (mpk, zi E 600 f2_23), (mpv, zi E 600 g2_23), (mt, zi E 4 (zn (fun _ => 0))), (jse, zi E 120 (zn se2_23)), (jst, zo 2 [.ref jsk, .ref jsv, .int (nI sn)]), (jsk, zi E 600 sk), (jsv, zi E 600 sv), (jjo, zo 4 [.ref jok, .ref jov, .int (nI 0)]), (jok, zi E 600 jf), (jov, zi E 600 jg), (jre, zo 2 [.ref tk, .ref tv, .int (nI 0)]), (tk, zi E 600 kf2_105), (tv, zi E 600 vf2_105), (jco, zi E 8 (upd (fun _ => (nI 0)) 0 r2_105)), (pa, zp E 4 (pf4 p0 p1 p2 p3)), (p0, zo 5 [.int (nI 0), .ref po0, .ref pn0, .int (nI len0)]), (po0, zi E 64 op0), (pn0, zi E 64 nn0), (p1, zo 5 [.int (nI 1), .ref po1, .ref pn1, .int (nI len1)]), (po1, zi E 64 op1), (pn1, zi E 64 nn1), (p2, zo 5 [.int (nI 2), .ref po2, .ref pn2, .int (nI len2)]), (po2, zi E 64 op2), (pn2, zi E 64 nn2), (p3, zo 5 [.int (nI 3), .ref po3, .ref pn3, .int (nI len3)]), (po3, zi E 64 op3), (pn3, zi E 64 nn3), (rr, zo 4 [.ref rrk, .ref rrv, .int (nI rn)]), (rrk, zi E 120 rf), (rrv, zi E 120 rg)] (by decide) rfl ?_
            refine z_bipush 124 C0 (v := (-4)) dX1_perform_122 rfl (by decide) ?_
            exact z_iret C0 rfl dX1_perform_124 ⟨h2_105, an2_105, em2_105, ar2_105, lo2_105, st2_105, (fun _ => 0), f2_23, g2_23, 0, se2_23, sn, sk, sv, jf, jg, 0, kf2_105, vf2_105, 0, (upd (fun _ => (nI 0)) 0 r2_105), (r2_105, [], cE r2_105), ⟨(by unfold perf; rw [if_neg k113]), rfl⟩, (⟨r2_23, fR_23, Or.inr ⟨k40, (-1), (mpP op0 nn0 rf rg rn), 0, (Or.inl ⟨by omega, rfl, rfl, rfl⟩), Or.inr ⟨rfl, Or.inr ⟨M, t2, n2_81, kf2_81, vf2_81, hM, htb, r2_105, Or.inr ⟨by omega, fR_105⟩, Or.inl ⟨k113, rfl⟩⟩⟩⟩⟩), (⟨rfl, Nat.zero_le _⟩), (fun j hj => absurd hj (Nat.not_lt_zero j)), (fun j _ => cE_upd r2_105 j)⟩ (by decide) (by decide)
    · skip
      have hGj : Good 1 op1 nn1 len1 := hG1.resolve_left (by omega)
      have hseh := se_hyp hsz hmO.2 he6
      refine z_aload_n 53 C0 0 dX1_perform_52 rfl rfl rfl ?_
      refine z_aload_n 54 C0 1 dX1_perform_53 rfl rfl rfl ?_
      refine z_iconst 55 C0 (v := (nI 1)) dX1_perform_54 rfl rfl ?_
      refine z_aald 56 C0 20 1 dX1_perform_55 rfl rfl rfl rfl (by omega) (by decide) (v := .ref p1) rfl ?_
      refine z_iload 58 C0 4 dX1_perform_56 rfl rfl ?_
      refine z_callVi 61 C0 [0, 1, 2, 3, 4, 5, 6, 7, 8, 24, 25, 26, 10, 11, 12, 13, 14, 15, 9] [16, 17, 18, 19, 20, 21, 22, 23, 27, 28, 29, 30, 31, 32, 33, 34, 35] [(jre, zo 2 [.ref tk, .ref tv, .int (nI 0)]), (tk, zi E 600 kf), (tv, zi E 600 vf), (jco, zi E 8 co2_23), (pa, zp E 4 (pf4 p0 p1 p2 p3)), (p0, zo 5 [.int (nI 0), .ref po0, .ref pn0, .int (nI len0)]), (po0, zi E 64 op0), (pn0, zi E 64 nn0), (p2, zo 5 [.int (nI 2), .ref po2, .ref pn2, .int (nI len2)]), (po2, zi E 64 op2), (pn2, zi E 64 nn2), (p3, zo 5 [.int (nI 3), .ref po3, .ref pn3, .int (nI len3)]), (po3, zi E 64 op3), (pn3, zi E 64 nn3), (rr, zo 4 [.ref rrk, .ref rrv, .int (nI rn)]), (rrk, zi E 120 rf), (rrv, zi E 120 rg)] 0 0 (As := [.ref p1, .int (nI (((rn + sz) - 1) / sz))]) (T := TX1) (N := 6) (C := RX1) (ci := 1) (n := 2) 0 (joinSplits l_ E jb jse jst jjo jre jco m ma ml ms mp mt h2_23 an2_23 em2_23 ar2_23 lo2_23 st2_23 mpk mpv f2_23 g2_23 n2_23 stp2_23 p1 po1 pn1 op1 nn1 len1 jsk jsv sk sv sn jok jov jf jg se2_23 (((rn + sz) - 1) / sz) (hGj) (hl1) (fn_23) (by have := spl_le (rn := rn) hsz; omega) (hseh)) (zGIV (fun _ => zTs_in) wk_388 wk_385 wk_386 wk_387 wk_17) rfl ⟨rfl, by decide, by decide, by decide +kernel⟩ rfl rfl rfl rfl (by decide) rfl rfl (Nat.le_of_ble_eq_true rfl) ⟨by decide, by decide⟩ rfl rfl ⟨by decide, by decide⟩ ⟨by decide, by decide⟩ dX1_perform_58 rfl (fun r58 w58 hB58 => ?_)
      obtain ⟨h2_58, an2_58, em2_58, ar2_58, lo2_58, st2_58, stp2_58, n2_58, kf2_58, vf2_58, J2_58, r2_58, ⟨hr58, rfl⟩, fR_58, fJ_58, fD_58⟩ := hB58
      replace hr58 := hr58.symm
      subst hr58
      refine z_perm [17, 18, 19, 20, 21, 22, 23, 24, 25, 35, 29, 30, 31, 32, 33, 34, 0, 1, 2, 3, 4, 5, 6, 7, 26, 27, 28, 8, 9, 10, 11, 12, 13, 14, 15, 16] [(jb, zo 1 [.ref m, .ref jse, .ref jst, .ref jjo, .ref jre, .ref jco]), (m, zo 3 [.ref ma, .ref ml, .ref ms, .int (nI h2_58), .int an2_58, .ref mp, .int (nI em2_58), .ref mt]), (ma, zi E 3 ar2_58), (ml, zi E 4 lo2_58), (ms, zi E 8 st2_58), (mp, zo 4 [.ref mpk, .ref mpv, .int (nI n2_23)]), (mpk, zi E 600 f2_23), (mpv, zi E 600 g2_23), (mt, zi E 4 (zn stp2_58)), (jse, zi E 120 (zn se2_23)), (jst, zo 2 [.ref jsk, .ref jsv, .int (nI n2_58)]), (jsk, zi E 600 kf2_58), (jsv, zi E 600 vf2_58), (jjo, zo 4 [.ref jok, .ref jov, .int (nI (rwN 600 0 J2_58))]), (jok, zi E 600 (rwK 600 0 jf J2_58)), (jov, zi E 600 (rwV 600 0 jg J2_58)), (jre, zo 2 [.ref tk, .ref tv, .int (nI 0)]), (tk, zi E 600 kf), (tv, zi E 600 vf), (jco, zi E 8 co2_23), (pa, zp E 4 (pf4 p0 p1 p2 p3)), (p0, zo 5 [.int (nI 0), .ref po0, .ref pn0, .int (nI len0)]), (po0, zi E 64 op0), (pn0, zi E 64 nn0), (p1, zo 5 [.int (nI 1), .ref po1, .ref pn1, .int (nI len1)]), (po1, zi E 64 op1), (pn1, zi E 64 nn1), (p2, zo 5 [.int (nI 2), .ref po2, .ref pn2, .int (nI len2)]), (po2, zi E 64 op2), (pn2, zi E 64 nn2), (p3, zo 5 [.int (nI 3), .ref po3, .ref pn3, .int (nI len3)]), (po3, zi E 64 op3), (pn3, zi E 64 nn3), (rr, zo 4 [.ref rrk, .ref rrv, .int (nI rn)]), (rrk, zi E 120 rf), (rrv, zi E 120 rg)] (by decide) rfl ?_
      refine z_istore 63 C0 [1, 2, 3, 4, 5, 0, 6] [(0, .ref jb), (1, .ref pa), (2, .ref rr), (3, .int (nI sz)), (4, .int (nI (((rn + sz) - 1) / sz))), (5, .int r2_58), (6, .ref mp)] dX1_perform_61 rfl (by decide) rfl ?_
      refine z_aload_n 64 C0 0 dX1_perform_63 rfl rfl rfl ?_
      refine z_get 67 C0 0 3 wz_1 rfl (by decide) (zTs_in wk_178) dX1_perform_64 rfl rfl rfl ?_
      refine z_astore 69 C0 [1, 2, 3, 4, 5, 6, 0] [(0, .ref jb), (1, .ref pa), (2, .ref rr), (3, .int (nI sz)), (4, .int (nI (((rn + sz) - 1) / sz))), (5, .int r2_58), (6, .ref jjo)] dX1_perform_67 rfl (by decide) rfl ?_
      refine z_iload 71 C0 5 dX1_perform_69 rfl rfl ?_
      refine z_iconst 72 C0 (v := (-1)) dX1_perform_71 rfl (by decide) ?_
      refine z_icmp_ne 75 86 C0 dX1_perform_72 rfl (by decide) (fun k72 => ?_) (fun k72 => ?_)
      · skip
        refine z_iload 88 C0 5 dX1_perform_86 rfl rfl ?_
        refine z_iconst 89 C0 (v := (-1)) dX1_perform_88 rfl (by decide) ?_
        refine z_icmp_ne 92 110 C0 dX1_perform_89 rfl (by decide) (fun k89 => ?_) (fun k89 => absurd k89 k72)
        refine z_iload 112 C0 5 dX1_perform_110 rfl rfl ?_
        refine z_iconst 113 C0 (v := (-1)) dX1_perform_112 rfl (by decide) ?_
        refine z_icmp_eq 116 125 C0 dX1_perform_113 rfl (by decide) (fun k113 => absurd k113 k72) (fun k113 => ?_)
        refine z_aload_n 117 C0 0 dX1_perform_116 rfl rfl rfl ?_
        refine z_iload 119 C0 5 dX1_perform_117 rfl rfl ?_
        refine z_callVv 122 C0 [0, 1, 5, 8, 13, 16, 19] [2, 3, 4, 6, 7, 9, 10, 11, 12, 14, 15, 17, 18, 20, 21, 22, 23, 24, 25, 26, 27, 28, 29, 30, 31, 32, 33, 34, 35] [(ma, zi E 3 ar2_58), (ml, zi E 4 lo2_58), (ms, zi E 8 st2_58), (mpk, zi E 600 f2_23), (mpv, zi E 600 g2_23), (jse, zi E 120 (zn se2_23)), (jst, zo 2 [.ref jsk, .ref jsv, .int (nI n2_58)]), (jsk, zi E 600 kf2_58), (jsv, zi E 600 vf2_58), (jok, zi E 600 (rwK 600 0 jf J2_58)), (jov, zi E 600 (rwV 600 0 jg J2_58)), (tk, zi E 600 kf), (tv, zi E 600 vf), (pa, zp E 4 (pf4 p0 p1 p2 p3)), (p0, zo 5 [.int (nI 0), .ref po0, .ref pn0, .int (nI len0)]), (po0, zi E 64 op0), (pn0, zi E 64 nn0), (p1, zo 5 [.int (nI 1), .ref po1, .ref pn1, .int (nI len1)]), (po1, zi E 64 op1), (pn1, zi E 64 nn1), (p2, zo 5 [.int (nI 2), .ref po2, .ref pn2, .int (nI len2)]), (po2, zi E 64 op2), (pn2, zi E 64 nn2), (p3, zo 5 [.int (nI 3), .ref po3, .ref pn3, .int (nI len3)]), (po3, zi E 64 op3), (pn3, zi E 64 nn3), (rr, zo 4 [.ref rrk, .ref rrv, .int (nI rn)]), (rrk, zi E 120 rf), (rrv, zi E 120 rg)] 0 0 (As := [.int r2_58]) (T := TX1) (N := 6) (C := RX1) (ci := 1) (n := 1) 0 (forget l_ E jb jse jst jjo jre jco m ma ml ms mp mt h2_58 an2_58 em2_58 mpk mpv n2_23 stp2_58 jok jov (rwN 600 0 J2_58) tk tv 0 co2_23 r2_58 ) (zGIV (fun _ => zTs_in) wk_329 wk_326 wk_327 wk_328 wk_17) rfl ⟨rfl, by decide, by decide, by decide +kernel⟩ rfl rfl rfl rfl (by decide) rfl rfl (Nat.le_of_ble_eq_true rfl) ⟨by decide, by decide⟩ rfl rfl ⟨by decide, by decide⟩ ⟨by decide, by decide⟩ dX1_perform_119 rfl (fun w119 hB119 => ?_)
        obtain rfl := hB119
        refine z_perm [29, 30, 0, 1, 2, 31, 3, 4, 32, 5, 6, 7, 8, 33, 9, 10, 34, 11, 12, 35, 13, 14, 15, 16, 17, 18, 19, 20, 21, 22, 23, 24, 25, 26, 27, 28] [(jb, zo 1 [.ref m, .ref jse, .ref jst, .ref jjo, .ref jre, .ref jco]), (m, zo 3 [.ref ma, .ref ml, .ref ms, .int (nI h2_58), .int an2_58, .ref mp, .int (nI em2_58), .ref mt]), (ma, zi E 3 ar2_58), (ml, zi E 4 lo2_58), (ms, zi E 8 st2_58), (mp, zo 4 [.ref mpk, .ref mpv, .int (nI 0)]), (mpk, zi E 600 f2_23), (mpv, zi E 600 g2_23), (mt, zi E 4 (zn (fun _ => 0))), (jse, zi E 120 (zn se2_23)), (jst, zo 2 [.ref jsk, .ref jsv, .int (nI n2_58)]), (jsk, zi E 600 kf2_58), (jsv, zi E 600 vf2_58), (jjo, zo 4 [.ref jok, .ref jov, .int (nI 0)]), (jok, zi E 600 (rwK 600 0 jf J2_58)), (jov, zi E 600 (rwV 600 0 jg J2_58)), (jre, zo 2 [.ref tk, .ref tv, .int (nI 0)]), (tk, zi E 600 kf), (tv, zi E 600 vf), (jco, zi E 8 (upd (fun _ => (nI 0)) 0 r2_58)), (pa, zp E 4 (pf4 p0 p1 p2 p3)), (p0, zo 5 [.int (nI 0), .ref po0, .ref pn0, .int (nI len0)]), (po0, zi E 64 op0), (pn0, zi E 64 nn0), (p1, zo 5 [.int (nI 1), .ref po1, .ref pn1, .int (nI len1)]), (po1, zi E 64 op1), (pn1, zi E 64 nn1), (p2, zo 5 [.int (nI 2), .ref po2, .ref pn2, .int (nI len2)]), (po2, zi E 64 op2), (pn2, zi E 64 nn2), (p3, zo 5 [.int (nI 3), .ref po3, .ref pn3, .int (nI len3)]), (po3, zi E 64 op3), (pn3, zi E 64 nn3), (rr, zo 4 [.ref rrk, .ref rrv, .int (nI rn)]), (rrk, zi E 120 rf), (rrv, zi E 120 rg)] (by decide) rfl ?_
        refine z_bipush 124 C0 (v := (-4)) dX1_perform_122 rfl (by decide) ?_
        exact z_iret C0 rfl dX1_perform_124 ⟨h2_58, an2_58, em2_58, ar2_58, lo2_58, st2_58, (fun _ => 0), f2_23, g2_23, 0, se2_23, n2_58, kf2_58, vf2_58, (rwK 600 0 jf J2_58), (rwV 600 0 jg J2_58), 0, kf, vf, 0, (upd (fun _ => (nI 0)) 0 r2_58), (r2_58, [], cE r2_58), ⟨(by unfold perf; rw [if_neg k72]), rfl⟩, (⟨r2_23, fR_23, Or.inr ⟨k40, r2_58, J2_58, 0, Or.inr ⟨by omega, joinL_of (fun s hs => by rw [he1, he2]; exact spLs_of hsz hmO.2 he6 s hs) fR_58, fun q => absurd q k72⟩, Or.inl ⟨k72, rfl⟩⟩⟩), (⟨rfl, Nat.zero_le _⟩), (fun j hj => absurd hj (Nat.not_lt_zero j)), (fun j _ => cE_upd r2_58 j)⟩ (by decide) (by decide)
      · skip
        obtain ⟨tot, hjn, hjs⟩ := fD_58 k72
        refine z_aload_n 76 C0 0 dX1_perform_75 rfl rfl rfl ?_
        refine z_aload_n 77 C0 1 dX1_perform_76 rfl rfl rfl ?_
        refine z_iconst 78 C0 (v := (nI 2)) dX1_perform_77 rfl rfl ?_
        refine z_aald 79 C0 20 1 dX1_perform_78 rfl rfl rfl rfl (by omega) (by decide) (v := .ref p2) rfl ?_
        refine z_aload 81 C0 6 dX1_perform_79 rfl rfl ?_
        refine z_callVi 84 C0 [0, 1, 2, 3, 4, 5, 6, 7, 8, 27, 28, 29, 16, 17, 18, 13, 14, 15, 19] [9, 10, 11, 12, 20, 21, 22, 23, 24, 25, 26, 30, 31, 32, 33, 34, 35] [(jse, zi E 120 (zn se2_23)), (jst, zo 2 [.ref jsk, .ref jsv, .int (nI n2_58)]), (jsk, zi E 600 kf2_58), (jsv, zi E 600 vf2_58), (pa, zp E 4 (pf4 p0 p1 p2 p3)), (p0, zo 5 [.int (nI 0), .ref po0, .ref pn0, .int (nI len0)]), (po0, zi E 64 op0), (pn0, zi E 64 nn0), (p1, zo 5 [.int (nI 1), .ref po1, .ref pn1, .int (nI len1)]), (po1, zi E 64 op1), (pn1, zi E 64 nn1), (p3, zo 5 [.int (nI 3), .ref po3, .ref pn3, .int (nI len3)]), (po3, zi E 64 op3), (pn3, zi E 64 nn3), (rr, zo 4 [.ref rrk, .ref rrv, .int (nI rn)]), (rrk, zi E 120 rf), (rrv, zi E 120 rg)] 0 0 (As := [.ref p2, .ref jjo]) (T := TX1) (N := 6) (C := RX1) (ci := 1) (n := 2) 0 (fold_s l_ E jb jse jst jjo jre jco m ma ml ms mp mt h2_58 an2_58 em2_58 ar2_58 lo2_58 st2_58 mpk mpv f2_23 g2_23 n2_23 stp2_58 p2 po2 pn2 op2 nn2 len2 tk tv kf vf jjo jok jov (rwK 600 0 jf J2_58) (rwV 600 0 jg J2_58) (rwN 600 0 J2_58) co2_23 (hG2) (hl2) (fn_23) (rwN_le (Nat.zero_le 600))) (zGIV (fun _ => zTs_in) wk_416 wk_413 wk_414 wk_415 wk_17) rfl ⟨rfl, by decide, by decide, by decide +kernel⟩ rfl rfl rfl rfl (by decide) rfl rfl (Nat.le_of_ble_eq_true rfl) ⟨by decide, by decide⟩ rfl rfl ⟨by decide, by decide⟩ ⟨by decide, by decide⟩ dX1_perform_81 rfl (fun r81 w81 hB81 => ?_)
        obtain ⟨h2_81, an2_81, em2_81, ar2_81, lo2_81, st2_81, stp2_81, n2_81, kf2_81, vf2_81, co2_81, ⟨rfl, rfl⟩, fn_81, fM_81⟩ := hB81
        refine z_perm [17, 18, 19, 20, 21, 22, 23, 24, 25, 0, 1, 2, 3, 32, 33, 34, 29, 30, 31, 35, 4, 5, 6, 7, 8, 9, 10, 26, 27, 28, 11, 12, 13, 14, 15, 16] [(jb, zo 1 [.ref m, .ref jse, .ref jst, .ref jjo, .ref jre, .ref jco]), (m, zo 3 [.ref ma, .ref ml, .ref ms, .int (nI h2_81), .int an2_81, .ref mp, .int (nI em2_81), .ref mt]), (ma, zi E 3 ar2_81), (ml, zi E 4 lo2_81), (ms, zi E 8 st2_81), (mp, zo 4 [.ref mpk, .ref mpv, .int (nI n2_23)]), (mpk, zi E 600 f2_23), (mpv, zi E 600 g2_23), (mt, zi E 4 (zn stp2_81)), (jse, zi E 120 (zn se2_23)), (jst, zo 2 [.ref jsk, .ref jsv, .int (nI n2_58)]), (jsk, zi E 600 kf2_58), (jsv, zi E 600 vf2_58), (jjo, zo 4 [.ref jok, .ref jov, .int (nI (rwN 600 0 J2_58))]), (jok, zi E 600 (rwK 600 0 jf J2_58)), (jov, zi E 600 (rwV 600 0 jg J2_58)), (jre, zo 2 [.ref tk, .ref tv, .int (nI n2_81)]), (tk, zi E 600 kf2_81), (tv, zi E 600 vf2_81), (jco, zi E 8 co2_81), (pa, zp E 4 (pf4 p0 p1 p2 p3)), (p0, zo 5 [.int (nI 0), .ref po0, .ref pn0, .int (nI len0)]), (po0, zi E 64 op0), (pn0, zi E 64 nn0), (p1, zo 5 [.int (nI 1), .ref po1, .ref pn1, .int (nI len1)]), (po1, zi E 64 op1), (pn1, zi E 64 nn1), (p2, zo 5 [.int (nI 2), .ref po2, .ref pn2, .int (nI len2)]), (po2, zi E 64 op2), (pn2, zi E 64 nn2), (p3, zo 5 [.int (nI 3), .ref po3, .ref pn3, .int (nI len3)]), (po3, zi E 64 op3), (pn3, zi E 64 nn3), (rr, zo 4 [.ref rrk, .ref rrv, .int (nI rn)]), (rrk, zi E 120 rf), (rrv, zi E 120 rg)] (by decide) rfl ?_
        refine z_istore 86 C0 [1, 2, 3, 4, 5, 0, 6] [(0, .ref jb), (1, .ref pa), (2, .ref rr), (3, .int (nI sz)), (4, .int (nI (((rn + sz) - 1) / sz))), (5, .int (fldR (mgL (pF op2 nn2) (tab (rwK 600 0 jf J2_58) (rwV 600 0 jg J2_58) 0 (rwN 600 0 J2_58)) (fun _ => none, 0)))), (6, .ref jjo)] dX1_perform_84 rfl (by decide) rfl ?_
        refine z_iload 88 C0 5 dX1_perform_86 rfl rfl ?_
        refine z_iconst 89 C0 (v := (-1)) dX1_perform_88 rfl (by decide) ?_
        refine z_icmp_ne 92 110 C0 dX1_perform_89 rfl (by decide) (fun k89 => ?_) (fun k89 => ?_)
        · skip
          refine z_iload 112 C0 5 dX1_perform_110 rfl rfl ?_
          refine z_iconst 113 C0 (v := (-1)) dX1_perform_112 rfl (by decide) ?_
          refine z_icmp_eq 116 125 C0 dX1_perform_113 rfl (by decide) (fun k113 => absurd k113 k89) (fun k113 => ?_)
          refine z_aload_n 117 C0 0 dX1_perform_116 rfl rfl rfl ?_
          refine z_iload 119 C0 5 dX1_perform_117 rfl rfl ?_
          refine z_callVv 122 C0 [0, 1, 5, 8, 13, 16, 19] [2, 3, 4, 6, 7, 9, 10, 11, 12, 14, 15, 17, 18, 20, 21, 22, 23, 24, 25, 26, 27, 28, 29, 30, 31, 32, 33, 34, 35] [(ma, zi E 3 ar2_81), (ml, zi E 4 lo2_81), (ms, zi E 8 st2_81), (mpk, zi E 600 f2_23), (mpv, zi E 600 g2_23), (jse, zi E 120 (zn se2_23)), (jst, zo 2 [.ref jsk, .ref jsv, .int (nI n2_58)]), (jsk, zi E 600 kf2_58), (jsv, zi E 600 vf2_58), (jok, zi E 600 (rwK 600 0 jf J2_58)), (jov, zi E 600 (rwV 600 0 jg J2_58)), (tk, zi E 600 kf2_81), (tv, zi E 600 vf2_81), (pa, zp E 4 (pf4 p0 p1 p2 p3)), (p0, zo 5 [.int (nI 0), .ref po0, .ref pn0, .int (nI len0)]), (po0, zi E 64 op0), (pn0, zi E 64 nn0), (p1, zo 5 [.int (nI 1), .ref po1, .ref pn1, .int (nI len1)]), (po1, zi E 64 op1), (pn1, zi E 64 nn1), (p2, zo 5 [.int (nI 2), .ref po2, .ref pn2, .int (nI len2)]), (po2, zi E 64 op2), (pn2, zi E 64 nn2), (p3, zo 5 [.int (nI 3), .ref po3, .ref pn3, .int (nI len3)]), (po3, zi E 64 op3), (pn3, zi E 64 nn3), (rr, zo 4 [.ref rrk, .ref rrv, .int (nI rn)]), (rrk, zi E 120 rf), (rrv, zi E 120 rg)] 0 0 (As := [.int (fldR (mgL (pF op2 nn2) (tab (rwK 600 0 jf J2_58) (rwV 600 0 jg J2_58) 0 (rwN 600 0 J2_58)) (fun _ => none, 0)))]) (T := TX1) (N := 6) (C := RX1) (ci := 1) (n := 1) 0 (forget l_ E jb jse jst jjo jre jco m ma ml ms mp mt h2_81 an2_81 em2_81 mpk mpv n2_23 stp2_81 jok jov (rwN 600 0 J2_58) tk tv n2_81 co2_81 (fldR (mgL (pF op2 nn2) (tab (rwK 600 0 jf J2_58) (rwV 600 0 jg J2_58) 0 (rwN 600 0 J2_58)) (fun _ => none, 0))) ) (zGIV (fun _ => zTs_in) wk_329 wk_326 wk_327 wk_328 wk_17) rfl ⟨rfl, by decide, by decide, by decide +kernel⟩ rfl rfl rfl rfl (by decide) rfl rfl (Nat.le_of_ble_eq_true rfl) ⟨by decide, by decide⟩ rfl rfl ⟨by decide, by decide⟩ ⟨by decide, by decide⟩ dX1_perform_119 rfl (fun w119 hB119 => ?_)
          obtain rfl := hB119
          refine z_perm [29, 30, 0, 1, 2, 31, 3, 4, 32, 5, 6, 7, 8, 33, 9, 10, 34, 11, 12, 35, 13, 14, 15, 16, 17, 18, 19, 20, 21, 22, 23, 24, 25, 26, 27, 28] [(jb, zo 1 [.ref m, .ref jse, .ref jst, .ref jjo, .ref jre, .ref jco]), (m, zo 3 [.ref ma, .ref ml, .ref ms, .int (nI h2_81), .int an2_81, .ref mp, .int (nI em2_81), .ref mt]), (ma, zi E 3 ar2_81), (ml, zi E 4 lo2_81), (ms, zi E 8 st2_81), (mp, zo 4 [.ref mpk, .ref mpv, .int (nI 0)]), (mpk, zi E 600 f2_23), (mpv, zi E 600 g2_23), (mt, zi E 4 (zn (fun _ => 0))), (jse, zi E 120 (zn se2_23)), (jst, zo 2 [.ref jsk, .ref jsv, .int (nI n2_58)]), (jsk, zi E 600 kf2_58), (jsv, zi E 600 vf2_58), (jjo, zo 4 [.ref jok, .ref jov, .int (nI 0)]), (jok, zi E 600 (rwK 600 0 jf J2_58)), (jov, zi E 600 (rwV 600 0 jg J2_58)), (jre, zo 2 [.ref tk, .ref tv, .int (nI 0)]), (tk, zi E 600 kf2_81), (tv, zi E 600 vf2_81), (jco, zi E 8 (upd (fun _ => (nI 0)) 0 (fldR (mgL (pF op2 nn2) (tab (rwK 600 0 jf J2_58) (rwV 600 0 jg J2_58) 0 (rwN 600 0 J2_58)) (fun _ => none, 0))))), (pa, zp E 4 (pf4 p0 p1 p2 p3)), (p0, zo 5 [.int (nI 0), .ref po0, .ref pn0, .int (nI len0)]), (po0, zi E 64 op0), (pn0, zi E 64 nn0), (p1, zo 5 [.int (nI 1), .ref po1, .ref pn1, .int (nI len1)]), (po1, zi E 64 op1), (pn1, zi E 64 nn1), (p2, zo 5 [.int (nI 2), .ref po2, .ref pn2, .int (nI len2)]), (po2, zi E 64 op2), (pn2, zi E 64 nn2), (p3, zo 5 [.int (nI 3), .ref po3, .ref pn3, .int (nI len3)]), (po3, zi E 64 op3), (pn3, zi E 64 nn3), (rr, zo 4 [.ref rrk, .ref rrv, .int (nI rn)]), (rrk, zi E 120 rf), (rrv, zi E 120 rg)] (by decide) rfl ?_
          refine z_bipush 124 C0 (v := (-4)) dX1_perform_122 rfl (by decide) ?_
          have hfl : fldR (mgL (pF op2 nn2) (tab (rwK 600 0 jf J2_58) (rwV 600 0 jg J2_58) 0 (rwN 600 0 J2_58)) (fun _ => none, 0)) = nI 2000 := by
            cases hq : (mgL (pF op2 nn2) (tab (rwK 600 0 jf J2_58) (rwV 600 0 jg J2_58) 0 (rwN 600 0 J2_58)) (fun _ => none, 0)) with
            | none => rfl
            | some z => rw [hq] at k89; exact absurd rfl k89
          have hno : mgL (pF op2 nn2) J2_58 (fun _ => none, 0) = none := by
            have hV : (tab (rwK 600 0 jf J2_58) (rwV 600 0 jg J2_58) 0 (rwN 600 0 J2_58)) = J2_58 := (by rw [rwN_len fJ_58]; exact (tab_congr (fun j _ hb => ⟨rwK_PK fJ_58 (by omega), rwV_PV fJ_58 (by omega)⟩)).trans (tab_PK _))
            rw [← hV]
            cases hq : (mgL (pF op2 nn2) (tab (rwK 600 0 jf J2_58) (rwV 600 0 jg J2_58) 0 (rwN 600 0 J2_58)) (fun _ => none, 0)) with
            | none => rfl
            | some z => rw [hq] at k89; exact absurd rfl k89
          exact z_iret C0 rfl dX1_perform_124 ⟨h2_81, an2_81, em2_81, ar2_81, lo2_81, st2_81, (fun _ => 0), f2_23, g2_23, 0, se2_23, n2_58, kf2_58, vf2_58, (rwK 600 0 jf J2_58), (rwV 600 0 jg J2_58), 0, kf2_81, vf2_81, 0, (upd (fun _ => (nI 0)) 0 (fldR (mgL (pF op2 nn2) (tab (rwK 600 0 jf J2_58) (rwV 600 0 jg J2_58) 0 (rwN 600 0 J2_58)) (fun _ => none, 0)))), ((nI 2000), [], cE (nI 2000)), ⟨(by unfold perf; rw [if_neg (show ¬ nI 2000 = -1 by decide)]), rfl⟩, (⟨r2_23, fR_23, Or.inr ⟨k40, r2_58, J2_58, tot, (Or.inr ⟨by omega, joinL_of (fun s hs => by rw [he1, he2]; exact spLs_of hsz hmO.2 he6 s hs) fR_58, fun _ => jnL_of (fun s hs => by rw [he1, he2]; exact spLs_of hsz hmO.2 he6 s hs) hjn⟩), Or.inr ⟨k72, Or.inl ⟨hno, rfl⟩⟩⟩⟩), (⟨rfl, Nat.zero_le _⟩), (fun j hj => absurd hj (Nat.not_lt_zero j)), (fun j _ => by rw [hfl]; exact cE_upd (nI 2000) j)⟩ (by decide) (by decide)
        · skip
          obtain ⟨M, t2, hM⟩ : ∃ M t2, (mgL (pF op2 nn2) (tab (rwK 600 0 jf J2_58) (rwV 600 0 jg J2_58) 0 (rwN 600 0 J2_58)) (fun _ => none, 0)) = some (M, t2) := by
            cases hq : (mgL (pF op2 nn2) (tab (rwK 600 0 jf J2_58) (rwV 600 0 jg J2_58) 0 (rwN 600 0 J2_58)) (fun _ => none, 0)) with
            | none => rw [hq] at k89; exact absurd k89 (by decide)
            | some z => exact ⟨z.1, z.2, rfl⟩
          obtain ⟨htb, hst2, hco2⟩ := fM_81 M t2 hM
          have hV : (tab (rwK 600 0 jf J2_58) (rwV 600 0 jg J2_58) 0 (rwN 600 0 J2_58)) = J2_58 := (by rw [rwN_len fJ_58]; exact (tab_congr (fun j _ hb => ⟨rwK_PK fJ_58 (by omega), rwV_PV fJ_58 (by omega)⟩)).trans (tab_PK _))
          rw [hV] at hM
          refine z_aload_n 93 C0 1 dX1_perform_92 rfl rfl rfl ?_
          refine z_iconst 94 C0 (v := (nI 3)) dX1_perform_93 rfl rfl ?_
          refine z_aald 95 C0 20 1 dX1_perform_94 rfl rfl rfl rfl (by omega) (by decide) (v := .ref p3) rfl ?_
          refine z_get 98 C0 30 3 wz_5 rfl (by decide) (zTs_in wk_78) dX1_perform_95 rfl rfl rfl ?_
          refine z_if_leN 101 110 C0 (by omega) dX1_perform_98 rfl (by decide) (fun k98 => ?_) (fun k98 => ?_)
          · skip
            refine z_iload 112 C0 5 dX1_perform_110 rfl rfl ?_
            refine z_iconst 113 C0 (v := (-1)) dX1_perform_112 rfl (by decide) ?_
            refine z_icmp_eq 116 125 C0 dX1_perform_113 rfl (by decide) (fun k113 => ?_) (fun k113 => absurd k113 (fun q => q k89))
            refine z_aload_n 126 C0 0 dX1_perform_125 rfl rfl rfl ?_
            refine z_get 129 C0 0 0 wz_1 rfl (by decide) (zTs_in wk_175) dX1_perform_126 rfl rfl rfl ?_
            refine z_get 132 C0 1 7 wz_3 rfl (by decide) (zTs_in wk_130) dX1_perform_129 rfl rfl rfl ?_
            refine z_iconst 133 C0 (v := (nI 0)) dX1_perform_132 rfl rfl ?_
            refine z_aload_n 134 C0 0 dX1_perform_133 rfl rfl rfl ?_
            refine z_get 137 C0 0 5 wz_1 rfl (by decide) (zTs_in wk_181) dX1_perform_134 rfl rfl rfl ?_
            refine z_iconst 138 C0 (v := (nI 4)) dX1_perform_137 rfl rfl ?_
            refine z_iconst 139 C0 (v := (nI 4)) dX1_perform_138 rfl rfl ?_
            refine z_copy 142 C0 8 19 [(jb, zo 1 [.ref m, .ref jse, .ref jst, .ref jjo, .ref jre, .ref jco]), (m, zo 3 [.ref ma, .ref ml, .ref ms, .int (nI h2_81), .int an2_81, .ref mp, .int (nI em2_81), .ref mt]), (ma, zi E 3 ar2_81), (ml, zi E 4 lo2_81), (ms, zi E 8 st2_81), (mp, zo 4 [.ref mpk, .ref mpv, .int (nI n2_23)]), (mpk, zi E 600 f2_23), (mpv, zi E 600 g2_23), (mt, zi E 4 (zn stp2_81)), (jse, zi E 120 (zn se2_23)), (jst, zo 2 [.ref jsk, .ref jsv, .int (nI n2_58)]), (jsk, zi E 600 kf2_58), (jsv, zi E 600 vf2_58), (jjo, zo 4 [.ref jok, .ref jov, .int (nI (rwN 600 0 J2_58))]), (jok, zi E 600 (rwK 600 0 jf J2_58)), (jov, zi E 600 (rwV 600 0 jg J2_58)), (jre, zo 2 [.ref tk, .ref tv, .int (nI n2_81)]), (tk, zi E 600 kf2_81), (tv, zi E 600 vf2_81), (jco, zi E 8 (va_cpy (zn stp2_81) co2_81 0 4 4)), (pa, zp E 4 (pf4 p0 p1 p2 p3)), (p0, zo 5 [.int (nI 0), .ref po0, .ref pn0, .int (nI len0)]), (po0, zi E 64 op0), (pn0, zi E 64 nn0), (p1, zo 5 [.int (nI 1), .ref po1, .ref pn1, .int (nI len1)]), (po1, zi E 64 op1), (pn1, zi E 64 nn1), (p2, zo 5 [.int (nI 2), .ref po2, .ref pn2, .int (nI len2)]), (po2, zi E 64 op2), (pn2, zi E 64 nn2), (p3, zo 5 [.int (nI 3), .ref po3, .ref pn3, .int (nI len3)]), (po3, zi E 64 op3), (pn3, zi E 64 nn3), (rr, zo 4 [.ref rrk, .ref rrv, .int (nI rn)]), (rrk, zi E 120 rf), (rrv, zi E 120 rg)] (zTs_in wk_421) (zTs_in wk_407) (zTs_in wk_406) (zTs_in wk_23) rfl rfl (by omega) (by omega) (by decide) (by decide) (by decide) (Nat.le_of_ble_eq_true rfl) (by decide) dX1_perform_139 rfl rfl ?_
            refine z_aload_n 143 C0 0 dX1_perform_142 rfl rfl rfl ?_
            refine z_get 146 C0 0 4 wz_1 rfl (by decide) (zTs_in wk_179) dX1_perform_143 rfl rfl rfl ?_
            refine z_get 149 C0 16 2 wz_2 rfl (by decide) (zTs_in wk_163) dX1_perform_146 rfl rfl rfl ?_
            exact z_iret C0 rfl dX1_perform_149 ⟨h2_81, an2_81, em2_81, ar2_81, lo2_81, st2_81, stp2_81, f2_23, g2_23, n2_23, se2_23, n2_58, kf2_58, vf2_58, (rwK 600 0 jf J2_58), (rwV 600 0 jg J2_58), (rwN 600 0 J2_58), kf2_81, vf2_81, n2_81, (va_cpy (zn stp2_81) co2_81 0 4 4), (-1, (tab kf2_81 vf2_81 0 n2_81), cOK (mpP op0 nn0 rf rg rn).length J2_58.length n2_81 (mpS op0 nn0 rf rg rn) tot t2 0), ⟨(by unfold perf; rw [if_pos rfl]; exact congrArg nI tab_len.symm), rfl⟩, (⟨r2_23, fR_23, Or.inr ⟨k40, r2_58, J2_58, tot, (Or.inr ⟨by omega, joinL_of (fun s hs => by rw [he1, he2]; exact spLs_of hsz hmO.2 he6 s hs) fR_58, fun _ => jnL_of (fun s hs => by rw [he1, he2]; exact spLs_of hsz hmO.2 he6 s hs) hjn⟩), Or.inr ⟨k72, Or.inr ⟨M, t2, n2_81, kf2_81, vf2_81, hM, htb, ⟨-1, Or.inl ⟨by omega, rfl⟩, Or.inr ⟨rfl, by rw [if_pos (show len3 = 0 by omega), if_pos (show len3 = 0 by omega)]⟩⟩⟩⟩⟩⟩), (⟨tab_len.symm, by have h1 := fn_81; have h2 := rwN_le (P := J2_58) (Nat.zero_le 600); omega⟩), (fun j hj => by show _ = (tab kf2_81 vf2_81 0 n2_81).getD j (0, 0); rw [List.getD_eq_getElem?_getD, tab_get, if_pos hj, Nat.zero_add]; rfl), (fun j hj => by rw [hco2, he5, rwN_len fJ_58]; exact cOK_gen (by rw [hst2, hjs, he4]; simp [va_up]) (by rw [hst2, hjs, he4]; simp [va_up]) (by rw [hst2, hjs, he4]; simp [va_up]) (by rw [hst2, hjs, he4]; simp [va_up]) j hj)⟩ (by decide) (by decide)
          · skip
            have hGe : Good 3 op3 nn3 len3 := hG3.resolve_left (by omega)
            refine z_aload_n 102 C0 0 dX1_perform_101 rfl rfl rfl ?_
            refine z_aload_n 103 C0 1 dX1_perform_102 rfl rfl rfl ?_
            refine z_iconst 104 C0 (v := (nI 3)) dX1_perform_103 rfl rfl ?_
            refine z_aald 105 C0 20 1 dX1_perform_104 rfl rfl rfl rfl (by omega) (by decide) (v := .ref p3) rfl ?_
            refine z_callVi 108 C0 [0, 1, 2, 3, 4, 5, 6, 7, 8, 30, 31, 32, 16, 17, 18] [9, 10, 11, 12, 13, 14, 15, 19, 20, 21, 22, 23, 24, 25, 26, 27, 28, 29, 33, 34, 35] [(jse, zi E 120 (zn se2_23)), (jst, zo 2 [.ref jsk, .ref jsv, .int (nI n2_58)]), (jsk, zi E 600 kf2_58), (jsv, zi E 600 vf2_58), (jjo, zo 4 [.ref jok, .ref jov, .int (nI (rwN 600 0 J2_58))]), (jok, zi E 600 (rwK 600 0 jf J2_58)), (jov, zi E 600 (rwV 600 0 jg J2_58)), (jco, zi E 8 co2_81), (pa, zp E 4 (pf4 p0 p1 p2 p3)), (p0, zo 5 [.int (nI 0), .ref po0, .ref pn0, .int (nI len0)]), (po0, zi E 64 op0), (pn0, zi E 64 nn0), (p1, zo 5 [.int (nI 1), .ref po1, .ref pn1, .int (nI len1)]), (po1, zi E 64 op1), (pn1, zi E 64 nn1), (p2, zo 5 [.int (nI 2), .ref po2, .ref pn2, .int (nI len2)]), (po2, zi E 64 op2), (pn2, zi E 64 nn2), (rr, zo 4 [.ref rrk, .ref rrv, .int (nI rn)]), (rrk, zi E 120 rf), (rrv, zi E 120 rg)] 0 0 (As := [.ref p3]) (T := TX1) (N := 6) (C := RX1) (ci := 1) (n := 1) 0 (endKeys l_ E jb jse jst jjo jre jco m ma ml ms mp mt h2_81 an2_81 em2_81 ar2_81 lo2_81 st2_81 mpk mpv f2_23 g2_23 n2_23 stp2_81 p3 po3 pn3 op3 nn3 len3 tk tv kf2_81 vf2_81 n2_81 (hGe) (hl3) (fn_23) (by have h1 := fn_81; have h2 := rwN_le (P := J2_58) (Nat.zero_le 600); omega)) (zGIV (fun _ => zTs_in) wk_420 wk_417 wk_418 wk_419 wk_17) rfl ⟨rfl, by decide, by decide, by decide +kernel⟩ rfl rfl rfl rfl (by decide) rfl rfl (Nat.le_of_ble_eq_true rfl) ⟨by decide, by decide⟩ rfl rfl ⟨by decide, by decide⟩ ⟨by decide, by decide⟩ dX1_perform_105 rfl (fun r105 w105 hB105 => ?_)
            obtain ⟨h2_105, an2_105, em2_105, ar2_105, lo2_105, st2_105, stp2_105, n2_105, kf2_105, vf2_105, r2_105, ⟨hr105, rfl⟩, fR_105, fn_105, fD_105⟩ := hB105
            replace hr105 := hr105.symm
            subst hr105
            refine z_perm [21, 22, 23, 24, 25, 26, 27, 28, 29, 0, 1, 2, 3, 4, 5, 6, 33, 34, 35, 7, 8, 9, 10, 11, 12, 13, 14, 15, 16, 17, 30, 31, 32, 18, 19, 20] [(jb, zo 1 [.ref m, .ref jse, .ref jst, .ref jjo, .ref jre, .ref jco]), (m, zo 3 [.ref ma, .ref ml, .ref ms, .int (nI h2_105), .int an2_105, .ref mp, .int (nI em2_105), .ref mt]), (ma, zi E 3 ar2_105), (ml, zi E 4 lo2_105), (ms, zi E 8 st2_105), (mp, zo 4 [.ref mpk, .ref mpv, .int (nI n2_23)]), (mpk, zi E 600 f2_23), (mpv, zi E 600 g2_23), (mt, zi E 4 (zn stp2_105)), (jse, zi E 120 (zn se2_23)), (jst, zo 2 [.ref jsk, .ref jsv, .int (nI n2_58)]), (jsk, zi E 600 kf2_58), (jsv, zi E 600 vf2_58), (jjo, zo 4 [.ref jok, .ref jov, .int (nI (rwN 600 0 J2_58))]), (jok, zi E 600 (rwK 600 0 jf J2_58)), (jov, zi E 600 (rwV 600 0 jg J2_58)), (jre, zo 2 [.ref tk, .ref tv, .int (nI n2_105)]), (tk, zi E 600 kf2_105), (tv, zi E 600 vf2_105), (jco, zi E 8 co2_81), (pa, zp E 4 (pf4 p0 p1 p2 p3)), (p0, zo 5 [.int (nI 0), .ref po0, .ref pn0, .int (nI len0)]), (po0, zi E 64 op0), (pn0, zi E 64 nn0), (p1, zo 5 [.int (nI 1), .ref po1, .ref pn1, .int (nI len1)]), (po1, zi E 64 op1), (pn1, zi E 64 nn1), (p2, zo 5 [.int (nI 2), .ref po2, .ref pn2, .int (nI len2)]), (po2, zi E 64 op2), (pn2, zi E 64 nn2), (p3, zo 5 [.int (nI 3), .ref po3, .ref pn3, .int (nI len3)]), (po3, zi E 64 op3), (pn3, zi E 64 nn3), (rr, zo 4 [.ref rrk, .ref rrv, .int (nI rn)]), (rrk, zi E 120 rf), (rrv, zi E 120 rg)] (by decide) rfl ?_
            refine z_istore 110 C0 [1, 2, 3, 4, 5, 0, 6] [(0, .ref jb), (1, .ref pa), (2, .ref rr), (3, .int (nI sz)), (4, .int (nI (((rn + sz) - 1) / sz))), (5, .int r2_105), (6, .ref jjo)] dX1_perform_108 rfl (by decide) rfl ?_
            refine z_iload 112 C0 5 dX1_perform_110 rfl rfl ?_
            refine z_iconst 113 C0 (v := (-1)) dX1_perform_112 rfl (by decide) ?_
            refine z_icmp_eq 116 125 C0 dX1_perform_113 rfl (by decide) (fun k113 => ?_) (fun k113 => ?_)
            · skip
              refine z_aload_n 126 C0 0 dX1_perform_125 rfl rfl rfl ?_
              refine z_get 129 C0 0 0 wz_1 rfl (by decide) (zTs_in wk_175) dX1_perform_126 rfl rfl rfl ?_
              refine z_get 132 C0 1 7 wz_3 rfl (by decide) (zTs_in wk_130) dX1_perform_129 rfl rfl rfl ?_
              refine z_iconst 133 C0 (v := (nI 0)) dX1_perform_132 rfl rfl ?_
              refine z_aload_n 134 C0 0 dX1_perform_133 rfl rfl rfl ?_
              refine z_get 137 C0 0 5 wz_1 rfl (by decide) (zTs_in wk_181) dX1_perform_134 rfl rfl rfl ?_
              refine z_iconst 138 C0 (v := (nI 4)) dX1_perform_137 rfl rfl ?_
              refine z_iconst 139 C0 (v := (nI 4)) dX1_perform_138 rfl rfl ?_
              refine z_copy 142 C0 8 19 [(jb, zo 1 [.ref m, .ref jse, .ref jst, .ref jjo, .ref jre, .ref jco]), (m, zo 3 [.ref ma, .ref ml, .ref ms, .int (nI h2_105), .int an2_105, .ref mp, .int (nI em2_105), .ref mt]), (ma, zi E 3 ar2_105), (ml, zi E 4 lo2_105), (ms, zi E 8 st2_105), (mp, zo 4 [.ref mpk, .ref mpv, .int (nI n2_23)]), (mpk, zi E 600 f2_23), (mpv, zi E 600 g2_23), (mt, zi E 4 (zn stp2_105)), (jse, zi E 120 (zn se2_23)), (jst, zo 2 [.ref jsk, .ref jsv, .int (nI n2_58)]), (jsk, zi E 600 kf2_58), (jsv, zi E 600 vf2_58), (jjo, zo 4 [.ref jok, .ref jov, .int (nI (rwN 600 0 J2_58))]), (jok, zi E 600 (rwK 600 0 jf J2_58)), (jov, zi E 600 (rwV 600 0 jg J2_58)), (jre, zo 2 [.ref tk, .ref tv, .int (nI n2_105)]), (tk, zi E 600 kf2_105), (tv, zi E 600 vf2_105), (jco, zi E 8 (va_cpy (zn stp2_105) co2_81 0 4 4)), (pa, zp E 4 (pf4 p0 p1 p2 p3)), (p0, zo 5 [.int (nI 0), .ref po0, .ref pn0, .int (nI len0)]), (po0, zi E 64 op0), (pn0, zi E 64 nn0), (p1, zo 5 [.int (nI 1), .ref po1, .ref pn1, .int (nI len1)]), (po1, zi E 64 op1), (pn1, zi E 64 nn1), (p2, zo 5 [.int (nI 2), .ref po2, .ref pn2, .int (nI len2)]), (po2, zi E 64 op2), (pn2, zi E 64 nn2), (p3, zo 5 [.int (nI 3), .ref po3, .ref pn3, .int (nI len3)]), (po3, zi E 64 op3), (pn3, zi E 64 nn3), (rr, zo 4 [.ref rrk, .ref rrv, .int (nI rn)]), (rrk, zi E 120 rf), (rrv, zi E 120 rg)] (zTs_in wk_421) (zTs_in wk_407) (zTs_in wk_406) (zTs_in wk_23) rfl rfl (by omega) (by omega) (by decide) (by decide) (by decide) (Nat.le_of_ble_eq_true rfl) (by decide) dX1_perform_139 rfl rfl ?_
              refine z_aload_n 143 C0 0 dX1_perform_142 rfl rfl rfl ?_
              refine z_get 146 C0 0 4 wz_1 rfl (by decide) (zTs_in wk_179) dX1_perform_143 rfl rfl rfl ?_
              refine z_get 149 C0 16 2 wz_2 rfl (by decide) (zTs_in wk_163) dX1_perform_146 rfl rfl rfl ?_
              have hen := fD_105 k113
              exact z_iret C0 rfl dX1_perform_149 ⟨h2_105, an2_105, em2_105, ar2_105, lo2_105, st2_105, stp2_105, f2_23, g2_23, n2_23, se2_23, n2_58, kf2_58, vf2_58, (rwK 600 0 jf J2_58), (rwV 600 0 jg J2_58), (rwN 600 0 J2_58), kf2_105, vf2_105, n2_105, (va_cpy (zn stp2_105) co2_81 0 4 4), (-1, (enK op3 nn3 kf2_81 vf2_81 n2_81), cOK (mpP op0 nn0 rf rg rn).length J2_58.length n2_81 (mpS op0 nn0 rf rg rn) tot t2 (enS op3 nn3 kf2_81 vf2_81 n2_81)), ⟨(by unfold perf; rw [if_pos rfl]; exact congrArg nI hen.1), rfl⟩, (⟨r2_23, fR_23, Or.inr ⟨k40, r2_58, J2_58, tot, (Or.inr ⟨by omega, joinL_of (fun s hs => by rw [he1, he2]; exact spLs_of hsz hmO.2 he6 s hs) fR_58, fun _ => jnL_of (fun s hs => by rw [he1, he2]; exact spLs_of hsz hmO.2 he6 s hs) hjn⟩), Or.inr ⟨k72, Or.inr ⟨M, t2, n2_81, kf2_81, vf2_81, hM, htb, ⟨r2_105, Or.inr ⟨by omega, fR_105⟩, Or.inr ⟨k113, by rw [if_neg (show ¬ len3 = 0 by omega), if_neg (show ¬ len3 = 0 by omega)]⟩⟩⟩⟩⟩⟩), (⟨hen.1, fn_105⟩), (hen.2.1), (fun j hj => by rw [hco2, he5, rwN_len fJ_58]; exact cOK_gen (by rw [hen.2.2, hst2, hjs, he4]; simp [va_up]) (by rw [hen.2.2, hst2, hjs, he4]; simp [va_up]) (by rw [hen.2.2, hst2, hjs, he4]; simp [va_up]) (by rw [hen.2.2, hst2, hjs, he4]; simp [va_up]) j hj)⟩ (by decide) (by decide)
            · skip
              refine z_aload_n 117 C0 0 dX1_perform_116 rfl rfl rfl ?_
              refine z_iload 119 C0 5 dX1_perform_117 rfl rfl ?_
              refine z_callVv 122 C0 [0, 1, 5, 8, 13, 16, 19] [2, 3, 4, 6, 7, 9, 10, 11, 12, 14, 15, 17, 18, 20, 21, 22, 23, 24, 25, 26, 27, 28, 29, 30, 31, 32, 33, 34, 35] [(ma, zi E 3 ar2_105), (ml, zi E 4 lo2_105), (ms, zi E 8 st2_105), (mpk, zi E 600 f2_23), (mpv, zi E 600 g2_23), (jse, zi E 120 (zn se2_23)), (jst, zo 2 [.ref jsk, .ref jsv, .int (nI n2_58)]), (jsk, zi E 600 kf2_58), (jsv, zi E 600 vf2_58), (jok, zi E 600 (rwK 600 0 jf J2_58)), (jov, zi E 600 (rwV 600 0 jg J2_58)), (tk, zi E 600 kf2_105), (tv, zi E 600 vf2_105), (pa, zp E 4 (pf4 p0 p1 p2 p3)), (p0, zo 5 [.int (nI 0), .ref po0, .ref pn0, .int (nI len0)]), (po0, zi E 64 op0), (pn0, zi E 64 nn0), (p1, zo 5 [.int (nI 1), .ref po1, .ref pn1, .int (nI len1)]), (po1, zi E 64 op1), (pn1, zi E 64 nn1), (p2, zo 5 [.int (nI 2), .ref po2, .ref pn2, .int (nI len2)]), (po2, zi E 64 op2), (pn2, zi E 64 nn2), (p3, zo 5 [.int (nI 3), .ref po3, .ref pn3, .int (nI len3)]), (po3, zi E 64 op3), (pn3, zi E 64 nn3), (rr, zo 4 [.ref rrk, .ref rrv, .int (nI rn)]), (rrk, zi E 120 rf), (rrv, zi E 120 rg)] 0 0 (As := [.int r2_105]) (T := TX1) (N := 6) (C := RX1) (ci := 1) (n := 1) 0 (forget l_ E jb jse jst jjo jre jco m ma ml ms mp mt h2_105 an2_105 em2_105 mpk mpv n2_23 stp2_105 jok jov (rwN 600 0 J2_58) tk tv n2_105 co2_81 r2_105 ) (zGIV (fun _ => zTs_in) wk_329 wk_326 wk_327 wk_328 wk_17) rfl ⟨rfl, by decide, by decide, by decide +kernel⟩ rfl rfl rfl rfl (by decide) rfl rfl (Nat.le_of_ble_eq_true rfl) ⟨by decide, by decide⟩ rfl rfl ⟨by decide, by decide⟩ ⟨by decide, by decide⟩ dX1_perform_119 rfl (fun w119 hB119 => ?_)
              obtain rfl := hB119
              refine z_perm [29, 30, 0, 1, 2, 31, 3, 4, 32, 5, 6, 7, 8, 33, 9, 10, 34, 11, 12, 35, 13, 14, 15, 16, 17, 18, 19, 20, 21, 22, 23, 24, 25, 26, 27, 28] [(jb, zo 1 [.ref m, .ref jse, .ref jst, .ref jjo, .ref jre, .ref jco]), (m, zo 3 [.ref ma, .ref ml, .ref ms, .int (nI h2_105), .int an2_105, .ref mp, .int (nI em2_105), .ref mt]), (ma, zi E 3 ar2_105), (ml, zi E 4 lo2_105), (ms, zi E 8 st2_105), (mp, zo 4 [.ref mpk, .ref mpv, .int (nI 0)]), (mpk, zi E 600 f2_23), (mpv, zi E 600 g2_23), (mt, zi E 4 (zn (fun _ => 0))), (jse, zi E 120 (zn se2_23)), (jst, zo 2 [.ref jsk, .ref jsv, .int (nI n2_58)]), (jsk, zi E 600 kf2_58), (jsv, zi E 600 vf2_58), (jjo, zo 4 [.ref jok, .ref jov, .int (nI 0)]), (jok, zi E 600 (rwK 600 0 jf J2_58)), (jov, zi E 600 (rwV 600 0 jg J2_58)), (jre, zo 2 [.ref tk, .ref tv, .int (nI 0)]), (tk, zi E 600 kf2_105), (tv, zi E 600 vf2_105), (jco, zi E 8 (upd (fun _ => (nI 0)) 0 r2_105)), (pa, zp E 4 (pf4 p0 p1 p2 p3)), (p0, zo 5 [.int (nI 0), .ref po0, .ref pn0, .int (nI len0)]), (po0, zi E 64 op0), (pn0, zi E 64 nn0), (p1, zo 5 [.int (nI 1), .ref po1, .ref pn1, .int (nI len1)]), (po1, zi E 64 op1), (pn1, zi E 64 nn1), (p2, zo 5 [.int (nI 2), .ref po2, .ref pn2, .int (nI len2)]), (po2, zi E 64 op2), (pn2, zi E 64 nn2), (p3, zo 5 [.int (nI 3), .ref po3, .ref pn3, .int (nI len3)]), (po3, zi E 64 op3), (pn3, zi E 64 nn3), (rr, zo 4 [.ref rrk, .ref rrv, .int (nI rn)]), (rrk, zi E 120 rf), (rrv, zi E 120 rg)] (by decide) rfl ?_
              refine z_bipush 124 C0 (v := (-4)) dX1_perform_122 rfl (by decide) ?_
              exact z_iret C0 rfl dX1_perform_124 ⟨h2_105, an2_105, em2_105, ar2_105, lo2_105, st2_105, (fun _ => 0), f2_23, g2_23, 0, se2_23, n2_58, kf2_58, vf2_58, (rwK 600 0 jf J2_58), (rwV 600 0 jg J2_58), 0, kf2_105, vf2_105, 0, (upd (fun _ => (nI 0)) 0 r2_105), (r2_105, [], cE r2_105), ⟨(by unfold perf; rw [if_neg k113]), rfl⟩, (⟨r2_23, fR_23, Or.inr ⟨k40, r2_58, J2_58, tot, (Or.inr ⟨by omega, joinL_of (fun s hs => by rw [he1, he2]; exact spLs_of hsz hmO.2 he6 s hs) fR_58, fun _ => jnL_of (fun s hs => by rw [he1, he2]; exact spLs_of hsz hmO.2 he6 s hs) hjn⟩), Or.inr ⟨k72, Or.inr ⟨M, t2, n2_81, kf2_81, vf2_81, hM, htb, r2_105, Or.inr ⟨by omega, fR_105⟩, Or.inl ⟨k113, rfl⟩⟩⟩⟩⟩), (⟨rfl, Nat.zero_le _⟩), (fun j hj => absurd hj (Nat.not_lt_zero j)), (fun j _ => cE_upd r2_105 j)⟩ (by decide) (by decide)
end
section
/-! the checker: heights as bits, what is reached as a row -/
def hasB (m h : Nat) : Prop := m / 2 ^ h % 2 = 1
def bitc (m : Nat) : Nat := m % 2 + (m / 2 % 2 + (m / 4 % 2 + (m / 8 % 2 + (m / 16 % 2 + (m / 32 % 2 + (m / 64 % 2 + (m / 128 % 2 + m / 256 % 2)))))))
def bcE (x : Int32) : Int32 :=
  let x1 := x - ((x.toUInt32 >>> ((nI 1).toUInt32 &&& Int32.toUInt32 31)).toInt32 &&& nI 1431655765)
  let x2 := (x1 &&& nI 858993459) + ((x1.toUInt32 >>> ((nI 2).toUInt32 &&& Int32.toUInt32 31)).toInt32 &&& nI 858993459)
  let x3 := (x2 + (x2.toUInt32 >>> ((nI 4).toUInt32 &&& Int32.toUInt32 31)).toInt32) &&& nI 252645135
  let x4 := x3 + (x3.toUInt32 >>> ((nI 8).toUInt32 &&& Int32.toUInt32 31)).toInt32
  let x5 := x4 + (x4.toUInt32 >>> ((nI 16).toUInt32 &&& Int32.toUInt32 31)).toInt32
  x5 &&& nI 63
theorem bcE_eq : ∀ m, m < 512 → bcE (nI m) = nI (bitc m) := by decide +kernel
theorem hb_shr : ∀ m, m < 512 → ∀ h, h < 9 → (nI m >>> (nI h &&& 31)) &&& nI 1 = nI (m / 2 ^ h % 2) := by decide +kernel
theorem hb_or : ∀ m, m < 512 → ∀ h, h < 9 → m / 2 ^ h % 2 ≠ 1 → nI m ||| (nI 1 <<< (nI h &&& 31)) = nI (m + 2 ^ h) := by decide +kernel
theorem hb_add : ∀ m, m < 512 → ∀ h, h < 9 → m / 2 ^ h % 2 ≠ 1 → m + 2 ^ h < 512 ∧ bitc (m + 2 ^ h) = bitc m + 1 ∧ (m + 2 ^ h) / 2 ^ h % 2 = 1 := by decide +kernel
theorem all3 {f : Nat → Nat → Nat → Bool} (h0 : ((List.range 512).all fun m => (List.range 9).all fun h => (List.range 9).all fun k => f m h k) = true) {m h k : Nat} (hm : m < 512) (hh : h < 9) (hk : k < 9) : f m h k = true := by
  have h1 := List.all_eq_true.mp h0 m (List.mem_range.mpr hm)
  have h2 := List.all_eq_true.mp h1 _ (List.mem_range.mpr hh)
  exact List.all_eq_true.mp h2 _ (List.mem_range.mpr hk)
theorem hb_add2 : ∀ m, m < 512 → ∀ h, h < 9 → ∀ k, k < 9 → m / 2 ^ h % 2 ≠ 1 → k ≠ h → (m + 2 ^ h) / 2 ^ k % 2 = m / 2 ^ k % 2 := by
  intro m hm h hh k hk h1 h2
  have := all3 (f := fun m h k => decide (m / 2 ^ h % 2 = 1) || decide (k = h) || decide ((m + 2 ^ h) / 2 ^ k % 2 = m / 2 ^ k % 2)) (by decide +kernel) hm hh hk
  simp only [Bool.or_eq_true, decide_eq_true_eq] at this
  rcases this with (q | q) | q
  · exact absurd q h1
  · exact absurd q h2
  · exact q
theorem hb_two : ∀ m, m < 512 → 1 < bitc m → ∃ h, h < 9 ∧ ∃ k, k < 9 ∧ h ≠ k ∧ m / 2 ^ h % 2 = 1 ∧ m / 2 ^ k % 2 = 1 := by decide +kernel
theorem hb_one : ∀ m, m < 512 → ∀ h, h < 9 → ∀ k, k < 9 → ¬ 1 < bitc m → m / 2 ^ h % 2 = 1 → m / 2 ^ k % 2 = 1 → h = k := by
  intro m hm h hh k hk h1 h2 h3
  have := all3 (f := fun m h k => decide (1 < bitc m) || !decide (m / 2 ^ h % 2 = 1) || !decide (m / 2 ^ k % 2 = 1) || decide (h = k)) (by decide +kernel) hm hh hk
  simp only [Bool.or_eq_true, decide_eq_true_eq, Bool.not_eq_true', decide_eq_false_iff_not] at this
  rcases this with ((q | q) | q) | q
  · exact absurd q h1
  · exact absurd h2 q
  · exact absurd h3 q
  · exact q
theorem hb_ne : ∀ m, m < 512 → m ≠ 0 → ∃ h, h < 9 ∧ m / 2 ^ h % 2 = 1 := by decide +kernel
theorem hb_0 : ∀ h, ¬ hasB 0 h := by intro h; unfold hasB; rw [Nat.zero_div]; decide
theorem hb_lt {m h : Nat} (hm : m < 512) (hb : hasB m h) : h < 9 := by
  apply Nat.lt_of_not_le
  intro q
  unfold hasB at hb
  have h1 : 2 ^ 9 ≤ 2 ^ h := Nat.pow_le_pow_right (by decide) q
  rw [Nat.div_eq_of_lt (by omega)] at hb
  omega
def sumN (f : Nat → Nat) : Nat → Nat
  | 0 => 0
  | n + 1 => sumN f n + f n
theorem sumN_le {f : Nat → Nat} {c : Nat} : ∀ {n : Nat}, (∀ i, i < n → f i ≤ c) → sumN f n ≤ n * c
  | 0, _ => Nat.zero_le _
  | n + 1, h => by
    have h1 := sumN_le (n := n) (fun i hi => h i (by omega))
    have h2 := h n (Nat.lt_succ_self n)
    show sumN f n + f n ≤ (n + 1) * c
    rw [Nat.add_mul, Nat.one_mul]
    omega
theorem sumN_congr {f g : Nat → Nat} : ∀ {n : Nat}, (∀ i, i < n → f i = g i) → sumN f n = sumN g n
  | 0, _ => rfl
  | n + 1, h => by
    show sumN f n + f n = sumN g n + g n
    rw [sumN_congr (n := n) (fun i hi => h i (by omega)), h n (Nat.lt_succ_self n)]
theorem sumN_upd {f : Nat → Nat} {k v : Nat} : ∀ {n : Nat}, k < n → sumN (va_up f k v) n + f k = sumN f n + v
  | 0, h => absurd h (Nat.not_lt_zero k)
  | n + 1, h => by
    show sumN (va_up f k v) n + va_up f k v n + f k = sumN f n + f n + v
    by_cases e : n = k
    · subst e
      have h1 : sumN (va_up f n v) n = sumN f n := sumN_congr (fun i hi => by show (if i = n then v else f i) = f i; rw [if_neg (by omega)])
      have h2 : va_up f n v n = v := by show (if n = n then v else f n) = v; rw [if_pos rfl]
      omega
    · have h1 := sumN_upd (f := f) (k := k) (v := v) (n := n) (by omega)
      have h2 : va_up f k v n = f n := by show (if n = k then v else f n) = f n; rw [if_neg e]
      omega
theorem bitc_le (m : Nat) : bitc m ≤ 9 := by unfold bitc; omega
def cntB (hm : Nat → Nat) : Nat := sumN (fun i => bitc (hm i)) 64
theorem cntB_le (hm : Nat → Nat) : cntB hm ≤ 576 := sumN_le (c := 9) (n := 64) (fun i _ => bitc_le (hm i))
theorem cntB_add {hm : Nat → Nat} {i h : Nat} (hi : i < 64) (hh : h < 9) (hm5 : hm i < 512) (hn : ¬ hasB (hm i) h) : cntB (va_up hm i (hm i + 2 ^ h)) = cntB hm + 1 := by
  unfold cntB
  have h1 : (fun j => bitc (va_up hm i (hm i + 2 ^ h) j)) = va_up (fun j => bitc (hm j)) i (bitc (hm i + 2 ^ h)) := by
    funext j
    show bitc (if j = i then hm i + 2 ^ h else hm j) = if j = i then bitc (hm i + 2 ^ h) else bitc (hm j)
    split <;> rfl
  rw [h1]
  have h2 := sumN_upd (f := fun j => bitc (hm j)) (k := i) (v := bitc (hm i + 2 ^ h)) hi
  have h3 := (hb_add (hm i) hm5 h hh hn).2.1
  have h4 : (fun j => bitc (hm j)) i = bitc (hm i) := rfl
  omega
theorem cntB_lt {hm : Nat → Nat} {i h : Nat} (hi : i < 64) (hh : h < 9) (hm5 : hm i < 512) (hn : ¬ hasB (hm i) h) : cntB hm < 576 := by
  have h1 := cntB_add hi hh hm5 hn
  have h2 := cntB_le (va_up hm i (hm i + 2 ^ h))
  omega
/-- what the walk of the checker keeps -/
def QS (kd : Nat) (op nn : Nat → Int32) (len : Nat) (hm rr : Nat → Nat) (rc : Nat) : Prop :=
  (∀ j, j < rc → rr j < 576 ∧ hasB (hm (rr j / 9)) (rr j % 9) ∧ Rch kd op nn len (rr j / 9) (rr j % 9)) ∧ (∀ i h, i < 64 → hasB (hm i) h → ∃ j, j < rc ∧ rr j = i * 9 + h) ∧ rc = cntB hm ∧ ∀ i, hm i < 512
def QE (hm rr : Nat → Nat) (rc : Nat) (hm2 rr2 : Nat → Nat) (rc2 : Nat) : Prop := rc ≤ rc2 ∧ (∀ j, j < rc → rr2 j = rr j) ∧ ∀ i h, hasB (hm i) h → hasB (hm2 i) h
theorem QE.rf {hm rr : Nat → Nat} {rc : Nat} : QE hm rr rc hm rr rc := ⟨Nat.le_refl _, fun _ _ => rfl, fun _ _ h => h⟩
theorem QE.trans {hm rr hm2 rr2 hm3 rr3 : Nat → Nat} {rc rc2 rc3 : Nat} (a : QE hm rr rc hm2 rr2 rc2) (b : QE hm2 rr2 rc2 hm3 rr3 rc3) : QE hm rr rc hm3 rr3 rc3 :=
  ⟨Nat.le_trans a.1 b.1, fun j hj => (b.2.1 j (Nat.lt_of_lt_of_le hj a.1)).trans (a.2.1 j hj), fun i h q => b.2.2 i h (a.2.2 i h q)⟩
theorem QS.add {kd : Nat} {op nn : Nat → Int32} {len : Nat} {hm rr : Nat → Nat} {rc i h : Nat} (hQ : QS kd op nn len hm rr rc) (hi : i < 64) (hh : h < 9) (hn : ¬ hasB (hm i) h) (hR : Rch kd op nn len i h) :
    QS kd op nn len (va_up hm i (hm i + 2 ^ h)) (va_up rr rc (i * 9 + h)) (rc + 1) ∧ QE hm rr rc (va_up hm i (hm i + 2 ^ h)) (va_up rr rc (i * 9 + h)) (rc + 1) ∧ hasB (va_up hm i (hm i + 2 ^ h) i) h := by
  obtain ⟨q1, q2, q3, q4⟩ := hQ
  have hA := hb_add (hm i) (q4 i) h hh hn
  have hat : va_up hm i (hm i + 2 ^ h) i = hm i + 2 ^ h := by show (if i = i then _ else _) = _; rw [if_pos rfl]
  have hne : ∀ x, x ≠ i → va_up hm i (hm i + 2 ^ h) x = hm x := fun x e => by show (if x = i then _ else _) = _; rw [if_neg e]
  have hk : ∀ x k, hasB (hm x) k → hasB (va_up hm i (hm i + 2 ^ h) x) k := fun x k q => by
    by_cases e : x = i
    · subst e
      rw [hat]
      have hk9 := hb_lt (q4 x) q
      by_cases e2 : k = h
      · subst e2; exact absurd q hn
      · unfold hasB; rw [hb_add2 (hm x) (q4 x) h hh k hk9 hn e2]; exact q
    · rw [hne x e]; exact q
  have hrc : va_up rr rc (i * 9 + h) rc = i * 9 + h := by show (if rc = rc then _ else _) = _; rw [if_pos rfl]
  have hrr : ∀ j, j < rc → va_up rr rc (i * 9 + h) j = rr j := fun j hj => by show (if j = rc then _ else _) = _; rw [if_neg (by omega)]
  have hd : (i * 9 + h) / 9 = i ∧ (i * 9 + h) % 9 = h := by omega
  have hat2 : hasB (va_up hm i (hm i + 2 ^ h) i) h := by rw [hat]; exact hA.2.2
  refine ⟨⟨fun j hj => ?_, fun x k hx q => ?_, ?_, fun x => ?_⟩, ⟨Nat.le_succ _, hrr, hk⟩, hat2⟩
  · by_cases e : j = rc
    · subst e
      rw [hrc, hd.1, hd.2]
      exact ⟨by omega, hat2, hR⟩
    · rw [hrr j (by omega)]
      obtain ⟨a, b, c⟩ := q1 j (by omega)
      exact ⟨a, hk _ _ b, c⟩
  · by_cases e : x = i ∧ k = h
    · obtain ⟨rfl, rfl⟩ := e
      exact ⟨rc, Nat.lt_succ_self rc, hrc⟩
    · have hold : hasB (hm x) k := by
        by_cases ex : x = i
        · subst ex
          rw [hat] at q
          have hk9 := hb_lt hA.1 q
          unfold hasB at q ⊢
          rw [hb_add2 (hm x) (q4 x) h hh k hk9 hn (fun z => e ⟨rfl, z⟩)] at q
          exact q
        · rw [hne x ex] at q; exact q
      obtain ⟨j, hj, hjr⟩ := q2 x k hx hold
      exact ⟨j, by omega, by rw [hrr j hj]; exact hjr⟩
  · rw [cntB_add hi hh (q4 i) hn, q3]
  · by_cases e : x = i
    · subst e; rw [hat]; exact hA.1
    · rw [hne x e]; exact q4 x
/-- ops as they stand -/
def pC (kd : Nat) (nn : Nat → Int32) (len i o : Nat) : Prop :=
  (o = 16 → kd = 0) ∧ (o = 18 → kd = 3) ∧ (o = 1 → ∃ j, j < nArg kd ∧ nn i = nI j) ∧ (o = 2 ∨ o = 3 → ∃ j, j < 4 ∧ nn i = nI j) ∧ (o = 14 ∨ o = 15 → ∃ j, j < len ∧ nn i = nI j)
theorem pOK_uniq {kd : Nat} {op nn : Nat → Int32} {len i o o2 : Nat} (ho : o ≤ 18) (hop : op i = nI o) (h : pOK kd op nn len i o2) : o2 = o := by
  have h1 := h.2.1
  rw [hop] at h1
  exact ((nI_eq (by omega) (by have := h.1; omega)).mp h1).symm
theorem mis_t {kd : Nat} {op nn : Nat → Int32} {len i o : Nat} (ho : o ≤ 18) (hop : op i = nI o) (h : ¬ pC kd nn len i o) : nI 1 = zb (¬ ∃ o, pOK kd op nn len i o) :=
  zb_tN (fun ⟨o2, h2⟩ => by
    have e := pOK_uniq ho hop h2
    subst e
    exact h h2.2.2)
theorem mis_f {kd : Nat} {op nn : Nat → Int32} {len i o : Nat} (ho : o ≤ 18) (hop : op i = nI o) (h : pC kd nn len i o) : nI 0 = zb (¬ ∃ o, pOK kd op nn len i o) :=
  zb_fN (fun q => q ⟨o, ho, hop, h⟩)
theorem nI_ltx {x : Int32} {M : Nat} (hM : M < 2147483648) (h : ¬ x < 0) (h2 : x < nI M) : ∃ j, j < M ∧ x = nI j := by
  obtain ⟨j, hj, rfl⟩ := nI_of h
  exact ⟨j, (nI_ltI (by omega) (by omega)).mp h2, rfl⟩
theorem zNeed_eq {o : Nat} (h : o ≤ 18) : zNeed o = nI (nNeed o) := by
  rcases le18 h with rfl | rfl | rfl | rfl | rfl | rfl | rfl | rfl | rfl | rfl | rfl | rfl | rfl | rfl | rfl | rfl | rfl | rfl | rfl <;> rfl
theorem gD_le {o : Nat} (h : o ≤ 18) : gD o ≤ nNeed o ∧ gU o ≤ 1 ∧ nNeed o ≤ 2 ∧ (o = 17 → gD o = 0) := by
  rcases le18 h with rfl | rfl | rfl | rfl | rfl | rfl | rfl | rfl | rfl | rfl | rfl | rfl | rfl | rfl | rfl | rfl | rfl | rfl | rfl <;> decide
theorem grow_eq {o h : Nat} (ho : o ≤ 18) (hh : gD o ≤ h) : nI h + zGrow o = nI (h + gU o - gD o) := by
  have h1 : ∀ d : Nat, d ≤ h → nI h + -(nI d) = nI (h - d) := fun d hd => by
    rw [← Int32.sub_eq_add_neg, pk_sub hd]
  rcases le18 ho with rfl | rfl | rfl | rfl | rfl | rfl | rfl | rfl | rfl | rfl | rfl | rfl | rfl | rfl | rfl | rfl | rfl | rfl | rfl
  · rw [show zGrow 0 = nI 1 by decide]; exact nI_add h 1
  · rw [show zGrow 1 = nI 1 by decide]; exact nI_add h 1
  · rw [show zGrow 2 = nI 1 by decide]; exact nI_add h 1
  · rw [show zGrow 3 = -(nI 1) by decide]; exact h1 1 hh
  · rw [show zGrow 4 = nI 1 by decide]; exact nI_add h 1
  · rw [show zGrow 5 = nI 0 by decide]; exact nI_add h 0
  · rw [show zGrow 6 = -(nI 1) by decide]; exact h1 1 hh
  · rw [show zGrow 7 = -(nI 1) by decide]; exact h1 1 hh
  · rw [show zGrow 8 = -(nI 1) by decide]; exact h1 1 hh
  · rw [show zGrow 9 = -(nI 1) by decide]; exact h1 1 hh
  · rw [show zGrow 10 = -(nI 1) by decide]; exact h1 1 hh
  · rw [show zGrow 11 = -(nI 1) by decide]; exact h1 1 hh
  · rw [show zGrow 12 = -(nI 1) by decide]; exact h1 1 hh
  · rw [show zGrow 13 = -(nI 1) by decide]; exact h1 1 hh
  · rw [show zGrow 14 = nI 0 by decide]; exact nI_add h 0
  · rw [show zGrow 15 = -(nI 1) by decide]; exact h1 1 hh
  · rw [show zGrow 16 = -(nI 2) by decide]; exact h1 2 hh
  · rw [show zGrow 17 = nI 0 by decide]; exact nI_add h 0
  · rw [show zGrow 18 = nI 0 by decide]; exact nI_add h 0
/-- the class's row of what is wrong, out of what is reached -/
theorem wr_mis {kd : Nat} {op nn : Nat → Int32} {len i : Nat} (h : ¬ ∃ o, pOK kd op nn len i o) : Wr kd op nn len i := Or.inl h
theorem wr_0 {kd : Nat} {op nn : Nat → Int32} {len i : Nat} (h : ∃ o, pOK kd op nn len i o) (hr : ∀ x, ¬ Rch kd op nn len i x) : ¬ Wr kd op nn len i := by
  rintro (q | ⟨x, o, q, -⟩ | ⟨x, y, -, q, -⟩)
  · exact q h
  · exact hr x q
  · exact hr x q
theorem wr_iff {kd : Nat} {op nn : Nat → Int32} {len i o : Nat} (ho : pOK kd op nn len i o) : Wr kd op nn len i ↔ (∃ h, Rch kd op nn len i h ∧ ¬ okS kd op nn len i h o) ∨ (∃ h h2, h ≠ h2 ∧ Rch kd op nn len i h ∧ Rch kd op nn len i h2) := by
  constructor
  · rintro (q | ⟨h, o2, h1, h2, h3⟩ | q)
    · exact absurd ⟨o, ho⟩ q
    · have e := pOK_uniq ho.1 ho.2.1 h2
      subst e
      exact Or.inl ⟨h, h1, h3⟩
    · exact Or.inr q
  · rintro (⟨h, h1, h2⟩ | q)
    · exact Or.inr (Or.inl ⟨h, o, h1, ho, h2⟩)
    · exact Or.inr (Or.inr q)
/-- the first wrong one -/
def fwR (kd : Nat) (op nn : Nat → Int32) (len : Nat) (r : Int32) : Prop :=
  (∃ i, i < len ∧ Wr kd op nn len i ∧ (∀ x, x < i → ¬ Wr kd op nn len x) ∧ r = nI i) ∨ ((∀ x, x < len → ¬ Wr kd op nn len x) ∧ r = -2)
end
section
theorem isW_f {kd : Nat} {op nn : Nat → Int32} {len i o m : Nat} (ho : pOK kd op nn len i o) (hm5 : m < 512) (hS : ∀ h, hasB m h ↔ Rch kd op nn len i h) (h1 : bitc m ≤ 1) (h2 : ¬ (hasNx o ∧ ¬ i + 1 < len)) (h3 : ∀ h, h < 9 → hasB m h → pNeed kd o ≤ h ∧ h + gU o - gD o ≤ 8) (hw : Wr kd op nn len i) : False := by
  rcases (wr_iff ho).mp hw with ⟨h, hR, hn⟩ | ⟨h, k, hne, hR, hK⟩
  · have hb := (hS h).mpr hR
    have h9 := hb_lt hm5 hb
    exact hn ⟨ho, fun q => Classical.byContradiction fun z => h2 ⟨q, z⟩, h3 h h9 hb⟩
  · have hb := (hS h).mpr hR
    have kb := (hS k).mpr hK
    exact hne (hb_one m hm5 h (hb_lt hm5 hb) k (hb_lt hm5 kb) (by omega) hb kb)
theorem isW_two {kd : Nat} {op nn : Nat → Int32} {len i m : Nat} (hm5 : m < 512) (hS : ∀ h, hasB m h ↔ Rch kd op nn len i h) (h1 : 1 < bitc m) : Wr kd op nn len i := by
  obtain ⟨h, _, k, _, hne, a, b⟩ := hb_two m hm5 h1
  exact Or.inr (Or.inr ⟨h, k, hne, (hS h).mp a, (hS k).mp b⟩)
theorem isW_nx {kd : Nat} {op nn : Nat → Int32} {len i o m : Nat} (ho : pOK kd op nn len i o) (hm5 : m < 512) (hS : ∀ h, hasB m h ↔ Rch kd op nn len i h) (h0 : m ≠ 0) (h2 : hasNx o ∧ ¬ i + 1 < len) : Wr kd op nn len i := by
  obtain ⟨h, _, a⟩ := hb_ne m hm5 h0
  exact Or.inr (Or.inl ⟨h, o, (hS h).mp a, ho, fun q => h2.2 (q.2.1 h2.1)⟩)
theorem isW_fit {kd : Nat} {op nn : Nat → Int32} {len i o m : Nat} (ho : pOK kd op nn len i o) (hS : ∀ h, hasB m h ↔ Rch kd op nn len i h) (h3 : ¬ ∀ h, h < 9 → hasB m h → pNeed kd o ≤ h ∧ h + gU o - gD o ≤ 8) : Wr kd op nn len i := by
  apply Classical.byContradiction
  intro hw
  refine h3 (fun h h9 hb => ?_)
  have hok : okS kd op nn len i h o := Classical.byContradiction fun q => hw (Or.inr (Or.inl ⟨h, o, (hS h).mp hb, ho, q⟩))
  exact hok.2.2
theorem QS_0 {kd : Nat} {op nn : Nat → Int32} {len : Nat} {rr : Nat → Nat} : QS kd op nn len (fun _ => 0) rr 0 :=
  ⟨fun j hj => absurd hj (Nat.not_lt_zero j), fun i h _ q => absurd q (hb_0 h), rfl, fun _ => (by decide : 0 < 512)⟩
theorem walk_all {kd : Nat} {op nn : Nat → Int32} {len : Nat} {hx rx : Nat → Nat} {cx : Nat} (h0 : 0 < len) (hlen : len ≤ 64) (hQ : QS kd op nn len hx rx cx) (hB : hasB (hx 0) 0)
    (hP : ∀ j, j < cx → ∀ i2 h2, Suc kd op nn len (rx j / 9) (rx j % 9) i2 h2 → hasB (hx i2) h2) {i h : Nat} (hR : Rch kd op nn len i h) : hasB (hx i) h := by
  have key : hasB (hx i) h ∧ i < len := by
    refine hR (fun i h => hasB (hx i) h ∧ i < len) ⟨hB, h0⟩ ?_
    rintro i h i2 h2 ⟨hb, hi⟩ hs
    obtain ⟨j, hj, e⟩ := hQ.2.1 i h (by omega) hb
    have h9 := hb_lt (hQ.2.2.2 i) hb
    have e1 : rx j / 9 = i := by omega
    have e2 : rx j % 9 = h := by omega
    refine ⟨hP j hj i2 h2 (by rw [e1, e2]; exact hs), ?_⟩
    obtain ⟨o, ho, -, hx | hx⟩ := hs
    · rw [hx.2]; exact ho.2.1 hx.1
    · exact hx.2.1
  exact key.1
set_option maxHeartbeats 4000000 in
set_option maxRecDepth 100000 in
theorem hasNext (l_ : Launch) (E : zE) (o : Nat) (ho : o ≤ 18) : zMi l_ E yX0_hasNext (zTs yX0_hasNext cX0_hasNext 1 (some .boolean)) ({ frames := 0, cells := 0, slots := 0, locals := 0 } : Room) [.int (nI o)] [] (fun r_ w_ => (r_ = (zb (hasNx o)) ∧ w_ = [])) 0 0 := by
  refine zMi.of (cc := cX0_hasNext) (nL := 1) (ret := (some .boolean)) (by decide) rfl (Nat.le_of_ble_eq_true rfl) ?_
  intro p_ e_ s_ m_ args_ below_ meth_ c_ A_ C0 hin0
  have C0 : zC E p_ s_ m_ args_ meth_ c_ cX0_hasNext 1 (some .boolean) RX0 (zTs yX0_hasNext cX0_hasNext 1 (some .boolean)) A_ := C0
  refine z_eqL (L1 := [(0, .int (nI o))]) rfl ?_
  refine z_iload_n 1 C0 0 dX0_hasNext_0 rfl rfl rfl ?_
  refine z_bipush 3 C0 (v := (nI 14)) dX0_hasNext_1 rfl rfl ?_
  refine z_icmp_eqN 6 22 C0 (by omega) (by decide) dX0_hasNext_3 rfl (by decide) (fun k3 => ?_) (fun k3 => ?_)
  · skip
    refine z_iconst 23 C0 (v := (nI 0)) dX0_hasNext_22 rfl rfl ?_
    exact z_zret C0 rfl rfl dX0_hasNext_23 ⟨(zb_fN (fun q => by have h1 := q.1; have h2 := q.2.1; have h3 := q.2.2; omega)), rfl⟩ (by decide) (by decide)
  · skip
    refine z_iload_n 7 C0 0 dX0_hasNext_6 rfl rfl rfl ?_
    refine z_bipush 9 C0 (v := (nI 17)) dX0_hasNext_7 rfl rfl ?_
    refine z_icmp_eqN 12 22 C0 (by omega) (by decide) dX0_hasNext_9 rfl (by decide) (fun k9 => ?_) (fun k9 => ?_)
    · skip
      refine z_iconst 23 C0 (v := (nI 0)) dX0_hasNext_22 rfl rfl ?_
      exact z_zret C0 rfl rfl dX0_hasNext_23 ⟨(zb_fN (fun q => by have h1 := q.1; have h2 := q.2.1; have h3 := q.2.2; omega)), rfl⟩ (by decide) (by decide)
    · skip
      refine z_iload_n 13 C0 0 dX0_hasNext_12 rfl rfl rfl ?_
      refine z_bipush 15 C0 (v := (nI 18)) dX0_hasNext_13 rfl rfl ?_
      refine z_icmp_eqN 18 22 C0 (by omega) (by decide) dX0_hasNext_15 rfl (by decide) (fun k15 => ?_) (fun k15 => ?_)
      · skip
        refine z_iconst 23 C0 (v := (nI 0)) dX0_hasNext_22 rfl rfl ?_
        exact z_zret C0 rfl rfl dX0_hasNext_23 ⟨(zb_fN (fun q => by have h1 := q.1; have h2 := q.2.1; have h3 := q.2.2; omega)), rfl⟩ (by decide) (by decide)
      · skip
        refine z_iconst 19 C0 (v := (nI 1)) dX0_hasNext_18 rfl rfl ?_
        refine z_goto 23 C0 dX0_hasNext_19 (by decide) ?_
        exact z_zret C0 rfl rfl dX0_hasNext_23 ⟨(zb_tN ⟨by omega, by omega, by omega⟩), rfl⟩ (by decide) (by decide)

set_option maxHeartbeats 4000000 in
set_option maxRecDepth 100000 in
theorem bitCount (l_ : Launch) (E : zE) (x : Int32)  : zMi l_ E yJ6_bitCount_0f7a4 (zTs yJ6_bitCount_0f7a4 cJ6_bitCount_0f7a4 1 (some .int)) ({ frames := 0, cells := 0, slots := 0, locals := 0 } : Room) [.int x] [] (fun r_ w_ => (r_ = (bcE x) ∧ w_ = [])) 0 0 := by
  refine zMi.of (cc := cJ6_bitCount_0f7a4) (nL := 1) (ret := (some .int)) (by decide) rfl (Nat.le_of_ble_eq_true rfl) ?_
  intro p_ e_ s_ m_ args_ below_ meth_ c_ A_ C0 hin0
  have C0 : zC E p_ s_ m_ args_ meth_ c_ cJ6_bitCount_0f7a4 1 (some .int) RJ6 (zTs yJ6_bitCount_0f7a4 cJ6_bitCount_0f7a4 1 (some .int)) A_ := C0
  refine z_eqL (L1 := [(0, .int x)]) rfl ?_
  refine z_iload_n 1 C0 0 dJ6_bitCount_0f7a4_0 rfl rfl rfl ?_
  refine z_iload_n 2 C0 0 dJ6_bitCount_0f7a4_1 rfl rfl rfl ?_
  refine z_iconst 3 C0 (v := (nI 1)) dJ6_bitCount_0f7a4_2 rfl rfl ?_
  refine z_iushr 4 C0 (v := ((x.toUInt32 >>> ((nI 1).toUInt32 &&& Int32.toUInt32 31)).toInt32)) dJ6_bitCount_0f7a4_3 rfl rfl ?_
  refine z_ldcw 7 C0 (v := 1431655765) (zTs_in wk_303) dJ6_bitCount_0f7a4_4 rfl ?_
  refine z_iand 8 C0 (v := (((x.toUInt32 >>> ((nI 1).toUInt32 &&& Int32.toUInt32 31)).toInt32) &&& (nI 1431655765))) dJ6_bitCount_0f7a4_7 rfl rfl ?_
  refine z_isub 9 C0 (v := (x - (((x.toUInt32 >>> ((nI 1).toUInt32 &&& Int32.toUInt32 31)).toInt32) &&& (nI 1431655765)))) dJ6_bitCount_0f7a4_8 rfl rfl ?_
  refine z_istore_n 10 C0 [0] [(0, .int (x - (((x.toUInt32 >>> ((nI 1).toUInt32 &&& Int32.toUInt32 31)).toInt32) &&& (nI 1431655765))))] dJ6_bitCount_0f7a4_9 rfl rfl (by decide) rfl ?_
  refine z_iload_n 11 C0 0 dJ6_bitCount_0f7a4_10 rfl rfl rfl ?_
  refine z_ldcw 14 C0 (v := 858993459) (zTs_in wk_304) dJ6_bitCount_0f7a4_11 rfl ?_
  refine z_iand 15 C0 (v := ((x - (((x.toUInt32 >>> ((nI 1).toUInt32 &&& Int32.toUInt32 31)).toInt32) &&& (nI 1431655765))) &&& (nI 858993459))) dJ6_bitCount_0f7a4_14 rfl rfl ?_
  refine z_iload_n 16 C0 0 dJ6_bitCount_0f7a4_15 rfl rfl rfl ?_
  refine z_iconst 17 C0 (v := (nI 2)) dJ6_bitCount_0f7a4_16 rfl rfl ?_
  refine z_iushr 18 C0 (v := (((x - (((x.toUInt32 >>> ((nI 1).toUInt32 &&& Int32.toUInt32 31)).toInt32) &&& (nI 1431655765))).toUInt32 >>> ((nI 2).toUInt32 &&& Int32.toUInt32 31)).toInt32)) dJ6_bitCount_0f7a4_17 rfl rfl ?_
  refine z_ldcw 21 C0 (v := 858993459) (zTs_in wk_304) dJ6_bitCount_0f7a4_18 rfl ?_
  refine z_iand 22 C0 (v := ((((x - (((x.toUInt32 >>> ((nI 1).toUInt32 &&& Int32.toUInt32 31)).toInt32) &&& (nI 1431655765))).toUInt32 >>> ((nI 2).toUInt32 &&& Int32.toUInt32 31)).toInt32) &&& (nI 858993459))) dJ6_bitCount_0f7a4_21 rfl rfl ?_
  refine z_iadd 23 C0 (v := (((x - (((x.toUInt32 >>> ((nI 1).toUInt32 &&& Int32.toUInt32 31)).toInt32) &&& (nI 1431655765))) &&& (nI 858993459)) + ((((x - (((x.toUInt32 >>> ((nI 1).toUInt32 &&& Int32.toUInt32 31)).toInt32) &&& (nI 1431655765))).toUInt32 >>> ((nI 2).toUInt32 &&& Int32.toUInt32 31)).toInt32) &&& (nI 858993459)))) dJ6_bitCount_0f7a4_22 rfl rfl ?_
  refine z_istore_n 24 C0 [0] [(0, .int (((x - (((x.toUInt32 >>> ((nI 1).toUInt32 &&& Int32.toUInt32 31)).toInt32) &&& (nI 1431655765))) &&& (nI 858993459)) + ((((x - (((x.toUInt32 >>> ((nI 1).toUInt32 &&& Int32.toUInt32 31)).toInt32) &&& (nI 1431655765))).toUInt32 >>> ((nI 2).toUInt32 &&& Int32.toUInt32 31)).toInt32) &&& (nI 858993459))))] dJ6_bitCount_0f7a4_23 rfl rfl (by decide) rfl ?_
  refine z_iload_n 25 C0 0 dJ6_bitCount_0f7a4_24 rfl rfl rfl ?_
  refine z_iload_n 26 C0 0 dJ6_bitCount_0f7a4_25 rfl rfl rfl ?_
  refine z_iconst 27 C0 (v := (nI 4)) dJ6_bitCount_0f7a4_26 rfl rfl ?_
  refine z_iushr 28 C0 (v := (((((x - (((x.toUInt32 >>> ((nI 1).toUInt32 &&& Int32.toUInt32 31)).toInt32) &&& (nI 1431655765))) &&& (nI 858993459)) + ((((x - (((x.toUInt32 >>> ((nI 1).toUInt32 &&& Int32.toUInt32 31)).toInt32) &&& (nI 1431655765))).toUInt32 >>> ((nI 2).toUInt32 &&& Int32.toUInt32 31)).toInt32) &&& (nI 858993459))).toUInt32 >>> ((nI 4).toUInt32 &&& Int32.toUInt32 31)).toInt32)) dJ6_bitCount_0f7a4_27 rfl rfl ?_
  refine z_iadd 29 C0 (v := ((((x - (((x.toUInt32 >>> ((nI 1).toUInt32 &&& Int32.toUInt32 31)).toInt32) &&& (nI 1431655765))) &&& (nI 858993459)) + ((((x - (((x.toUInt32 >>> ((nI 1).toUInt32 &&& Int32.toUInt32 31)).toInt32) &&& (nI 1431655765))).toUInt32 >>> ((nI 2).toUInt32 &&& Int32.toUInt32 31)).toInt32) &&& (nI 858993459))) + (((((x - (((x.toUInt32 >>> ((nI 1).toUInt32 &&& Int32.toUInt32 31)).toInt32) &&& (nI 1431655765))) &&& (nI 858993459)) + ((((x - (((x.toUInt32 >>> ((nI 1).toUInt32 &&& Int32.toUInt32 31)).toInt32) &&& (nI 1431655765))).toUInt32 >>> ((nI 2).toUInt32 &&& Int32.toUInt32 31)).toInt32) &&& (nI 858993459))).toUInt32 >>> ((nI 4).toUInt32 &&& Int32.toUInt32 31)).toInt32))) dJ6_bitCount_0f7a4_28 rfl rfl ?_
  refine z_ldcw 32 C0 (v := 252645135) (zTs_in wk_305) dJ6_bitCount_0f7a4_29 rfl ?_
  refine z_iand 33 C0 (v := (((((x - (((x.toUInt32 >>> ((nI 1).toUInt32 &&& Int32.toUInt32 31)).toInt32) &&& (nI 1431655765))) &&& (nI 858993459)) + ((((x - (((x.toUInt32 >>> ((nI 1).toUInt32 &&& Int32.toUInt32 31)).toInt32) &&& (nI 1431655765))).toUInt32 >>> ((nI 2).toUInt32 &&& Int32.toUInt32 31)).toInt32) &&& (nI 858993459))) + (((((x - (((x.toUInt32 >>> ((nI 1).toUInt32 &&& Int32.toUInt32 31)).toInt32) &&& (nI 1431655765))) &&& (nI 858993459)) + ((((x - (((x.toUInt32 >>> ((nI 1).toUInt32 &&& Int32.toUInt32 31)).toInt32) &&& (nI 1431655765))).toUInt32 >>> ((nI 2).toUInt32 &&& Int32.toUInt32 31)).toInt32) &&& (nI 858993459))).toUInt32 >>> ((nI 4).toUInt32 &&& Int32.toUInt32 31)).toInt32)) &&& (nI 252645135))) dJ6_bitCount_0f7a4_32 rfl rfl ?_
  refine z_istore_n 34 C0 [0] [(0, .int (((((x - (((x.toUInt32 >>> ((nI 1).toUInt32 &&& Int32.toUInt32 31)).toInt32) &&& (nI 1431655765))) &&& (nI 858993459)) + ((((x - (((x.toUInt32 >>> ((nI 1).toUInt32 &&& Int32.toUInt32 31)).toInt32) &&& (nI 1431655765))).toUInt32 >>> ((nI 2).toUInt32 &&& Int32.toUInt32 31)).toInt32) &&& (nI 858993459))) + (((((x - (((x.toUInt32 >>> ((nI 1).toUInt32 &&& Int32.toUInt32 31)).toInt32) &&& (nI 1431655765))) &&& (nI 858993459)) + ((((x - (((x.toUInt32 >>> ((nI 1).toUInt32 &&& Int32.toUInt32 31)).toInt32) &&& (nI 1431655765))).toUInt32 >>> ((nI 2).toUInt32 &&& Int32.toUInt32 31)).toInt32) &&& (nI 858993459))).toUInt32 >>> ((nI 4).toUInt32 &&& Int32.toUInt32 31)).toInt32)) &&& (nI 252645135)))] dJ6_bitCount_0f7a4_33 rfl rfl (by decide) rfl ?_
  refine z_iload_n 35 C0 0 dJ6_bitCount_0f7a4_34 rfl rfl rfl ?_
  refine z_iload_n 36 C0 0 dJ6_bitCount_0f7a4_35 rfl rfl rfl ?_
  refine z_bipush 38 C0 (v := (nI 8)) dJ6_bitCount_0f7a4_36 rfl rfl ?_
  refine z_iushr 39 C0 (v := (((((((x - (((x.toUInt32 >>> ((nI 1).toUInt32 &&& Int32.toUInt32 31)).toInt32) &&& (nI 1431655765))) &&& (nI 858993459)) + ((((x - (((x.toUInt32 >>> ((nI 1).toUInt32 &&& Int32.toUInt32 31)).toInt32) &&& (nI 1431655765))).toUInt32 >>> ((nI 2).toUInt32 &&& Int32.toUInt32 31)).toInt32) &&& (nI 858993459))) + (((((x - (((x.toUInt32 >>> ((nI 1).toUInt32 &&& Int32.toUInt32 31)).toInt32) &&& (nI 1431655765))) &&& (nI 858993459)) + ((((x - (((x.toUInt32 >>> ((nI 1).toUInt32 &&& Int32.toUInt32 31)).toInt32) &&& (nI 1431655765))).toUInt32 >>> ((nI 2).toUInt32 &&& Int32.toUInt32 31)).toInt32) &&& (nI 858993459))).toUInt32 >>> ((nI 4).toUInt32 &&& Int32.toUInt32 31)).toInt32)) &&& (nI 252645135)).toUInt32 >>> ((nI 8).toUInt32 &&& Int32.toUInt32 31)).toInt32)) dJ6_bitCount_0f7a4_38 rfl rfl ?_
  refine z_iadd 40 C0 (v := ((((((x - (((x.toUInt32 >>> ((nI 1).toUInt32 &&& Int32.toUInt32 31)).toInt32) &&& (nI 1431655765))) &&& (nI 858993459)) + ((((x - (((x.toUInt32 >>> ((nI 1).toUInt32 &&& Int32.toUInt32 31)).toInt32) &&& (nI 1431655765))).toUInt32 >>> ((nI 2).toUInt32 &&& Int32.toUInt32 31)).toInt32) &&& (nI 858993459))) + (((((x - (((x.toUInt32 >>> ((nI 1).toUInt32 &&& Int32.toUInt32 31)).toInt32) &&& (nI 1431655765))) &&& (nI 858993459)) + ((((x - (((x.toUInt32 >>> ((nI 1).toUInt32 &&& Int32.toUInt32 31)).toInt32) &&& (nI 1431655765))).toUInt32 >>> ((nI 2).toUInt32 &&& Int32.toUInt32 31)).toInt32) &&& (nI 858993459))).toUInt32 >>> ((nI 4).toUInt32 &&& Int32.toUInt32 31)).toInt32)) &&& (nI 252645135)) + (((((((x - (((x.toUInt32 >>> ((nI 1).toUInt32 &&& Int32.toUInt32 31)).toInt32) &&& (nI 1431655765))) &&& (nI 858993459)) + ((((x - (((x.toUInt32 >>> ((nI 1).toUInt32 &&& Int32.toUInt32 31)).toInt32) &&& (nI 1431655765))).toUInt32 >>> ((nI 2).toUInt32 &&& Int32.toUInt32 31)).toInt32) &&& (nI 858993459))) + (((((x - (((x.toUInt32 >>> ((nI 1).toUInt32 &&& Int32.toUInt32 31)).toInt32) &&& (nI 1431655765))) &&& (nI 858993459)) + ((((x - (((x.toUInt32 >>> ((nI 1).toUInt32 &&& Int32.toUInt32 31)).toInt32) &&& (nI 1431655765))).toUInt32 >>> ((nI 2).toUInt32 &&& Int32.toUInt32 31)).toInt32) &&& (nI 858993459))).toUInt32 >>> ((nI 4).toUInt32 &&& Int32.toUInt32 31)).toInt32)) &&& (nI 252645135)).toUInt32 >>> ((nI 8).toUInt32 &&& Int32.toUInt32 31)).toInt32))) dJ6_bitCount_0f7a4_39 rfl rfl ?_
  refine z_istore_n 41 C0 [0] [(0, .int ((((((x - (((x.toUInt32 >>> ((nI 1).toUInt32 &&& Int32.toUInt32 31)).toInt32) &&& (nI 1431655765))) &&& (nI 858993459)) + ((((x - (((x.toUInt32 >>> ((nI 1).toUInt32 &&& Int32.toUInt32 31)).toInt32) &&& (nI 1431655765))).toUInt32 >>> ((nI 2).toUInt32 &&& Int32.toUInt32 31)).toInt32) &&& (nI 858993459))) + (((((x - (((x.toUInt32 >>> ((nI 1).toUInt32 &&& Int32.toUInt32 31)).toInt32) &&& (nI 1431655765))) &&& (nI 858993459)) + ((((x - (((x.toUInt32 >>> ((nI 1).toUInt32 &&& Int32.toUInt32 31)).toInt32) &&& (nI 1431655765))).toUInt32 >>> ((nI 2).toUInt32 &&& Int32.toUInt32 31)).toInt32) &&& (nI 858993459))).toUInt32 >>> ((nI 4).toUInt32 &&& Int32.toUInt32 31)).toInt32)) &&& (nI 252645135)) + (((((((x - (((x.toUInt32 >>> ((nI 1).toUInt32 &&& Int32.toUInt32 31)).toInt32) &&& (nI 1431655765))) &&& (nI 858993459)) + ((((x - (((x.toUInt32 >>> ((nI 1).toUInt32 &&& Int32.toUInt32 31)).toInt32) &&& (nI 1431655765))).toUInt32 >>> ((nI 2).toUInt32 &&& Int32.toUInt32 31)).toInt32) &&& (nI 858993459))) + (((((x - (((x.toUInt32 >>> ((nI 1).toUInt32 &&& Int32.toUInt32 31)).toInt32) &&& (nI 1431655765))) &&& (nI 858993459)) + ((((x - (((x.toUInt32 >>> ((nI 1).toUInt32 &&& Int32.toUInt32 31)).toInt32) &&& (nI 1431655765))).toUInt32 >>> ((nI 2).toUInt32 &&& Int32.toUInt32 31)).toInt32) &&& (nI 858993459))).toUInt32 >>> ((nI 4).toUInt32 &&& Int32.toUInt32 31)).toInt32)) &&& (nI 252645135)).toUInt32 >>> ((nI 8).toUInt32 &&& Int32.toUInt32 31)).toInt32)))] dJ6_bitCount_0f7a4_40 rfl rfl (by decide) rfl ?_
  refine z_iload_n 42 C0 0 dJ6_bitCount_0f7a4_41 rfl rfl rfl ?_
  refine z_iload_n 43 C0 0 dJ6_bitCount_0f7a4_42 rfl rfl rfl ?_
  refine z_bipush 45 C0 (v := (nI 16)) dJ6_bitCount_0f7a4_43 rfl rfl ?_
  refine z_iushr 46 C0 (v := ((((((((x - (((x.toUInt32 >>> ((nI 1).toUInt32 &&& Int32.toUInt32 31)).toInt32) &&& (nI 1431655765))) &&& (nI 858993459)) + ((((x - (((x.toUInt32 >>> ((nI 1).toUInt32 &&& Int32.toUInt32 31)).toInt32) &&& (nI 1431655765))).toUInt32 >>> ((nI 2).toUInt32 &&& Int32.toUInt32 31)).toInt32) &&& (nI 858993459))) + (((((x - (((x.toUInt32 >>> ((nI 1).toUInt32 &&& Int32.toUInt32 31)).toInt32) &&& (nI 1431655765))) &&& (nI 858993459)) + ((((x - (((x.toUInt32 >>> ((nI 1).toUInt32 &&& Int32.toUInt32 31)).toInt32) &&& (nI 1431655765))).toUInt32 >>> ((nI 2).toUInt32 &&& Int32.toUInt32 31)).toInt32) &&& (nI 858993459))).toUInt32 >>> ((nI 4).toUInt32 &&& Int32.toUInt32 31)).toInt32)) &&& (nI 252645135)) + (((((((x - (((x.toUInt32 >>> ((nI 1).toUInt32 &&& Int32.toUInt32 31)).toInt32) &&& (nI 1431655765))) &&& (nI 858993459)) + ((((x - (((x.toUInt32 >>> ((nI 1).toUInt32 &&& Int32.toUInt32 31)).toInt32) &&& (nI 1431655765))).toUInt32 >>> ((nI 2).toUInt32 &&& Int32.toUInt32 31)).toInt32) &&& (nI 858993459))) + (((((x - (((x.toUInt32 >>> ((nI 1).toUInt32 &&& Int32.toUInt32 31)).toInt32) &&& (nI 1431655765))) &&& (nI 858993459)) + ((((x - (((x.toUInt32 >>> ((nI 1).toUInt32 &&& Int32.toUInt32 31)).toInt32) &&& (nI 1431655765))).toUInt32 >>> ((nI 2).toUInt32 &&& Int32.toUInt32 31)).toInt32) &&& (nI 858993459))).toUInt32 >>> ((nI 4).toUInt32 &&& Int32.toUInt32 31)).toInt32)) &&& (nI 252645135)).toUInt32 >>> ((nI 8).toUInt32 &&& Int32.toUInt32 31)).toInt32)).toUInt32 >>> ((nI 16).toUInt32 &&& Int32.toUInt32 31)).toInt32)) dJ6_bitCount_0f7a4_45 rfl rfl ?_
  refine z_iadd 47 C0 (v := (((((((x - (((x.toUInt32 >>> ((nI 1).toUInt32 &&& Int32.toUInt32 31)).toInt32) &&& (nI 1431655765))) &&& (nI 858993459)) + ((((x - (((x.toUInt32 >>> ((nI 1).toUInt32 &&& Int32.toUInt32 31)).toInt32) &&& (nI 1431655765))).toUInt32 >>> ((nI 2).toUInt32 &&& Int32.toUInt32 31)).toInt32) &&& (nI 858993459))) + (((((x - (((x.toUInt32 >>> ((nI 1).toUInt32 &&& Int32.toUInt32 31)).toInt32) &&& (nI 1431655765))) &&& (nI 858993459)) + ((((x - (((x.toUInt32 >>> ((nI 1).toUInt32 &&& Int32.toUInt32 31)).toInt32) &&& (nI 1431655765))).toUInt32 >>> ((nI 2).toUInt32 &&& Int32.toUInt32 31)).toInt32) &&& (nI 858993459))).toUInt32 >>> ((nI 4).toUInt32 &&& Int32.toUInt32 31)).toInt32)) &&& (nI 252645135)) + (((((((x - (((x.toUInt32 >>> ((nI 1).toUInt32 &&& Int32.toUInt32 31)).toInt32) &&& (nI 1431655765))) &&& (nI 858993459)) + ((((x - (((x.toUInt32 >>> ((nI 1).toUInt32 &&& Int32.toUInt32 31)).toInt32) &&& (nI 1431655765))).toUInt32 >>> ((nI 2).toUInt32 &&& Int32.toUInt32 31)).toInt32) &&& (nI 858993459))) + (((((x - (((x.toUInt32 >>> ((nI 1).toUInt32 &&& Int32.toUInt32 31)).toInt32) &&& (nI 1431655765))) &&& (nI 858993459)) + ((((x - (((x.toUInt32 >>> ((nI 1).toUInt32 &&& Int32.toUInt32 31)).toInt32) &&& (nI 1431655765))).toUInt32 >>> ((nI 2).toUInt32 &&& Int32.toUInt32 31)).toInt32) &&& (nI 858993459))).toUInt32 >>> ((nI 4).toUInt32 &&& Int32.toUInt32 31)).toInt32)) &&& (nI 252645135)).toUInt32 >>> ((nI 8).toUInt32 &&& Int32.toUInt32 31)).toInt32)) + ((((((((x - (((x.toUInt32 >>> ((nI 1).toUInt32 &&& Int32.toUInt32 31)).toInt32) &&& (nI 1431655765))) &&& (nI 858993459)) + ((((x - (((x.toUInt32 >>> ((nI 1).toUInt32 &&& Int32.toUInt32 31)).toInt32) &&& (nI 1431655765))).toUInt32 >>> ((nI 2).toUInt32 &&& Int32.toUInt32 31)).toInt32) &&& (nI 858993459))) + (((((x - (((x.toUInt32 >>> ((nI 1).toUInt32 &&& Int32.toUInt32 31)).toInt32) &&& (nI 1431655765))) &&& (nI 858993459)) + ((((x - (((x.toUInt32 >>> ((nI 1).toUInt32 &&& Int32.toUInt32 31)).toInt32) &&& (nI 1431655765))).toUInt32 >>> ((nI 2).toUInt32 &&& Int32.toUInt32 31)).toInt32) &&& (nI 858993459))).toUInt32 >>> ((nI 4).toUInt32 &&& Int32.toUInt32 31)).toInt32)) &&& (nI 252645135)) + (((((((x - (((x.toUInt32 >>> ((nI 1).toUInt32 &&& Int32.toUInt32 31)).toInt32) &&& (nI 1431655765))) &&& (nI 858993459)) + ((((x - (((x.toUInt32 >>> ((nI 1).toUInt32 &&& Int32.toUInt32 31)).toInt32) &&& (nI 1431655765))).toUInt32 >>> ((nI 2).toUInt32 &&& Int32.toUInt32 31)).toInt32) &&& (nI 858993459))) + (((((x - (((x.toUInt32 >>> ((nI 1).toUInt32 &&& Int32.toUInt32 31)).toInt32) &&& (nI 1431655765))) &&& (nI 858993459)) + ((((x - (((x.toUInt32 >>> ((nI 1).toUInt32 &&& Int32.toUInt32 31)).toInt32) &&& (nI 1431655765))).toUInt32 >>> ((nI 2).toUInt32 &&& Int32.toUInt32 31)).toInt32) &&& (nI 858993459))).toUInt32 >>> ((nI 4).toUInt32 &&& Int32.toUInt32 31)).toInt32)) &&& (nI 252645135)).toUInt32 >>> ((nI 8).toUInt32 &&& Int32.toUInt32 31)).toInt32)).toUInt32 >>> ((nI 16).toUInt32 &&& Int32.toUInt32 31)).toInt32))) dJ6_bitCount_0f7a4_46 rfl rfl ?_
  refine z_istore_n 48 C0 [0] [(0, .int (((((((x - (((x.toUInt32 >>> ((nI 1).toUInt32 &&& Int32.toUInt32 31)).toInt32) &&& (nI 1431655765))) &&& (nI 858993459)) + ((((x - (((x.toUInt32 >>> ((nI 1).toUInt32 &&& Int32.toUInt32 31)).toInt32) &&& (nI 1431655765))).toUInt32 >>> ((nI 2).toUInt32 &&& Int32.toUInt32 31)).toInt32) &&& (nI 858993459))) + (((((x - (((x.toUInt32 >>> ((nI 1).toUInt32 &&& Int32.toUInt32 31)).toInt32) &&& (nI 1431655765))) &&& (nI 858993459)) + ((((x - (((x.toUInt32 >>> ((nI 1).toUInt32 &&& Int32.toUInt32 31)).toInt32) &&& (nI 1431655765))).toUInt32 >>> ((nI 2).toUInt32 &&& Int32.toUInt32 31)).toInt32) &&& (nI 858993459))).toUInt32 >>> ((nI 4).toUInt32 &&& Int32.toUInt32 31)).toInt32)) &&& (nI 252645135)) + (((((((x - (((x.toUInt32 >>> ((nI 1).toUInt32 &&& Int32.toUInt32 31)).toInt32) &&& (nI 1431655765))) &&& (nI 858993459)) + ((((x - (((x.toUInt32 >>> ((nI 1).toUInt32 &&& Int32.toUInt32 31)).toInt32) &&& (nI 1431655765))).toUInt32 >>> ((nI 2).toUInt32 &&& Int32.toUInt32 31)).toInt32) &&& (nI 858993459))) + (((((x - (((x.toUInt32 >>> ((nI 1).toUInt32 &&& Int32.toUInt32 31)).toInt32) &&& (nI 1431655765))) &&& (nI 858993459)) + ((((x - (((x.toUInt32 >>> ((nI 1).toUInt32 &&& Int32.toUInt32 31)).toInt32) &&& (nI 1431655765))).toUInt32 >>> ((nI 2).toUInt32 &&& Int32.toUInt32 31)).toInt32) &&& (nI 858993459))).toUInt32 >>> ((nI 4).toUInt32 &&& Int32.toUInt32 31)).toInt32)) &&& (nI 252645135)).toUInt32 >>> ((nI 8).toUInt32 &&& Int32.toUInt32 31)).toInt32)) + ((((((((x - (((x.toUInt32 >>> ((nI 1).toUInt32 &&& Int32.toUInt32 31)).toInt32) &&& (nI 1431655765))) &&& (nI 858993459)) + ((((x - (((x.toUInt32 >>> ((nI 1).toUInt32 &&& Int32.toUInt32 31)).toInt32) &&& (nI 1431655765))).toUInt32 >>> ((nI 2).toUInt32 &&& Int32.toUInt32 31)).toInt32) &&& (nI 858993459))) + (((((x - (((x.toUInt32 >>> ((nI 1).toUInt32 &&& Int32.toUInt32 31)).toInt32) &&& (nI 1431655765))) &&& (nI 858993459)) + ((((x - (((x.toUInt32 >>> ((nI 1).toUInt32 &&& Int32.toUInt32 31)).toInt32) &&& (nI 1431655765))).toUInt32 >>> ((nI 2).toUInt32 &&& Int32.toUInt32 31)).toInt32) &&& (nI 858993459))).toUInt32 >>> ((nI 4).toUInt32 &&& Int32.toUInt32 31)).toInt32)) &&& (nI 252645135)) + (((((((x - (((x.toUInt32 >>> ((nI 1).toUInt32 &&& Int32.toUInt32 31)).toInt32) &&& (nI 1431655765))) &&& (nI 858993459)) + ((((x - (((x.toUInt32 >>> ((nI 1).toUInt32 &&& Int32.toUInt32 31)).toInt32) &&& (nI 1431655765))).toUInt32 >>> ((nI 2).toUInt32 &&& Int32.toUInt32 31)).toInt32) &&& (nI 858993459))) + (((((x - (((x.toUInt32 >>> ((nI 1).toUInt32 &&& Int32.toUInt32 31)).toInt32) &&& (nI 1431655765))) &&& (nI 858993459)) + ((((x - (((x.toUInt32 >>> ((nI 1).toUInt32 &&& Int32.toUInt32 31)).toInt32) &&& (nI 1431655765))).toUInt32 >>> ((nI 2).toUInt32 &&& Int32.toUInt32 31)).toInt32) &&& (nI 858993459))).toUInt32 >>> ((nI 4).toUInt32 &&& Int32.toUInt32 31)).toInt32)) &&& (nI 252645135)).toUInt32 >>> ((nI 8).toUInt32 &&& Int32.toUInt32 31)).toInt32)).toUInt32 >>> ((nI 16).toUInt32 &&& Int32.toUInt32 31)).toInt32)))] dJ6_bitCount_0f7a4_47 rfl rfl (by decide) rfl ?_
  refine z_iload_n 49 C0 0 dJ6_bitCount_0f7a4_48 rfl rfl rfl ?_
  refine z_bipush 51 C0 (v := (nI 63)) dJ6_bitCount_0f7a4_49 rfl rfl ?_
  refine z_iand 52 C0 (v := ((((((((x - (((x.toUInt32 >>> ((nI 1).toUInt32 &&& Int32.toUInt32 31)).toInt32) &&& (nI 1431655765))) &&& (nI 858993459)) + ((((x - (((x.toUInt32 >>> ((nI 1).toUInt32 &&& Int32.toUInt32 31)).toInt32) &&& (nI 1431655765))).toUInt32 >>> ((nI 2).toUInt32 &&& Int32.toUInt32 31)).toInt32) &&& (nI 858993459))) + (((((x - (((x.toUInt32 >>> ((nI 1).toUInt32 &&& Int32.toUInt32 31)).toInt32) &&& (nI 1431655765))) &&& (nI 858993459)) + ((((x - (((x.toUInt32 >>> ((nI 1).toUInt32 &&& Int32.toUInt32 31)).toInt32) &&& (nI 1431655765))).toUInt32 >>> ((nI 2).toUInt32 &&& Int32.toUInt32 31)).toInt32) &&& (nI 858993459))).toUInt32 >>> ((nI 4).toUInt32 &&& Int32.toUInt32 31)).toInt32)) &&& (nI 252645135)) + (((((((x - (((x.toUInt32 >>> ((nI 1).toUInt32 &&& Int32.toUInt32 31)).toInt32) &&& (nI 1431655765))) &&& (nI 858993459)) + ((((x - (((x.toUInt32 >>> ((nI 1).toUInt32 &&& Int32.toUInt32 31)).toInt32) &&& (nI 1431655765))).toUInt32 >>> ((nI 2).toUInt32 &&& Int32.toUInt32 31)).toInt32) &&& (nI 858993459))) + (((((x - (((x.toUInt32 >>> ((nI 1).toUInt32 &&& Int32.toUInt32 31)).toInt32) &&& (nI 1431655765))) &&& (nI 858993459)) + ((((x - (((x.toUInt32 >>> ((nI 1).toUInt32 &&& Int32.toUInt32 31)).toInt32) &&& (nI 1431655765))).toUInt32 >>> ((nI 2).toUInt32 &&& Int32.toUInt32 31)).toInt32) &&& (nI 858993459))).toUInt32 >>> ((nI 4).toUInt32 &&& Int32.toUInt32 31)).toInt32)) &&& (nI 252645135)).toUInt32 >>> ((nI 8).toUInt32 &&& Int32.toUInt32 31)).toInt32)) + ((((((((x - (((x.toUInt32 >>> ((nI 1).toUInt32 &&& Int32.toUInt32 31)).toInt32) &&& (nI 1431655765))) &&& (nI 858993459)) + ((((x - (((x.toUInt32 >>> ((nI 1).toUInt32 &&& Int32.toUInt32 31)).toInt32) &&& (nI 1431655765))).toUInt32 >>> ((nI 2).toUInt32 &&& Int32.toUInt32 31)).toInt32) &&& (nI 858993459))) + (((((x - (((x.toUInt32 >>> ((nI 1).toUInt32 &&& Int32.toUInt32 31)).toInt32) &&& (nI 1431655765))) &&& (nI 858993459)) + ((((x - (((x.toUInt32 >>> ((nI 1).toUInt32 &&& Int32.toUInt32 31)).toInt32) &&& (nI 1431655765))).toUInt32 >>> ((nI 2).toUInt32 &&& Int32.toUInt32 31)).toInt32) &&& (nI 858993459))).toUInt32 >>> ((nI 4).toUInt32 &&& Int32.toUInt32 31)).toInt32)) &&& (nI 252645135)) + (((((((x - (((x.toUInt32 >>> ((nI 1).toUInt32 &&& Int32.toUInt32 31)).toInt32) &&& (nI 1431655765))) &&& (nI 858993459)) + ((((x - (((x.toUInt32 >>> ((nI 1).toUInt32 &&& Int32.toUInt32 31)).toInt32) &&& (nI 1431655765))).toUInt32 >>> ((nI 2).toUInt32 &&& Int32.toUInt32 31)).toInt32) &&& (nI 858993459))) + (((((x - (((x.toUInt32 >>> ((nI 1).toUInt32 &&& Int32.toUInt32 31)).toInt32) &&& (nI 1431655765))) &&& (nI 858993459)) + ((((x - (((x.toUInt32 >>> ((nI 1).toUInt32 &&& Int32.toUInt32 31)).toInt32) &&& (nI 1431655765))).toUInt32 >>> ((nI 2).toUInt32 &&& Int32.toUInt32 31)).toInt32) &&& (nI 858993459))).toUInt32 >>> ((nI 4).toUInt32 &&& Int32.toUInt32 31)).toInt32)) &&& (nI 252645135)).toUInt32 >>> ((nI 8).toUInt32 &&& Int32.toUInt32 31)).toInt32)).toUInt32 >>> ((nI 16).toUInt32 &&& Int32.toUInt32 31)).toInt32)) &&& (nI 63))) dJ6_bitCount_0f7a4_51 rfl rfl ?_
  exact z_iret C0 rfl dJ6_bitCount_0f7a4_52 ⟨rfl, rfl⟩ (by decide) (by decide)

set_option maxHeartbeats 4000000 in
set_option maxRecDepth 100000 in
theorem isMisformed (l_ : Launch) (E : zE) (ck : Nat) (ch : Nat) (cr : Nat) (rc : Nat) (p : Nat) (po : Nat) (pn : Nat) (kd : Nat) (op : Nat → Int32) (nn : Nat → Int32) (len : Nat) (i : Nat) (hi : i < 64) (hkd : kd < 4) (hlen : len ≤ 64) : zMi l_ E yX0_isMisformed (zTs yX0_isMisformed cX0_isMisformed 5 (some .boolean)) ({ frames := 1, cells := 0, slots := 0, locals := 21 } : Room) [.ref ck, .ref p, .int (nI i)] [(ck, zo 0 [.ref ch, .ref cr, .int (nI rc)]), (p, zo 5 [.int (nI kd), .ref po, .ref pn, .int (nI len)]), (po, zi E 64 op), (pn, zi E 64 nn)] (fun r_ w_ => (r_ = (zb (¬ ∃ o, pOK kd op nn len i o)) ∧ w_ = [(ck, zo 0 [.ref ch, .ref cr, .int (nI rc)]), (p, zo 5 [.int (nI kd), .ref po, .ref pn, .int (nI len)]), (po, zi E 64 op), (pn, zi E 64 nn)])) 0 0 := by
  refine zMi.of (cc := cX0_isMisformed) (nL := 5) (ret := (some .boolean)) (by decide) rfl (Nat.le_of_ble_eq_true rfl) ?_
  intro p_ e_ s_ m_ args_ below_ meth_ c_ A_ C0 hin0
  have C0 : zC E p_ s_ m_ args_ meth_ c_ cX0_isMisformed 5 (some .boolean) RX0 (zTs yX0_isMisformed cX0_isMisformed 5 (some .boolean)) A_ := C0
  refine z_eqL (L1 := [(0, .ref ck), (1, .ref p), (2, .int (nI i))]) rfl ?_
  refine z_aload_n 1 C0 1 dX0_isMisformed_0 rfl rfl rfl ?_
  refine z_get 4 C0 1 1 wz_5 rfl (by decide) (zTs_in wk_72) dX0_isMisformed_1 rfl rfl rfl ?_
  refine z_iload_n 5 C0 2 dX0_isMisformed_4 rfl rfl rfl ?_
  refine z_ialdN 6 C0 2 (v := (op i)) dX0_isMisformed_5 rfl rfl (by omega) (by decide) rfl ?_
  refine z_istore_n 7 C0 [1, 2, 3, 0] [(0, .ref ck), (1, .ref p), (2, .int (nI i)), (3, .int (op i))] dX0_isMisformed_6 rfl rfl (by decide) rfl ?_
  refine z_aload_n 8 C0 1 dX0_isMisformed_7 rfl rfl rfl ?_
  refine z_get 11 C0 1 2 wz_5 rfl (by decide) (zTs_in wk_75) dX0_isMisformed_8 rfl rfl rfl ?_
  refine z_iload_n 12 C0 2 dX0_isMisformed_11 rfl rfl rfl ?_
  refine z_ialdN 13 C0 3 (v := (nn i)) dX0_isMisformed_12 rfl rfl (by omega) (by decide) rfl ?_
  refine z_istore 15 C0 [1, 2, 3, 4, 0] [(0, .ref ck), (1, .ref p), (2, .int (nI i)), (3, .int (op i)), (4, .int (nn i))] dX0_isMisformed_13 rfl (by decide) rfl ?_
  refine z_iload_n 16 C0 3 dX0_isMisformed_15 rfl rfl rfl ?_
  refine z_if_lt 19 25 C0 dX0_isMisformed_16 rfl (by decide) (fun k16 => ?_) (fun k16 => ?_)
  · skip
    refine z_iconst 26 C0 (v := (nI 1)) dX0_isMisformed_25 rfl rfl ?_
    exact z_zret C0 rfl rfl dX0_isMisformed_26 ⟨(zb_tN (fun ⟨o, h⟩ => by first | (rw [h.2.1] at k16; exact nI_pos (by have := h.1; omega) k16) | (rw [h.2.1] at k22; exact k22 (nI_le h.1 (by decide))))), rfl⟩ (by decide) (by decide)
  · skip
    refine z_iload_n 20 C0 3 dX0_isMisformed_19 rfl rfl rfl ?_
    refine z_bipush 22 C0 (v := (nI 18)) dX0_isMisformed_20 rfl rfl ?_
    refine z_icmp_le 25 27 C0 dX0_isMisformed_22 rfl (by decide) (fun k22 => ?_) (fun k22 => ?_)
    · skip
      obtain ⟨o, ho, hop⟩ := nI_of2 (n := 18) (by decide) k16 k22
      refine z_eq (L1 := [(0, .ref ck), (1, .ref p), (2, .int (nI i)), (3, .int (nI o)), (4, .int (nn i))]) (st1 := []) (w1 := [(ck, zo 0 [.ref ch, .ref cr, .int (nI rc)]), (p, zo 5 [.int (nI kd), .ref po, .ref pn, .int (nI len)]), (po, zi E 64 op), (pn, zi E 64 nn)]) (by rw [hop]) rfl rfl ?_
      refine z_iload_n 28 C0 3 dX0_isMisformed_27 rfl rfl rfl ?_
      refine z_bipush 30 C0 (v := (nI 16)) dX0_isMisformed_28 rfl rfl ?_
      refine z_icmp_neN 33 46 C0 (by omega) (by decide) dX0_isMisformed_30 rfl (by decide) (fun k30 => ?_) (fun k30 => ?_)
      · skip
        refine z_iload_n 47 C0 3 dX0_isMisformed_46 rfl rfl rfl ?_
        refine z_bipush 49 C0 (v := (nI 18)) dX0_isMisformed_47 rfl rfl ?_
        refine z_icmp_neN 52 66 C0 (by omega) (by decide) dX0_isMisformed_49 rfl (by decide) (fun k49 => ?_) (fun k49 => ?_)
        · skip
          refine z_iload_n 67 C0 3 dX0_isMisformed_66 rfl rfl rfl ?_
          refine z_iconst 68 C0 (v := (nI 1)) dX0_isMisformed_67 rfl rfl ?_
          refine z_icmp_neN 71 91 C0 (by omega) (by decide) dX0_isMisformed_68 rfl (by decide) (fun k68 => ?_) (fun k68 => ?_)
          · skip
            refine z_iload_n 92 C0 3 dX0_isMisformed_91 rfl rfl rfl ?_
            refine z_iconst 93 C0 (v := (nI 2)) dX0_isMisformed_92 rfl rfl ?_
            refine z_icmp_eqN 96 101 C0 (by omega) (by decide) dX0_isMisformed_93 rfl (by decide) (fun k93 => ?_) (fun k93 => ?_)
            · skip
              refine z_iload 103 C0 4 dX0_isMisformed_101 rfl rfl ?_
              refine z_if_lt 106 112 C0 dX0_isMisformed_103 rfl (by decide) (fun k103 => ?_) (fun k103 => ?_)
              · skip
                refine z_iconst 113 C0 (v := (nI 1)) dX0_isMisformed_112 rfl rfl ?_
                refine z_goto 117 C0 dX0_isMisformed_113 (by decide) ?_
                exact z_zret C0 rfl rfl dX0_isMisformed_117 ⟨(mis_t ho hop (fun h => by obtain ⟨j, hj, e⟩ := h.2.2.2.1 (by omega); have hN := nArg_le kd; first | (rw [e] at k103; exact nI_pos (by omega) k103) | (rw [e] at k109; exact k109 (nI_lt hj (by omega))))), rfl⟩ (by decide) (by decide)
              · skip
                refine z_iload 108 C0 4 dX0_isMisformed_106 rfl rfl ?_
                refine z_iconst 109 C0 (v := (nI 4)) dX0_isMisformed_108 rfl rfl ?_
                refine z_icmp_lt 112 116 C0 dX0_isMisformed_109 rfl (by decide) (fun k109 => ?_) (fun k109 => ?_)
                · skip
                  refine z_iconst 117 C0 (v := (nI 0)) dX0_isMisformed_116 rfl rfl ?_
                  exact z_zret C0 rfl rfl dX0_isMisformed_117 ⟨(mis_f ho hop (by have hx := nI_ltx (by decide) k103 k109; refine ⟨?_, ?_, ?_, ?_, ?_⟩ <;> intro q <;> first | exact hx | (exact absurd q (by omega)))), rfl⟩ (by decide) (by decide)
                · skip
                  refine z_iconst 113 C0 (v := (nI 1)) dX0_isMisformed_112 rfl rfl ?_
                  refine z_goto 117 C0 dX0_isMisformed_113 (by decide) ?_
                  exact z_zret C0 rfl rfl dX0_isMisformed_117 ⟨(mis_t ho hop (fun h => by obtain ⟨j, hj, e⟩ := h.2.2.2.1 (by omega); have hN := nArg_le kd; first | (rw [e] at k103; exact nI_pos (by omega) k103) | (rw [e] at k109; exact k109 (nI_lt hj (by omega))))), rfl⟩ (by decide) (by decide)
            · skip
              refine z_iload_n 97 C0 3 dX0_isMisformed_96 rfl rfl rfl ?_
              refine z_iconst 98 C0 (v := (nI 3)) dX0_isMisformed_97 rfl rfl ?_
              refine z_icmp_neN 101 118 C0 (by omega) (by decide) dX0_isMisformed_98 rfl (by decide) (fun k98 => ?_) (fun k98 => ?_)
              · skip
                refine z_iload_n 119 C0 3 dX0_isMisformed_118 rfl rfl rfl ?_
                refine z_callSNi 122 C0 [] [0, 1, 2, 3] [(ck, zo 0 [.ref ch, .ref cr, .int (nI rc)]), (p, zo 5 [.int (nI kd), .ref po, .ref pn, .int (nI len)]), (po, zi E 64 op), (pn, zi E 64 nn)] 0 0 (As := [.int (nI o)]) (n := 1) (isJump l_ E o (by omega)) (zTs_good (fun _ => zTs_in) wk_276) rfl C0.2.2.2.2.2.2.2.2.2.1.1.2.2.2.1 (zTs_in wk_12) (zTs_in wk_275) ⟨by decide, by decide, by decide +kernel⟩ rfl rfl (by decide) rfl rfl (Nat.le_of_ble_eq_true rfl) ⟨by decide, by decide⟩ rfl rfl ⟨by decide, by decide⟩ ⟨by decide, by decide⟩ dX0_isMisformed_119 rfl (fun r119 w119 hB119 => ?_)
                obtain ⟨rfl, rfl⟩ := hB119
                refine z_perm [0, 1, 2, 3] [(ck, zo 0 [.ref ch, .ref cr, .int (nI rc)]), (p, zo 5 [.int (nI kd), .ref po, .ref pn, .int (nI len)]), (po, zi E 64 op), (pn, zi E 64 nn)] (by decide) rfl ?_
                refine z_if_eqP 125 138 C0 dX0_isMisformed_122 rfl (by decide) (fun k122 => ?_) (fun k122 => ?_)
                · skip
                  refine z_iconst 139 C0 (v := (nI 0)) dX0_isMisformed_138 rfl rfl ?_
                  exact z_zret C0 rfl rfl dX0_isMisformed_139 ⟨(mis_f ho hop (by refine ⟨?_, ?_, ?_, ?_, ?_⟩ <;> intro q <;> first | exact k131 | (exact absurd q (by omega)) | exact absurd q k122)), rfl⟩ (by decide) (by decide)
                · skip
                  refine z_aload_n 126 C0 1 dX0_isMisformed_125 rfl rfl rfl ?_
                  refine z_iload 128 C0 4 dX0_isMisformed_126 rfl rfl ?_
                  refine z_callVi 131 C0 [1] [0, 2, 3] [(ck, zo 0 [.ref ch, .ref cr, .int (nI rc)]), (po, zi E 64 op), (pn, zi E 64 nn)] 0 0 (As := [.int (nn i)]) (T := TX5) (N := 4) (C := RX5) (ci := 5) (n := 1) 0 (has_i l_ E p po pn kd len (nn i) (by omega)) (zGIV (fun _ => zTs_in) wk_280 wk_277 wk_278 wk_279 wk_15) rfl ⟨rfl, by decide, by decide, by decide +kernel⟩ rfl rfl rfl rfl (by decide) rfl rfl (Nat.le_of_ble_eq_true rfl) ⟨by decide, by decide⟩ rfl rfl ⟨by decide, by decide⟩ ⟨by decide, by decide⟩ dX0_isMisformed_128 rfl (fun r128 w128 hB128 => ?_)
                  obtain ⟨rfl, rfl⟩ := hB128
                  refine z_perm [0, 3, 1, 2] [(ck, zo 0 [.ref ch, .ref cr, .int (nI rc)]), (p, zo 5 [.int (nI kd), .ref po, .ref pn, .int (nI len)]), (po, zi E 64 op), (pn, zi E 64 nn)] (by decide) rfl ?_
                  refine z_if_neP 134 138 C0 dX0_isMisformed_131 rfl (by decide) (fun k131 => ?_) (fun k131 => ?_)
                  · skip
                    refine z_iconst 139 C0 (v := (nI 0)) dX0_isMisformed_138 rfl rfl ?_
                    exact z_zret C0 rfl rfl dX0_isMisformed_139 ⟨(mis_f ho hop (by refine ⟨?_, ?_, ?_, ?_, ?_⟩ <;> intro q <;> first | exact k131 | (exact absurd q (by omega)) | exact absurd q k122)), rfl⟩ (by decide) (by decide)
                  · skip
                    refine z_iconst 135 C0 (v := (nI 1)) dX0_isMisformed_134 rfl rfl ?_
                    refine z_goto 139 C0 dX0_isMisformed_135 (by decide) ?_
                    exact z_zret C0 rfl rfl dX0_isMisformed_139 ⟨(mis_t ho hop (fun h => k131 (h.2.2.2.2 (by omega)))), rfl⟩ (by decide) (by decide)
              · skip
                refine z_iload 103 C0 4 dX0_isMisformed_101 rfl rfl ?_
                refine z_if_lt 106 112 C0 dX0_isMisformed_103 rfl (by decide) (fun k103 => ?_) (fun k103 => ?_)
                · skip
                  refine z_iconst 113 C0 (v := (nI 1)) dX0_isMisformed_112 rfl rfl ?_
                  refine z_goto 117 C0 dX0_isMisformed_113 (by decide) ?_
                  exact z_zret C0 rfl rfl dX0_isMisformed_117 ⟨(mis_t ho hop (fun h => by obtain ⟨j, hj, e⟩ := h.2.2.2.1 (by omega); have hN := nArg_le kd; first | (rw [e] at k103; exact nI_pos (by omega) k103) | (rw [e] at k109; exact k109 (nI_lt hj (by omega))))), rfl⟩ (by decide) (by decide)
                · skip
                  refine z_iload 108 C0 4 dX0_isMisformed_106 rfl rfl ?_
                  refine z_iconst 109 C0 (v := (nI 4)) dX0_isMisformed_108 rfl rfl ?_
                  refine z_icmp_lt 112 116 C0 dX0_isMisformed_109 rfl (by decide) (fun k109 => ?_) (fun k109 => ?_)
                  · skip
                    refine z_iconst 117 C0 (v := (nI 0)) dX0_isMisformed_116 rfl rfl ?_
                    exact z_zret C0 rfl rfl dX0_isMisformed_117 ⟨(mis_f ho hop (by have hx := nI_ltx (by decide) k103 k109; refine ⟨?_, ?_, ?_, ?_, ?_⟩ <;> intro q <;> first | exact hx | (exact absurd q (by omega)))), rfl⟩ (by decide) (by decide)
                  · skip
                    refine z_iconst 113 C0 (v := (nI 1)) dX0_isMisformed_112 rfl rfl ?_
                    refine z_goto 117 C0 dX0_isMisformed_113 (by decide) ?_
                    exact z_zret C0 rfl rfl dX0_isMisformed_117 ⟨(mis_t ho hop (fun h => by obtain ⟨j, hj, e⟩ := h.2.2.2.1 (by omega); have hN := nArg_le kd; first | (rw [e] at k103; exact nI_pos (by omega) k103) | (rw [e] at k109; exact k109 (nI_lt hj (by omega))))), rfl⟩ (by decide) (by decide)
          · skip
            refine z_iload 73 C0 4 dX0_isMisformed_71 rfl rfl ?_
            refine z_if_lt 76 85 C0 dX0_isMisformed_73 rfl (by decide) (fun k73 => ?_) (fun k73 => ?_)
            · skip
              refine z_iconst 86 C0 (v := (nI 1)) dX0_isMisformed_85 rfl rfl ?_
              refine z_goto 90 C0 dX0_isMisformed_86 (by decide) ?_
              exact z_zret C0 rfl rfl dX0_isMisformed_90 ⟨(mis_t ho hop (fun h => by obtain ⟨j, hj, e⟩ := h.2.2.1 (by omega); have hN := nArg_le kd; first | (rw [e] at k73; exact nI_pos (by omega) k73) | (rw [e] at k82; exact k82 (nI_lt hj (by omega))))), rfl⟩ (by decide) (by decide)
            · skip
              refine z_iload 78 C0 4 dX0_isMisformed_76 rfl rfl ?_
              refine z_aload_n 79 C0 1 dX0_isMisformed_78 rfl rfl rfl ?_
              refine z_callVi 82 C0 [1] [0, 2, 3] [(ck, zo 0 [.ref ch, .ref cr, .int (nI rc)]), (po, zi E 64 op), (pn, zi E 64 nn)] 0 0 (As := []) (T := TX5) (N := 4) (C := RX5) (ci := 5) (n := 0) 0 (argCount l_ E p po pn kd len (hkd)) (zGIV (fun _ => zTs_in) wk_273 wk_270 wk_271 wk_272 wk_15) rfl ⟨rfl, by decide, by decide, by decide +kernel⟩ rfl rfl rfl rfl (by decide) rfl rfl (Nat.le_of_ble_eq_true rfl) ⟨by decide, by decide⟩ rfl rfl ⟨by decide, by decide⟩ ⟨by decide, by decide⟩ dX0_isMisformed_79 rfl (fun r79 w79 hB79 => ?_)
              obtain ⟨rfl, rfl⟩ := hB79
              refine z_perm [0, 3, 1, 2] [(ck, zo 0 [.ref ch, .ref cr, .int (nI rc)]), (p, zo 5 [.int (nI kd), .ref po, .ref pn, .int (nI len)]), (po, zi E 64 op), (pn, zi E 64 nn)] (by decide) rfl ?_
              refine z_icmp_lt 85 89 C0 dX0_isMisformed_82 rfl (by decide) (fun k82 => ?_) (fun k82 => ?_)
              · skip
                refine z_iconst 90 C0 (v := (nI 0)) dX0_isMisformed_89 rfl rfl ?_
                exact z_zret C0 rfl rfl dX0_isMisformed_90 ⟨(mis_f ho hop (by have hN := nArg_le kd; have hx := nI_ltx (by omega) k73 k82; refine ⟨?_, ?_, ?_, ?_, ?_⟩ <;> intro q <;> first | exact hx | (exact absurd q (by omega)))), rfl⟩ (by decide) (by decide)
              · skip
                refine z_iconst 86 C0 (v := (nI 1)) dX0_isMisformed_85 rfl rfl ?_
                refine z_goto 90 C0 dX0_isMisformed_86 (by decide) ?_
                exact z_zret C0 rfl rfl dX0_isMisformed_90 ⟨(mis_t ho hop (fun h => by obtain ⟨j, hj, e⟩ := h.2.2.1 (by omega); have hN := nArg_le kd; first | (rw [e] at k73; exact nI_pos (by omega) k73) | (rw [e] at k82; exact k82 (nI_lt hj (by omega))))), rfl⟩ (by decide) (by decide)
        · skip
          refine z_aload_n 53 C0 1 dX0_isMisformed_52 rfl rfl rfl ?_
          refine z_get 56 C0 1 0 wz_5 rfl (by decide) (zTs_in wk_69) dX0_isMisformed_53 rfl rfl rfl ?_
          refine z_iconst 57 C0 (v := (nI 3)) dX0_isMisformed_56 rfl rfl ?_
          refine z_icmp_eqN 60 64 C0 (by omega) (by decide) dX0_isMisformed_57 rfl (by decide) (fun k57 => ?_) (fun k57 => ?_)
          · skip
            refine z_iconst 65 C0 (v := (nI 0)) dX0_isMisformed_64 rfl rfl ?_
            exact z_zret C0 rfl rfl dX0_isMisformed_65 ⟨(mis_f ho hop (by refine ⟨?_, ?_, ?_, ?_, ?_⟩ <;> intro q <;> first | omega | (exact absurd q (by omega)))), rfl⟩ (by decide) (by decide)
          · skip
            refine z_iconst 61 C0 (v := (nI 1)) dX0_isMisformed_60 rfl rfl ?_
            refine z_goto 65 C0 dX0_isMisformed_61 (by decide) ?_
            exact z_zret C0 rfl rfl dX0_isMisformed_65 ⟨(mis_t ho hop (fun h => absurd (h.2.1 (by omega)) (by omega))), rfl⟩ (by decide) (by decide)
      · skip
        refine z_aload_n 34 C0 1 dX0_isMisformed_33 rfl rfl rfl ?_
        refine z_get 37 C0 1 0 wz_5 rfl (by decide) (zTs_in wk_69) dX0_isMisformed_34 rfl rfl rfl ?_
        refine z_if_eqN 40 44 C0 (by omega) dX0_isMisformed_37 rfl (by decide) (fun k37 => ?_) (fun k37 => ?_)
        · skip
          refine z_iconst 45 C0 (v := (nI 0)) dX0_isMisformed_44 rfl rfl ?_
          exact z_zret C0 rfl rfl dX0_isMisformed_45 ⟨(mis_f ho hop (by refine ⟨?_, ?_, ?_, ?_, ?_⟩ <;> intro q <;> first | omega | (exact absurd q (by omega)))), rfl⟩ (by decide) (by decide)
        · skip
          refine z_iconst 41 C0 (v := (nI 1)) dX0_isMisformed_40 rfl rfl ?_
          refine z_goto 45 C0 dX0_isMisformed_41 (by decide) ?_
          exact z_zret C0 rfl rfl dX0_isMisformed_45 ⟨(mis_t ho hop (fun h => absurd (h.1 (by omega)) (by omega))), rfl⟩ (by decide) (by decide)
    · skip
      refine z_iconst 26 C0 (v := (nI 1)) dX0_isMisformed_25 rfl rfl ?_
      exact z_zret C0 rfl rfl dX0_isMisformed_26 ⟨(zb_tN (fun ⟨o, h⟩ => by first | (rw [h.2.1] at k16; exact nI_pos (by have := h.1; omega) k16) | (rw [h.2.1] at k22; exact k22 (nI_le h.1 (by decide))))), rfl⟩ (by decide) (by decide)

set_option maxHeartbeats 4000000 in
set_option maxRecDepth 100000 in
theorem lacksNext (l_ : Launch) (E : zE) (ck : Nat) (ch : Nat) (cr : Nat) (rc : Nat) (p : Nat) (po : Nat) (pn : Nat) (kd : Nat) (op : Nat → Int32) (nn : Nat → Int32) (len : Nat) (i : Nat) (o : Nat) (hi : i < 64) (ho : o ≤ 18) (hop : op i = nI o) (hlen : len ≤ 64) : zMi l_ E yX0_lacksNext (zTs yX0_lacksNext cX0_lacksNext 3 (some .boolean)) ({ frames := 1, cells := 0, slots := 0, locals := 21 } : Room) [.ref ck, .ref p, .int (nI i)] [(ck, zo 0 [.ref ch, .ref cr, .int (nI rc)]), (p, zo 5 [.int (nI kd), .ref po, .ref pn, .int (nI len)]), (po, zi E 64 op), (pn, zi E 64 nn)] (fun r_ w_ => (r_ = (zb (hasNx o ∧ ¬ i + 1 < len)) ∧ w_ = [(ck, zo 0 [.ref ch, .ref cr, .int (nI rc)]), (p, zo 5 [.int (nI kd), .ref po, .ref pn, .int (nI len)]), (po, zi E 64 op), (pn, zi E 64 nn)])) 0 0 := by
  refine zMi.of (cc := cX0_lacksNext) (nL := 3) (ret := (some .boolean)) (by decide) rfl (Nat.le_of_ble_eq_true rfl) ?_
  intro p_ e_ s_ m_ args_ below_ meth_ c_ A_ C0 hin0
  have C0 : zC E p_ s_ m_ args_ meth_ c_ cX0_lacksNext 3 (some .boolean) RX0 (zTs yX0_lacksNext cX0_lacksNext 3 (some .boolean)) A_ := C0
  refine z_eqL (L1 := [(0, .ref ck), (1, .ref p), (2, .int (nI i))]) rfl ?_
  refine z_aload_n 1 C0 1 dX0_lacksNext_0 rfl rfl rfl ?_
  refine z_get 4 C0 1 1 wz_5 rfl (by decide) (zTs_in wk_72) dX0_lacksNext_1 rfl rfl rfl ?_
  refine z_iload_n 5 C0 2 dX0_lacksNext_4 rfl rfl rfl ?_
  refine z_ialdN 6 C0 2 (v := (nI o)) dX0_lacksNext_5 rfl rfl (by omega) (by decide) hop ?_
  refine z_callSi 9 C0 [] [0, 1, 2, 3] [(ck, zo 0 [.ref ch, .ref cr, .int (nI rc)]), (p, zo 5 [.int (nI kd), .ref po, .ref pn, .int (nI len)]), (po, zi E 64 op), (pn, zi E 64 nn)] 0 0 (As := [.int (nI o)]) (n := 1) (hasNext l_ E o (by omega)) (zGIS (fun _ => zTs_in) wk_287 wk_285 wk_286 wk_16) rfl ⟨by decide, by decide, by decide +kernel⟩ rfl rfl (by decide) rfl rfl (Nat.le_of_ble_eq_true rfl) ⟨by decide, by decide⟩ rfl rfl ⟨by decide, by decide⟩ ⟨by decide, by decide⟩ dX0_lacksNext_6 rfl (fun r6 w6 hB6 => ?_)
  obtain ⟨rfl, rfl⟩ := hB6
  refine z_perm [0, 1, 2, 3] [(ck, zo 0 [.ref ch, .ref cr, .int (nI rc)]), (p, zo 5 [.int (nI kd), .ref po, .ref pn, .int (nI len)]), (po, zi E 64 op), (pn, zi E 64 nn)] (by decide) rfl ?_
  refine z_if_eqP 12 26 C0 dX0_lacksNext_9 rfl (by decide) (fun k9 => ?_) (fun k9 => ?_)
  · skip
    refine z_iconst 27 C0 (v := (nI 0)) dX0_lacksNext_26 rfl rfl ?_
    exact z_zret C0 rfl rfl dX0_lacksNext_27 ⟨(zb_fN (fun q => by first | exact k9 q.1 | exact q.2 k19)), rfl⟩ (by decide) (by decide)
  · skip
    refine z_aload_n 13 C0 1 dX0_lacksNext_12 rfl rfl rfl ?_
    refine z_iload_n 14 C0 2 dX0_lacksNext_13 rfl rfl rfl ?_
    refine z_iconst 15 C0 (v := (nI 1)) dX0_lacksNext_14 rfl rfl ?_
    refine z_iadd 16 C0 (v := (nI (i + 1))) dX0_lacksNext_15 rfl (nI_add _ _) ?_
    refine z_callVi 19 C0 [1] [0, 2, 3] [(ck, zo 0 [.ref ch, .ref cr, .int (nI rc)]), (po, zi E 64 op), (pn, zi E 64 nn)] 0 0 (As := [.int (nI (i + 1))]) (T := TX5) (N := 4) (C := RX5) (ci := 5) (n := 1) 0 (has_n l_ E p po pn kd len (i + 1) (by omega) (by omega)) (zGIV (fun _ => zTs_in) wk_280 wk_277 wk_278 wk_279 wk_15) rfl ⟨rfl, by decide, by decide, by decide +kernel⟩ rfl rfl rfl rfl (by decide) rfl rfl (Nat.le_of_ble_eq_true rfl) ⟨by decide, by decide⟩ rfl rfl ⟨by decide, by decide⟩ ⟨by decide, by decide⟩ dX0_lacksNext_16 rfl (fun r16 w16 hB16 => ?_)
    obtain ⟨rfl, rfl⟩ := hB16
    refine z_perm [0, 3, 1, 2] [(ck, zo 0 [.ref ch, .ref cr, .int (nI rc)]), (p, zo 5 [.int (nI kd), .ref po, .ref pn, .int (nI len)]), (po, zi E 64 op), (pn, zi E 64 nn)] (by decide) rfl ?_
    refine z_if_neP 22 26 C0 dX0_lacksNext_19 rfl (by decide) (fun k19 => ?_) (fun k19 => ?_)
    · skip
      refine z_iconst 27 C0 (v := (nI 0)) dX0_lacksNext_26 rfl rfl ?_
      exact z_zret C0 rfl rfl dX0_lacksNext_27 ⟨(zb_fN (fun q => by first | exact k9 q.1 | exact q.2 k19)), rfl⟩ (by decide) (by decide)
    · skip
      refine z_iconst 23 C0 (v := (nI 1)) dX0_lacksNext_22 rfl rfl ?_
      refine z_goto 27 C0 dX0_lacksNext_23 (by decide) ?_
      exact z_zret C0 rfl rfl dX0_lacksNext_27 ⟨(zb_tN ⟨k9, k19⟩), rfl⟩ (by decide) (by decide)

set_option maxHeartbeats 4000000 in
set_option maxRecDepth 100000 in
theorem fits (l_ : Launch) (E : zE) (ck : Nat) (ch : Nat) (cr : Nat) (rc : Nat) (p : Nat) (po : Nat) (pn : Nat) (kd : Nat) (op : Nat → Int32) (nn : Nat → Int32) (len : Nat) (i : Nat) (h : Nat) (o : Nat) (hi : i < 64) (ho : o ≤ 18) (hop : op i = nI o) (hh : h ≤ 8) (hkd : kd < 4) : zMi l_ E yX0_fits (zTs yX0_fits cX0_fits 6 (some .boolean)) ({ frames := 0, cells := 0, slots := 0, locals := 0 } : Room) [.ref ck, .ref p, .int (nI i), .int (nI h)] [(ck, zo 0 [.ref ch, .ref cr, .int (nI rc)]), (p, zo 5 [.int (nI kd), .ref po, .ref pn, .int (nI len)]), (po, zi E 64 op), (pn, zi E 64 nn)] (fun r_ w_ => (r_ = (zb (pNeed kd o ≤ h ∧ h + gU o - gD o ≤ 8)) ∧ w_ = [(ck, zo 0 [.ref ch, .ref cr, .int (nI rc)]), (p, zo 5 [.int (nI kd), .ref po, .ref pn, .int (nI len)]), (po, zi E 64 op), (pn, zi E 64 nn)])) 0 0 := by
  refine zMi.of (cc := cX0_fits) (nL := 6) (ret := (some .boolean)) (by decide) rfl (Nat.le_of_ble_eq_true rfl) ?_
  intro p_ e_ s_ m_ args_ below_ meth_ c_ A_ C0 hin0
  have C0 : zC E p_ s_ m_ args_ meth_ c_ cX0_fits 6 (some .boolean) RX0 (zTs yX0_fits cX0_fits 6 (some .boolean)) A_ := C0
  refine z_eqL (L1 := [(0, .ref ck), (1, .ref p), (2, .int (nI i)), (3, .int (nI h))]) rfl ?_
  refine z_aload_n 1 C0 1 dX0_fits_0 rfl rfl rfl ?_
  refine z_get 4 C0 1 1 wz_5 rfl (by decide) (zTs_in wk_72) dX0_fits_1 rfl rfl rfl ?_
  refine z_iload_n 5 C0 2 dX0_fits_4 rfl rfl rfl ?_
  refine z_ialdN 6 C0 2 (v := (nI o)) dX0_fits_5 rfl rfl (by omega) (by decide) hop ?_
  refine z_istore 8 C0 [1, 2, 3, 4, 0] [(0, .ref ck), (1, .ref p), (2, .int (nI i)), (3, .int (nI h)), (4, .int (nI o))] dX0_fits_6 rfl (by decide) rfl ?_
  refine z_iload 10 C0 4 dX0_fits_8 rfl rfl ?_
  refine z_bipush 12 C0 (v := (nI 17)) dX0_fits_10 rfl rfl ?_
  refine z_icmp_neN 15 26 C0 (by omega) (by decide) dX0_fits_12 rfl (by decide) (fun k12 => ?_) (fun k12 => ?_)
  · skip
    refine z_getsN 29 C0 (zTs_in wk_292) dX0_fits_26 rfl ?_
    refine z_iload 31 C0 4 dX0_fits_29 rfl rfl ?_
    refine z_tabN 32 C0 (v := (nI (nNeed o))) dX0_fits_31 rfl (by omega) (zNeed_eq ho) ?_
    have hpn : pNeed kd o = (nNeed o) := by unfold pNeed; first | rw [if_pos ⟨by omega, by omega⟩] | rw [if_neg (fun q => by omega)]
    have hgd := gD_le ho
    refine z_istore 34 C0 [1, 2, 3, 4, 5, 0] [(0, .ref ck), (1, .ref p), (2, .int (nI i)), (3, .int (nI h)), (4, .int (nI o)), (5, .int (nI (nNeed o)))] dX0_fits_32 rfl (by decide) rfl ?_
    refine z_iload_n 35 C0 3 dX0_fits_34 rfl rfl rfl ?_
    refine z_iload 37 C0 5 dX0_fits_35 rfl rfl ?_
    refine z_icmp_ltN 40 57 C0 (by omega) (by omega) dX0_fits_37 rfl (by decide) (fun k37 => ?_) (fun k37 => ?_)
    · skip
      refine z_iconst 58 C0 (v := (nI 0)) dX0_fits_57 rfl rfl ?_
      exact z_zret C0 rfl rfl dX0_fits_58 ⟨(zb_fN (fun q => by have h1 := q.1; have h2 := q.2; omega)), rfl⟩ (by decide) (by decide)
    · skip
      refine z_iload_n 41 C0 3 dX0_fits_40 rfl rfl rfl ?_
      refine z_getsG 44 C0 (zTs_in wk_294) dX0_fits_41 rfl ?_
      refine z_iload 46 C0 4 dX0_fits_44 rfl rfl ?_
      refine z_tabG 47 C0 (v := (zGrow o)) dX0_fits_46 rfl (by omega) rfl ?_
      refine z_iadd 48 C0 (v := (nI (h + gU o - gD o))) dX0_fits_47 rfl (grow_eq ho (by have h17 := hgd.2.2.2; omega)) ?_
      refine z_bipush 50 C0 (v := (nI 8)) dX0_fits_48 rfl rfl ?_
      refine z_icmp_gtN 53 57 C0 (by omega) (by decide) dX0_fits_50 rfl (by decide) (fun k50 => ?_) (fun k50 => ?_)
      · skip
        refine z_iconst 58 C0 (v := (nI 0)) dX0_fits_57 rfl rfl ?_
        exact z_zret C0 rfl rfl dX0_fits_58 ⟨(zb_fN (fun q => by have h1 := q.1; have h2 := q.2; omega)), rfl⟩ (by decide) (by decide)
      · skip
        refine z_iconst 54 C0 (v := (nI 1)) dX0_fits_53 rfl rfl ?_
        refine z_goto 58 C0 dX0_fits_54 (by decide) ?_
        exact z_zret C0 rfl rfl dX0_fits_58 ⟨(zb_tN ⟨by omega, by omega⟩), rfl⟩ (by decide) (by decide)
  · skip
    refine z_aload_n 16 C0 1 dX0_fits_15 rfl rfl rfl ?_
    refine z_get 19 C0 1 0 wz_5 rfl (by decide) (zTs_in wk_69) dX0_fits_16 rfl rfl rfl ?_
    refine z_if_neN 22 26 C0 (by omega) dX0_fits_19 rfl (by decide) (fun k19 => ?_) (fun k19 => ?_)
    · skip
      refine z_getsN 29 C0 (zTs_in wk_292) dX0_fits_26 rfl ?_
      refine z_iload 31 C0 4 dX0_fits_29 rfl rfl ?_
      refine z_tabN 32 C0 (v := (nI (nNeed o))) dX0_fits_31 rfl (by omega) (zNeed_eq ho) ?_
      have hpn : pNeed kd o = (nNeed o) := by unfold pNeed; first | rw [if_pos ⟨by omega, by omega⟩] | rw [if_neg (fun q => by omega)]
      have hgd := gD_le ho
      refine z_istore 34 C0 [1, 2, 3, 4, 5, 0] [(0, .ref ck), (1, .ref p), (2, .int (nI i)), (3, .int (nI h)), (4, .int (nI o)), (5, .int (nI (nNeed o)))] dX0_fits_32 rfl (by decide) rfl ?_
      refine z_iload_n 35 C0 3 dX0_fits_34 rfl rfl rfl ?_
      refine z_iload 37 C0 5 dX0_fits_35 rfl rfl ?_
      refine z_icmp_ltN 40 57 C0 (by omega) (by omega) dX0_fits_37 rfl (by decide) (fun k37 => ?_) (fun k37 => ?_)
      · skip
        refine z_iconst 58 C0 (v := (nI 0)) dX0_fits_57 rfl rfl ?_
        exact z_zret C0 rfl rfl dX0_fits_58 ⟨(zb_fN (fun q => by have h1 := q.1; have h2 := q.2; omega)), rfl⟩ (by decide) (by decide)
      · skip
        refine z_iload_n 41 C0 3 dX0_fits_40 rfl rfl rfl ?_
        refine z_getsG 44 C0 (zTs_in wk_294) dX0_fits_41 rfl ?_
        refine z_iload 46 C0 4 dX0_fits_44 rfl rfl ?_
        refine z_tabG 47 C0 (v := (zGrow o)) dX0_fits_46 rfl (by omega) rfl ?_
        refine z_iadd 48 C0 (v := (nI (h + gU o - gD o))) dX0_fits_47 rfl (grow_eq ho (by have h17 := hgd.2.2.2; omega)) ?_
        refine z_bipush 50 C0 (v := (nI 8)) dX0_fits_48 rfl rfl ?_
        refine z_icmp_gtN 53 57 C0 (by omega) (by decide) dX0_fits_50 rfl (by decide) (fun k50 => ?_) (fun k50 => ?_)
        · skip
          refine z_iconst 58 C0 (v := (nI 0)) dX0_fits_57 rfl rfl ?_
          exact z_zret C0 rfl rfl dX0_fits_58 ⟨(zb_fN (fun q => by have h1 := q.1; have h2 := q.2; omega)), rfl⟩ (by decide) (by decide)
        · skip
          refine z_iconst 54 C0 (v := (nI 1)) dX0_fits_53 rfl rfl ?_
          refine z_goto 58 C0 dX0_fits_54 (by decide) ?_
          exact z_zret C0 rfl rfl dX0_fits_58 ⟨(zb_tN ⟨by omega, by omega⟩), rfl⟩ (by decide) (by decide)
    · skip
      refine z_iconst 23 C0 (v := (nI 0)) dX0_fits_22 rfl rfl ?_
      refine z_goto 32 C0 dX0_fits_23 (by decide) ?_
      have hpn : pNeed kd o = 0 := by unfold pNeed; first | rw [if_pos ⟨by omega, by omega⟩] | rw [if_neg (fun q => by omega)]
      have hgd := gD_le ho
      refine z_istore 34 C0 [1, 2, 3, 4, 5, 0] [(0, .ref ck), (1, .ref p), (2, .int (nI i)), (3, .int (nI h)), (4, .int (nI o)), (5, .int (nI 0))] dX0_fits_32 rfl (by decide) rfl ?_
      refine z_iload_n 35 C0 3 dX0_fits_34 rfl rfl rfl ?_
      refine z_iload 37 C0 5 dX0_fits_35 rfl rfl ?_
      refine z_icmp_ltN 40 57 C0 (by omega) (by decide) dX0_fits_37 rfl (by decide) (fun k37 => ?_) (fun k37 => ?_)
      · skip
        refine z_iconst 58 C0 (v := (nI 0)) dX0_fits_57 rfl rfl ?_
        exact z_zret C0 rfl rfl dX0_fits_58 ⟨(zb_fN (fun q => by have h1 := q.1; have h2 := q.2; omega)), rfl⟩ (by decide) (by decide)
      · skip
        refine z_iload_n 41 C0 3 dX0_fits_40 rfl rfl rfl ?_
        refine z_getsG 44 C0 (zTs_in wk_294) dX0_fits_41 rfl ?_
        refine z_iload 46 C0 4 dX0_fits_44 rfl rfl ?_
        refine z_tabG 47 C0 (v := (zGrow o)) dX0_fits_46 rfl (by omega) rfl ?_
        refine z_iadd 48 C0 (v := (nI (h + gU o - gD o))) dX0_fits_47 rfl (grow_eq ho (by have h17 := hgd.2.2.2; omega)) ?_
        refine z_bipush 50 C0 (v := (nI 8)) dX0_fits_48 rfl rfl ?_
        refine z_icmp_gtN 53 57 C0 (by omega) (by decide) dX0_fits_50 rfl (by decide) (fun k50 => ?_) (fun k50 => ?_)
        · skip
          refine z_iconst 58 C0 (v := (nI 0)) dX0_fits_57 rfl rfl ?_
          exact z_zret C0 rfl rfl dX0_fits_58 ⟨(zb_fN (fun q => by have h1 := q.1; have h2 := q.2; omega)), rfl⟩ (by decide) (by decide)
        · skip
          refine z_iconst 54 C0 (v := (nI 1)) dX0_fits_53 rfl rfl ?_
          refine z_goto 58 C0 dX0_fits_54 (by decide) ?_
          exact z_zret C0 rfl rfl dX0_fits_58 ⟨(zb_tN ⟨by omega, by omega⟩), rfl⟩ (by decide) (by decide)

set_option maxHeartbeats 4000000 in
set_option maxRecDepth 100000 in
theorem hasHeight (l_ : Launch) (E : zE) (ck : Nat) (ch : Nat) (cr : Nat) (hm : Nat → Nat) (rc : Nat) (i : Nat) (h : Nat) (hi : i < 64) (hh : h < 9) (hm5 : hm i < 512) : zMi l_ E yX0_hasHeight (zTs yX0_hasHeight cX0_hasHeight 3 (some .boolean)) ({ frames := 0, cells := 0, slots := 0, locals := 0 } : Room) [.ref ck, .int (nI i), .int (nI h)] [(ck, zo 0 [.ref ch, .ref cr, .int (nI rc)]), (ch, zi E 64 (zn hm))] (fun r_ w_ => (r_ = (zb (hasB (hm i) h)) ∧ w_ = [(ck, zo 0 [.ref ch, .ref cr, .int (nI rc)]), (ch, zi E 64 (zn hm))])) 0 0 := by
  refine zMi.of (cc := cX0_hasHeight) (nL := 3) (ret := (some .boolean)) (by decide) rfl (Nat.le_of_ble_eq_true rfl) ?_
  intro p_ e_ s_ m_ args_ below_ meth_ c_ A_ C0 hin0
  have C0 : zC E p_ s_ m_ args_ meth_ c_ cX0_hasHeight 3 (some .boolean) RX0 (zTs yX0_hasHeight cX0_hasHeight 3 (some .boolean)) A_ := C0
  refine z_eqL (L1 := [(0, .ref ck), (1, .int (nI i)), (2, .int (nI h))]) rfl ?_
  refine z_aload_n 1 C0 0 dX0_hasHeight_0 rfl rfl rfl ?_
  refine z_get 4 C0 0 0 wz_0 rfl (by decide) (zTs_in wk_95) dX0_hasHeight_1 rfl rfl rfl ?_
  refine z_iload_n 5 C0 1 dX0_hasHeight_4 rfl rfl rfl ?_
  refine z_ialdN 6 C0 1 (v := (nI (hm i))) dX0_hasHeight_5 rfl rfl (by omega) (by decide) rfl ?_
  refine z_iload_n 7 C0 2 dX0_hasHeight_6 rfl rfl rfl ?_
  refine z_ishr 8 C0 (v := (nI (hm i) >>> (nI h &&& 31))) dX0_hasHeight_7 rfl rfl ?_
  refine z_iconst 9 C0 (v := (nI 1)) dX0_hasHeight_8 rfl rfl ?_
  refine z_iand 10 C0 (v := (nI (hm i / 2 ^ h % 2))) dX0_hasHeight_9 rfl (hb_shr _ hm5 _ hh) ?_
  have hb2 : hm i / 2 ^ h % 2 < 2 := Nat.mod_lt _ (by decide)
  refine z_iconst 11 C0 (v := (nI 1)) dX0_hasHeight_10 rfl rfl ?_
  refine z_icmp_neN 14 18 C0 (by omega) (by decide) dX0_hasHeight_11 rfl (by decide) (fun k11 => ?_) (fun k11 => ?_)
  · skip
    refine z_iconst 19 C0 (v := (nI 0)) dX0_hasHeight_18 rfl rfl ?_
    exact z_zret C0 rfl rfl dX0_hasHeight_19 ⟨(zb_fN k11), rfl⟩ (by decide) (by decide)
  · skip
    refine z_iconst 15 C0 (v := (nI 1)) dX0_hasHeight_14 rfl rfl ?_
    refine z_goto 19 C0 dX0_hasHeight_15 (by decide) ?_
    exact z_zret C0 rfl rfl dX0_hasHeight_19 ⟨(zb_tN k11), rfl⟩ (by decide) (by decide)

set_option maxHeartbeats 4000000 in
set_option maxRecDepth 100000 in
theorem fitsEvery (l_ : Launch) (E : zE) (ck : Nat) (ch : Nat) (cr : Nat) (hm : Nat → Nat) (rc : Nat) (p : Nat) (po : Nat) (pn : Nat) (kd : Nat) (op : Nat → Int32) (nn : Nat → Int32) (len : Nat) (i : Nat) (o : Nat) (hi : i < 64) (ho : o ≤ 18) (hop : op i = nI o) (hkd : kd < 4) (hm5 : hm i < 512) : zMi l_ E yX0_fitsEveryHeight (zTs yX0_fitsEveryHeight cX0_fitsEveryHeight 4 (some .boolean)) ({ frames := 1, cells := 0, slots := 0, locals := 25 } : Room) [.ref ck, .ref p, .int (nI i)] [(ck, zo 0 [.ref ch, .ref cr, .int (nI rc)]), (ch, zi E 64 (zn hm)), (p, zo 5 [.int (nI kd), .ref po, .ref pn, .int (nI len)]), (po, zi E 64 op), (pn, zi E 64 nn)] (fun r_ w_ => (r_ = (zb (∀ h, h < 9 → hasB (hm i) h → pNeed kd o ≤ h ∧ h + gU o - gD o ≤ 8)) ∧ w_ = [(ck, zo 0 [.ref ch, .ref cr, .int (nI rc)]), (ch, zi E 64 (zn hm)), (p, zo 5 [.int (nI kd), .ref po, .ref pn, .int (nI len)]), (po, zi E 64 op), (pn, zi E 64 nn)])) 0 0 := by
  refine zMi.of (cc := cX0_fitsEveryHeight) (nL := 4) (ret := (some .boolean)) (by decide) rfl (Nat.le_of_ble_eq_true rfl) ?_
  intro p_ e_ s_ m_ args_ below_ meth_ c_ A_ C0 hin0
  have C0 : zC E p_ s_ m_ args_ meth_ c_ cX0_fitsEveryHeight 4 (some .boolean) RX0 (zTs yX0_fitsEveryHeight cX0_fitsEveryHeight 4 (some .boolean)) A_ := C0
  refine z_eqL (L1 := [(0, .ref ck), (1, .ref p), (2, .int (nI i))]) rfl ?_
  refine z_iconst 1 C0 (v := (nI 0)) dX0_fitsEveryHeight_0 rfl rfl ?_
  refine z_istore_n 2 C0 [1, 2, 3, 0] [(0, .ref ck), (1, .ref p), (2, .int (nI i)), (3, .int (nI 0))] dX0_fitsEveryHeight_1 rfl rfl (by decide) rfl ?_
  have CUT2 : ∀ (N2 : Nat) (h : Nat), (h ≤ 9) → (∀ x, x < h → hasB (hm i) x → pNeed kd o ≤ x ∧ x + gU o - gD o ≤ 8) → 9 - h < N2 → Z E p_ l_ e_ ({ frames := 1, cells := 0, slots := 0, locals := 25 } : Room) s_ m_ args_ below_ meth_ c_ (MQ below_ (va_Qi (fun r_ w_ => (r_ = (zb (∀ h, h < 9 → hasB (hm i) h → pNeed kd o ≤ h ∧ h + gU o - gD o ≤ 8)) ∧ w_ = [(ck, zo 0 [.ref ch, .ref cr, .int (nI rc)]), (ch, zi E 64 (zn hm)), (p, zo 5 [.int (nI kd), .ref po, .ref pn, .int (nI len)]), (po, zi E 64 op), (pn, zi E 64 nn)])) (zPost E A_) A_) args_ s_ 0 0 A_) A_ 4 2 [(0, .ref ck), (1, .ref p), (2, .int (nI i)), (3, .int (nI h))] [] [(ck, zo 0 [.ref ch, .ref cr, .int (nI rc)]), (ch, zi E 64 (zn hm)), (p, zo 5 [.int (nI kd), .ref po, .ref pn, .int (nI len)]), (po, zi E 64 op), (pn, zi E 64 nn)] 0 0 := by
    intro N2
    induction N2 with
    | zero => intro h hh hall hm2; exact absurd hm2 (Nat.not_lt_zero _)
    | succ N2 ih2 =>
      intro h hh hall hm2
      refine z_iload_n 3 C0 3 dX0_fitsEveryHeight_2 rfl rfl rfl ?_
      refine z_bipush 5 C0 (v := (nI 9)) dX0_fitsEveryHeight_3 rfl rfl ?_
      refine z_icmp_geN 8 35 C0 (by omega) (by decide) dX0_fitsEveryHeight_5 rfl (by decide) (fun k5 => ?_) (fun k5 => ?_)
      · skip
        refine z_iconst 36 C0 (v := (nI 1)) dX0_fitsEveryHeight_35 rfl rfl ?_
        exact z_zret C0 rfl rfl dX0_fitsEveryHeight_36 ⟨(zb_tN (fun x hx hb => hall x (by omega) hb)), rfl⟩ (by decide) (by decide)
      · skip
        refine z_aload_n 9 C0 0 dX0_fitsEveryHeight_8 rfl rfl rfl ?_
        refine z_iload_n 10 C0 2 dX0_fitsEveryHeight_9 rfl rfl rfl ?_
        refine z_iload_n 11 C0 3 dX0_fitsEveryHeight_10 rfl rfl rfl ?_
        refine z_callVi 14 C0 [0, 1] [2, 3, 4] [(p, zo 5 [.int (nI kd), .ref po, .ref pn, .int (nI len)]), (po, zi E 64 op), (pn, zi E 64 nn)] 0 0 (As := [.int (nI i), .int (nI h)]) (T := TX0) (N := 3) (C := RX0) (ci := 0) (n := 2) 0 (hasHeight l_ E ck ch cr hm rc i h (by omega) (by omega) (hm5)) (zGIV (fun _ => zTs_in) wk_261 wk_258 wk_259 wk_260 wk_16) rfl ⟨rfl, by decide, by decide, by decide +kernel⟩ rfl rfl rfl rfl (by decide) rfl rfl (Nat.le_of_ble_eq_true rfl) ⟨by decide, by decide⟩ rfl rfl ⟨by decide, by decide⟩ ⟨by decide, by decide⟩ dX0_fitsEveryHeight_11 rfl (fun r11 w11 hB11 => ?_)
        obtain ⟨rfl, rfl⟩ := hB11
        refine z_perm [3, 4, 0, 1, 2] [(ck, zo 0 [.ref ch, .ref cr, .int (nI rc)]), (ch, zi E 64 (zn hm)), (p, zo 5 [.int (nI kd), .ref po, .ref pn, .int (nI len)]), (po, zi E 64 op), (pn, zi E 64 nn)] (by decide) rfl ?_
        refine z_if_eqP 17 29 C0 dX0_fitsEveryHeight_14 rfl (by decide) (fun k14 => ?_) (fun k14 => ?_)
        · skip
          refine z_iinc 32 C0 3 [1, 2, 3, 0] [(0, .ref ck), (1, .ref p), (2, .int (nI i)), (3, .int (nI (h + 1)))] (v := (nI (h + 1))) dX0_fitsEveryHeight_29 rfl rfl (z_incN _ _) (by decide) rfl ?_
          refine z_goto 2 C0 dX0_fitsEveryHeight_32 (by decide) ?_
          exact ih2 (h + 1) (by omega) (fun x hx hb => by rcases Nat.lt_or_ge x h with q | q; exact hall x q hb; obtain rfl : x = h := (by omega); first | exact absurd hb k14 | exact k24) (by omega)
        · skip
          refine z_aload_n 18 C0 0 dX0_fitsEveryHeight_17 rfl rfl rfl ?_
          refine z_aload_n 19 C0 1 dX0_fitsEveryHeight_18 rfl rfl rfl ?_
          refine z_iload_n 20 C0 2 dX0_fitsEveryHeight_19 rfl rfl rfl ?_
          refine z_iload_n 21 C0 3 dX0_fitsEveryHeight_20 rfl rfl rfl ?_
          refine z_callVi 24 C0 [0, 2, 3, 4] [1] [(ch, zi E 64 (zn hm))] 0 0 (As := [.ref p, .int (nI i), .int (nI h)]) (T := TX0) (N := 3) (C := RX0) (ci := 0) (n := 3) 0 (fits l_ E ck ch cr rc p po pn kd op nn len i h o (by omega) (by omega) (hop) (by omega) (by omega)) (zGIV (fun _ => zTs_in) wk_291 wk_288 wk_289 wk_290 wk_16) rfl ⟨rfl, by decide, by decide, by decide +kernel⟩ rfl rfl rfl rfl (by decide) rfl rfl (Nat.le_of_ble_eq_true rfl) ⟨by decide, by decide⟩ rfl rfl ⟨by decide, by decide⟩ ⟨by decide, by decide⟩ dX0_fitsEveryHeight_21 rfl (fun r21 w21 hB21 => ?_)
          obtain ⟨rfl, rfl⟩ := hB21
          refine z_perm [1, 0, 2, 3, 4] [(ck, zo 0 [.ref ch, .ref cr, .int (nI rc)]), (ch, zi E 64 (zn hm)), (p, zo 5 [.int (nI kd), .ref po, .ref pn, .int (nI len)]), (po, zi E 64 op), (pn, zi E 64 nn)] (by decide) rfl ?_
          refine z_if_neP 27 29 C0 dX0_fitsEveryHeight_24 rfl (by decide) (fun k24 => ?_) (fun k24 => ?_)
          · skip
            refine z_iinc 32 C0 3 [1, 2, 3, 0] [(0, .ref ck), (1, .ref p), (2, .int (nI i)), (3, .int (nI (h + 1)))] (v := (nI (h + 1))) dX0_fitsEveryHeight_29 rfl rfl (z_incN _ _) (by decide) rfl ?_
            refine z_goto 2 C0 dX0_fitsEveryHeight_32 (by decide) ?_
            exact ih2 (h + 1) (by omega) (fun x hx hb => by rcases Nat.lt_or_ge x h with q | q; exact hall x q hb; obtain rfl : x = h := (by omega); first | exact absurd hb k14 | exact k24) (by omega)
          · skip
            refine z_iconst 28 C0 (v := (nI 0)) dX0_fitsEveryHeight_27 rfl rfl ?_
            exact z_zret C0 rfl rfl dX0_fitsEveryHeight_28 ⟨(zb_fN (fun q => k24 (q h (by omega) k14))), rfl⟩ (by decide) (by decide)
  exact CUT2 (9 - 0 + 1) 0 (Nat.zero_le _) (fun x hx => absurd hx (Nat.not_lt_zero x)) (Nat.lt_succ_self _)

set_option maxHeartbeats 4000000 in
set_option maxRecDepth 100000 in
theorem isWrong (l_ : Launch) (E : zE) (ck : Nat) (ch : Nat) (cr : Nat) (hm : Nat → Nat) (rc : Nat) (p : Nat) (po : Nat) (pn : Nat) (kd : Nat) (op : Nat → Int32) (nn : Nat → Int32) (len : Nat) (i : Nat) (hi : i < len) (hkd : kd < 4) (hlen : len ≤ 64) (hm5 : hm i < 512) (hS : ∀ h, hasB (hm i) h ↔ Rch kd op nn len i h) : zMi l_ E yX0_isWrong (zTs yX0_isWrong cX0_isWrong 3 (some .boolean)) ({ frames := 2, cells := 0, slots := 0, locals := 48 } : Room) [.ref ck, .ref p, .int (nI i)] [(ck, zo 0 [.ref ch, .ref cr, .int (nI rc)]), (ch, zi E 64 (zn hm)), (p, zo 5 [.int (nI kd), .ref po, .ref pn, .int (nI len)]), (po, zi E 64 op), (pn, zi E 64 nn)] (fun r_ w_ => (r_ = (zb (Wr kd op nn len i)) ∧ w_ = [(ck, zo 0 [.ref ch, .ref cr, .int (nI rc)]), (ch, zi E 64 (zn hm)), (p, zo 5 [.int (nI kd), .ref po, .ref pn, .int (nI len)]), (po, zi E 64 op), (pn, zi E 64 nn)])) 0 0 := by
  refine zMi.of (cc := cX0_isWrong) (nL := 3) (ret := (some .boolean)) (by decide) rfl (Nat.le_of_ble_eq_true rfl) ?_
  intro p_ e_ s_ m_ args_ below_ meth_ c_ A_ C0 hin0
  have C0 : zC E p_ s_ m_ args_ meth_ c_ cX0_isWrong 3 (some .boolean) RX0 (zTs yX0_isWrong cX0_isWrong 3 (some .boolean)) A_ := C0
  refine z_eqL (L1 := [(0, .ref ck), (1, .ref p), (2, .int (nI i))]) rfl ?_
  refine z_aload_n 1 C0 0 dX0_isWrong_0 rfl rfl rfl ?_
  refine z_aload_n 2 C0 1 dX0_isWrong_1 rfl rfl rfl ?_
  refine z_iload_n 3 C0 2 dX0_isWrong_2 rfl rfl rfl ?_
  refine z_callVi 6 C0 [0, 2, 3, 4] [1] [(ch, zi E 64 (zn hm))] 0 0 (As := [.ref p, .int (nI i)]) (T := TX0) (N := 3) (C := RX0) (ci := 0) (n := 2) 0 (isMisformed l_ E ck ch cr rc p po pn kd op nn len i (by omega) (by omega) (by omega)) (zGIV (fun _ => zTs_in) wk_269 wk_266 wk_267 wk_268 wk_16) rfl ⟨rfl, by decide, by decide, by decide +kernel⟩ rfl rfl rfl rfl (by decide) rfl rfl (Nat.le_of_ble_eq_true rfl) ⟨by decide, by decide⟩ rfl rfl ⟨by decide, by decide⟩ ⟨by decide, by decide⟩ dX0_isWrong_3 rfl (fun r3 w3 hB3 => ?_)
  obtain ⟨rfl, rfl⟩ := hB3
  refine z_perm [1, 0, 2, 3, 4] [(ck, zo 0 [.ref ch, .ref cr, .int (nI rc)]), (ch, zi E 64 (zn hm)), (p, zo 5 [.int (nI kd), .ref po, .ref pn, .int (nI len)]), (po, zi E 64 op), (pn, zi E 64 nn)] (by decide) rfl ?_
  refine z_if_eqP 9 11 C0 dX0_isWrong_6 rfl (by decide) (fun k6 => ?_) (fun k6 => ?_)
  · skip
    obtain ⟨o, ho⟩ := Classical.not_not.mp k6
    have hbl := bitc_le (hm i)
    refine z_aload_n 12 C0 0 dX0_isWrong_11 rfl rfl rfl ?_
    refine z_get 15 C0 0 0 wz_0 rfl (by decide) (zTs_in wk_95) dX0_isWrong_12 rfl rfl rfl ?_
    refine z_iload_n 16 C0 2 dX0_isWrong_15 rfl rfl rfl ?_
    refine z_ialdN 17 C0 1 (v := (nI (hm i))) dX0_isWrong_16 rfl rfl (by omega) (by decide) rfl ?_
    refine z_if_neN 20 22 C0 (by omega) dX0_isWrong_17 rfl (by decide) (fun k17 => ?_) (fun k17 => ?_)
    · skip
      refine z_aload_n 23 C0 0 dX0_isWrong_22 rfl rfl rfl ?_
      refine z_get 26 C0 0 0 wz_0 rfl (by decide) (zTs_in wk_95) dX0_isWrong_23 rfl rfl rfl ?_
      refine z_iload_n 27 C0 2 dX0_isWrong_26 rfl rfl rfl ?_
      refine z_ialdN 28 C0 1 (v := (nI (hm i))) dX0_isWrong_27 rfl rfl (by omega) (by decide) rfl ?_
      refine z_callSi 31 C0 [] [0, 1, 2, 3, 4] [(ck, zo 0 [.ref ch, .ref cr, .int (nI rc)]), (ch, zi E 64 (zn hm)), (p, zo 5 [.int (nI kd), .ref po, .ref pn, .int (nI len)]), (po, zi E 64 op), (pn, zi E 64 nn)] 0 0 (As := [.int (nI (hm i))]) (n := 1) (bitCount l_ E (nI (hm i)) ) (zGIS (fun _ => zTs_in) wk_302 wk_300 wk_301 wk_22) rfl ⟨by decide, by decide, by decide +kernel⟩ rfl rfl (by decide) rfl rfl (Nat.le_of_ble_eq_true rfl) ⟨by decide, by decide⟩ rfl rfl ⟨by decide, by decide⟩ ⟨by decide, by decide⟩ dX0_isWrong_28 rfl (fun r28 w28 hB28 => ?_)
      obtain ⟨rfl, rfl⟩ := hB28
      refine z_perm [0, 1, 2, 3, 4] [(ck, zo 0 [.ref ch, .ref cr, .int (nI rc)]), (ch, zi E 64 (zn hm)), (p, zo 5 [.int (nI kd), .ref po, .ref pn, .int (nI len)]), (po, zi E 64 op), (pn, zi E 64 nn)] (by decide) rfl ?_
      refine z_eq (L1 := [(0, .ref ck), (1, .ref p), (2, .int (nI i))]) (st1 := [.int (nI (bitc (hm i)))]) (w1 := [(ck, zo 0 [.ref ch, .ref cr, .int (nI rc)]), (ch, zi E 64 (zn hm)), (p, zo 5 [.int (nI kd), .ref po, .ref pn, .int (nI len)]), (po, zi E 64 op), (pn, zi E 64 nn)]) rfl (by rw [bcE_eq _ hm5]) rfl ?_
      refine z_iconst 32 C0 (v := (nI 1)) dX0_isWrong_31 rfl rfl ?_
      refine z_icmp_gtN 35 53 C0 (by omega) (by decide) dX0_isWrong_32 rfl (by decide) (fun k32 => ?_) (fun k32 => ?_)
      · skip
        refine z_iconst 54 C0 (v := (nI 1)) dX0_isWrong_53 rfl rfl ?_
        refine z_goto 58 C0 dX0_isWrong_54 (by decide) ?_
        exact z_zret C0 rfl rfl dX0_isWrong_58 ⟨(zb_tN (by first | exact isW_two hm5 hS k32 | exact isW_nx ho hm5 hS k17 k41 | exact isW_fit ho hS k50)), rfl⟩ (by decide) (by decide)
      · skip
        refine z_aload_n 36 C0 0 dX0_isWrong_35 rfl rfl rfl ?_
        refine z_aload_n 37 C0 1 dX0_isWrong_36 rfl rfl rfl ?_
        refine z_iload_n 38 C0 2 dX0_isWrong_37 rfl rfl rfl ?_
        refine z_callVi 41 C0 [0, 2, 3, 4] [1] [(ch, zi E 64 (zn hm))] 0 0 (As := [.ref p, .int (nI i)]) (T := TX0) (N := 3) (C := RX0) (ci := 0) (n := 2) 0 (lacksNext l_ E ck ch cr rc p po pn kd op nn len i o (by omega) (ho.1) (ho.2.1) (by omega)) (zGIV (fun _ => zTs_in) wk_284 wk_281 wk_282 wk_283 wk_16) rfl ⟨rfl, by decide, by decide, by decide +kernel⟩ rfl rfl rfl rfl (by decide) rfl rfl (Nat.le_of_ble_eq_true rfl) ⟨by decide, by decide⟩ rfl rfl ⟨by decide, by decide⟩ ⟨by decide, by decide⟩ dX0_isWrong_38 rfl (fun r38 w38 hB38 => ?_)
        obtain ⟨rfl, rfl⟩ := hB38
        refine z_perm [1, 0, 2, 3, 4] [(ck, zo 0 [.ref ch, .ref cr, .int (nI rc)]), (ch, zi E 64 (zn hm)), (p, zo 5 [.int (nI kd), .ref po, .ref pn, .int (nI len)]), (po, zi E 64 op), (pn, zi E 64 nn)] (by decide) rfl ?_
        refine z_if_neP 44 53 C0 dX0_isWrong_41 rfl (by decide) (fun k41 => ?_) (fun k41 => ?_)
        · skip
          refine z_iconst 54 C0 (v := (nI 1)) dX0_isWrong_53 rfl rfl ?_
          refine z_goto 58 C0 dX0_isWrong_54 (by decide) ?_
          exact z_zret C0 rfl rfl dX0_isWrong_58 ⟨(zb_tN (by first | exact isW_two hm5 hS k32 | exact isW_nx ho hm5 hS k17 k41 | exact isW_fit ho hS k50)), rfl⟩ (by decide) (by decide)
        · skip
          refine z_aload_n 45 C0 0 dX0_isWrong_44 rfl rfl rfl ?_
          refine z_aload_n 46 C0 1 dX0_isWrong_45 rfl rfl rfl ?_
          refine z_iload_n 47 C0 2 dX0_isWrong_46 rfl rfl rfl ?_
          refine z_callVi 50 C0 [0, 1, 2, 3, 4] [] [] 0 0 (As := [.ref p, .int (nI i)]) (T := TX0) (N := 3) (C := RX0) (ci := 0) (n := 2) 0 (fitsEvery l_ E ck ch cr hm rc p po pn kd op nn len i o (by omega) (ho.1) (ho.2.1) (by omega) (hm5)) (zGIV (fun _ => zTs_in) wk_309 wk_306 wk_307 wk_308 wk_16) rfl ⟨rfl, by decide, by decide, by decide +kernel⟩ rfl rfl rfl rfl (by decide) rfl rfl (Nat.le_of_ble_eq_true rfl) ⟨by decide, by decide⟩ rfl rfl ⟨by decide, by decide⟩ ⟨by decide, by decide⟩ dX0_isWrong_47 rfl (fun r47 w47 hB47 => ?_)
          obtain ⟨rfl, rfl⟩ := hB47
          refine z_perm [0, 1, 2, 3, 4] [(ck, zo 0 [.ref ch, .ref cr, .int (nI rc)]), (ch, zi E 64 (zn hm)), (p, zo 5 [.int (nI kd), .ref po, .ref pn, .int (nI len)]), (po, zi E 64 op), (pn, zi E 64 nn)] (by decide) rfl ?_
          refine z_if_neP 53 57 C0 dX0_isWrong_50 rfl (by decide) (fun k50 => ?_) (fun k50 => ?_)
          · skip
            refine z_iconst 58 C0 (v := (nI 0)) dX0_isWrong_57 rfl rfl ?_
            exact z_zret C0 rfl rfl dX0_isWrong_58 ⟨(zb_fN (fun q => isW_f ho hm5 hS k32 k41 k50 q)), rfl⟩ (by decide) (by decide)
          · skip
            refine z_iconst 54 C0 (v := (nI 1)) dX0_isWrong_53 rfl rfl ?_
            refine z_goto 58 C0 dX0_isWrong_54 (by decide) ?_
            exact z_zret C0 rfl rfl dX0_isWrong_58 ⟨(zb_tN (by first | exact isW_two hm5 hS k32 | exact isW_nx ho hm5 hS k17 k41 | exact isW_fit ho hS k50)), rfl⟩ (by decide) (by decide)
    · skip
      refine z_iconst 21 C0 (v := (nI 0)) dX0_isWrong_20 rfl rfl ?_
      exact z_zret C0 rfl rfl dX0_isWrong_21 ⟨(zb_fN (wr_0 ⟨o, ho⟩ (fun x q => by have := (hS x).mpr q; rw [k17] at this; exact hb_0 x this))), rfl⟩ (by decide) (by decide)
  · skip
    refine z_iconst 10 C0 (v := (nI 1)) dX0_isWrong_9 rfl rfl ?_
    exact z_zret C0 rfl rfl dX0_isWrong_10 ⟨(zb_tN (Or.inl k6)), rfl⟩ (by decide) (by decide)

set_option maxHeartbeats 4000000 in
set_option maxRecDepth 100000 in
theorem reach (l_ : Launch) (E : zE) (ck : Nat) (ch : Nat) (cr : Nat) (hm : Nat → Nat) (rr_ : Nat → Nat) (rc : Nat) (kd : Nat) (op : Nat → Int32) (nn : Nat → Int32) (len : Nat) (i : Nat) (h : Nat) (hQ : QS kd op nn len hm rr_ rc) (hi : i < 64) (hh : h ≤ 8) (hR : Rch kd op nn len i h) : zMv l_ E yX0_reach (zTs yX0_reach cX0_reach 3 none) ({ frames := 1, cells := 0, slots := 0, locals := 22 } : Room) [.ref ck, .int (nI i), .int (nI h)] [(ck, zo 0 [.ref ch, .ref cr, .int (nI rc)]), (ch, zi E 64 (zn hm)), (cr, zi E 576 (zn rr_))] (fun w_ => ∃ hm2 : Nat → Nat, ∃ rr2 : Nat → Nat, ∃ rc2 : Nat, (w_ = [(ck, zo 0 [.ref ch, .ref cr, .int (nI rc2)]), (ch, zi E 64 (zn hm2)), (cr, zi E 576 (zn rr2))]) ∧ (QS kd op nn len hm2 rr2 rc2) ∧ (QE hm rr_ rc hm2 rr2 rc2) ∧ (hasB (hm2 i) h)) 0 0 := by
  refine zMv.of (cc := cX0_reach) (nL := 3) (ret := none) (by decide) rfl (Nat.le_of_ble_eq_true rfl) ?_
  intro p_ e_ s_ m_ args_ below_ meth_ c_ A_ C0 hin0
  have C0 : zC E p_ s_ m_ args_ meth_ c_ cX0_reach 3 none RX0 (zTs yX0_reach cX0_reach 3 none) A_ := C0
  refine z_eqL (L1 := [(0, .ref ck), (1, .int (nI i)), (2, .int (nI h))]) rfl ?_
  refine z_iload_n 1 C0 1 dX0_reach_0 rfl rfl rfl ?_
  refine z_if_ltN 4 C0 20 (by omega) dX0_reach_1 rfl (by decide) ?_
  refine z_iload_n 5 C0 1 dX0_reach_4 rfl rfl rfl ?_
  refine z_bipush 7 C0 (v := (nI 64)) dX0_reach_5 rfl rfl ?_
  refine z_icmp_geN 10 20 C0 (by omega) (by decide) dX0_reach_7 rfl (by decide) (fun k7 => absurd k7 (by omega)) (fun k7 => ?_)
  refine z_iload_n 11 C0 2 dX0_reach_10 rfl rfl rfl ?_
  refine z_if_ltN 14 C0 20 (by omega) dX0_reach_11 rfl (by decide) ?_
  refine z_iload_n 15 C0 2 dX0_reach_14 rfl rfl rfl ?_
  refine z_bipush 17 C0 (v := (nI 8)) dX0_reach_15 rfl rfl ?_
  refine z_icmp_leN 20 21 C0 (by omega) (by decide) dX0_reach_17 rfl (by decide) (fun k17 => ?_) (fun k17 => absurd k17 (by omega))
  refine z_aload_n 22 C0 0 dX0_reach_21 rfl rfl rfl ?_
  refine z_iload_n 23 C0 1 dX0_reach_22 rfl rfl rfl ?_
  refine z_iload_n 24 C0 2 dX0_reach_23 rfl rfl rfl ?_
  refine z_callVi 27 C0 [0, 1] [2] [(cr, zi E 576 (zn rr_))] 0 0 (As := [.int (nI i), .int (nI h)]) (T := TX0) (N := 3) (C := RX0) (ci := 0) (n := 2) 0 (hasHeight l_ E ck ch cr hm rc i h (by omega) (by omega) (hQ.2.2.2 i)) (zGIV (fun _ => zTs_in) wk_261 wk_258 wk_259 wk_260 wk_16) rfl ⟨rfl, by decide, by decide, by decide +kernel⟩ rfl rfl rfl rfl (by decide) rfl rfl (Nat.le_of_ble_eq_true rfl) ⟨by decide, by decide⟩ rfl rfl ⟨by decide, by decide⟩ ⟨by decide, by decide⟩ dX0_reach_24 rfl (fun r24 w24 hB24 => ?_)
  obtain ⟨rfl, rfl⟩ := hB24
  refine z_perm [1, 2, 0] [(ck, zo 0 [.ref ch, .ref cr, .int (nI rc)]), (ch, zi E 64 (zn hm)), (cr, zi E 576 (zn rr_))] (by decide) rfl ?_
  refine z_if_neP 30 42 C0 dX0_reach_27 rfl (by decide) (fun k27 => ?_) (fun k27 => ?_)
  · skip
    exact z_vret C0 rfl dX0_reach_42 ⟨hm, rr_, rc, rfl, (hQ), (QE.rf), (k27)⟩ (by decide) (by decide)
  · skip
    have hrc : rc < 576 := by rw [hQ.2.2.1]; exact cntB_lt hi (by omega) (hQ.2.2.2 i) k27
    refine z_aload_n 31 C0 0 dX0_reach_30 rfl rfl rfl ?_
    refine z_get 34 C0 0 2 wz_0 rfl (by decide) (zTs_in wk_97) dX0_reach_31 rfl rfl rfl ?_
    refine z_aload_n 35 C0 0 dX0_reach_34 rfl rfl rfl ?_
    refine z_get 38 C0 0 1 wz_0 rfl (by decide) (zTs_in wk_96) dX0_reach_35 rfl rfl rfl ?_
    refine z_alen 39 C0 2 dX0_reach_38 rfl rfl ?_
    refine z_icmp_ltN 42 43 C0 (by omega) (by decide) dX0_reach_39 rfl (by decide) (fun k39 => ?_) (fun k39 => absurd k39 (by omega))
    refine z_aload_n 44 C0 0 dX0_reach_43 rfl rfl rfl ?_
    refine z_get 47 C0 0 0 wz_0 rfl (by decide) (zTs_in wk_95) dX0_reach_44 rfl rfl rfl ?_
    refine z_iload_n 48 C0 1 dX0_reach_47 rfl rfl rfl ?_
    refine z_dup2 49 C0 dX0_reach_48 rfl rfl rfl ?_
    refine z_ialdN 50 C0 1 (v := (nI (hm i))) dX0_reach_49 rfl rfl (by omega) (by decide) rfl ?_
    refine z_iconst 51 C0 (v := (nI 1)) dX0_reach_50 rfl rfl ?_
    refine z_iload_n 52 C0 2 dX0_reach_51 rfl rfl rfl ?_
    refine z_ishl 53 C0 (v := (nI 1 <<< (nI h &&& 31))) dX0_reach_52 rfl rfl ?_
    refine z_ior 54 C0 (v := (nI (hm i + 2 ^ h))) dX0_reach_53 rfl (hb_or _ (hQ.2.2.2 i) _ (by omega) k27) ?_
    refine z_iastN 55 C0 1 [(ck, zo 0 [.ref ch, .ref cr, .int (nI rc)]), (ch, zi E 64 (zn (va_up hm i (hm i + 2 ^ h)))), (cr, zi E 576 (zn rr_))] dX0_reach_54 rfl rfl (by omega) (by decide) (by rw [z_upN]; rfl) ?_
    refine z_aload_n 56 C0 0 dX0_reach_55 rfl rfl rfl ?_
    refine z_get 59 C0 0 1 wz_0 rfl (by decide) (zTs_in wk_96) dX0_reach_56 rfl rfl rfl ?_
    refine z_aload_n 60 C0 0 dX0_reach_59 rfl rfl rfl ?_
    refine z_get 63 C0 0 2 wz_0 rfl (by decide) (zTs_in wk_97) dX0_reach_60 rfl rfl rfl ?_
    refine z_iload_n 64 C0 1 dX0_reach_63 rfl rfl rfl ?_
    refine z_bipush 66 C0 (v := (nI 9)) dX0_reach_64 rfl rfl ?_
    refine z_imul 67 C0 (v := (nI (i * 9))) dX0_reach_66 rfl (pk_mul _ _) ?_
    refine z_iload_n 68 C0 2 dX0_reach_67 rfl rfl rfl ?_
    refine z_iadd 69 C0 (v := (nI ((i * 9) + h))) dX0_reach_68 rfl (nI_add _ _) ?_
    refine z_iastN 70 C0 2 [(ck, zo 0 [.ref ch, .ref cr, .int (nI rc)]), (ch, zi E 64 (zn (va_up hm i (hm i + 2 ^ h)))), (cr, zi E 576 (zn (va_up rr_ rc ((i * 9) + h))))] dX0_reach_69 rfl rfl (by omega) (by decide) (by rw [z_upN]; rfl) ?_
    refine z_aload_n 71 C0 0 dX0_reach_70 rfl rfl rfl ?_
    refine z_dup 72 C0 dX0_reach_71 rfl rfl ?_
    refine z_get 75 C0 0 2 wz_0 rfl (by decide) (zTs_in wk_97) dX0_reach_72 rfl rfl rfl ?_
    refine z_iconst 76 C0 (v := (nI 1)) dX0_reach_75 rfl rfl ?_
    refine z_iadd 77 C0 (v := (nI (rc + 1))) dX0_reach_76 rfl (nI_add _ _) ?_
    refine z_put 80 C0 0 2 [(ck, zo 0 [.ref ch, .ref cr, .int (nI (rc + 1))]), (ch, zi E 64 (zn (va_up hm i (hm i + 2 ^ h)))), (cr, zi E 576 (zn (va_up rr_ rc ((i * 9) + h))))] wz_0 rfl (by decide) (zTs_in wk_97) tyX0 tyX0_ok nmX0 rfl rfl rfl rfl dX0_reach_77 rfl rfl (Nat.le_of_ble_eq_true rfl) rfl ?_
    have hadd := hQ.add hi (by omega) k27 hR
    exact z_vret C0 rfl dX0_reach_80 ⟨(va_up hm i (hm i + 2 ^ h)), (va_up rr_ rc (i * 9 + h)), (rc + 1), rfl, (hadd.1), (hadd.2.1), (hadd.2.2)⟩ (by decide) (by decide)

set_option maxHeartbeats 4000000 in
set_option maxRecDepth 100000 in
theorem goOn (l_ : Launch) (E : zE) (ck : Nat) (ch : Nat) (cr : Nat) (hm : Nat → Nat) (rr_ : Nat → Nat) (rc : Nat) (p : Nat) (po : Nat) (pn : Nat) (kd : Nat) (op : Nat → Int32) (nn : Nat → Int32) (len : Nat) (i : Nat) (h : Nat) (hQ : QS kd op nn len hm rr_ rc) (hi : i < len) (hh : h ≤ 8) (hR : Rch kd op nn len i h) (hkd : kd < 4) (hlen : len ≤ 64) : zMv l_ E yX0_goOn (zTs yX0_goOn cX0_goOn 6 none) ({ frames := 2, cells := 0, slots := 0, locals := 45 } : Room) [.ref ck, .ref p, .int (nI i), .int (nI h)] [(ck, zo 0 [.ref ch, .ref cr, .int (nI rc)]), (ch, zi E 64 (zn hm)), (cr, zi E 576 (zn rr_)), (p, zo 5 [.int (nI kd), .ref po, .ref pn, .int (nI len)]), (po, zi E 64 op), (pn, zi E 64 nn)] (fun w_ => ∃ hm2 : Nat → Nat, ∃ rr2 : Nat → Nat, ∃ rc2 : Nat, (w_ = [(ck, zo 0 [.ref ch, .ref cr, .int (nI rc2)]), (ch, zi E 64 (zn hm2)), (cr, zi E 576 (zn rr2)), (p, zo 5 [.int (nI kd), .ref po, .ref pn, .int (nI len)]), (po, zi E 64 op), (pn, zi E 64 nn)]) ∧ (QS kd op nn len hm2 rr2 rc2) ∧ (QE hm rr_ rc hm2 rr2 rc2) ∧ (∀ i2 h2, Suc kd op nn len i h i2 h2 → hasB (hm2 i2) h2)) 0 0 := by
  refine zMv.of (cc := cX0_goOn) (nL := 6) (ret := none) (by decide) rfl (Nat.le_of_ble_eq_true rfl) ?_
  intro p_ e_ s_ m_ args_ below_ meth_ c_ A_ C0 hin0
  have C0 : zC E p_ s_ m_ args_ meth_ c_ cX0_goOn 6 none RX0 (zTs yX0_goOn cX0_goOn 6 none) A_ := C0
  refine z_eqL (L1 := [(0, .ref ck), (1, .ref p), (2, .int (nI i)), (3, .int (nI h))]) rfl ?_
  refine z_aload_n 1 C0 0 dX0_goOn_0 rfl rfl rfl ?_
  refine z_aload_n 2 C0 1 dX0_goOn_1 rfl rfl rfl ?_
  refine z_iload_n 3 C0 2 dX0_goOn_2 rfl rfl rfl ?_
  refine z_callVi 6 C0 [0, 3, 4, 5] [1, 2] [(ch, zi E 64 (zn hm)), (cr, zi E 576 (zn rr_))] 0 0 (As := [.ref p, .int (nI i)]) (T := TX0) (N := 3) (C := RX0) (ci := 0) (n := 2) 0 (isMisformed l_ E ck ch cr rc p po pn kd op nn len i (by omega) (by omega) (by omega)) (zGIV (fun _ => zTs_in) wk_269 wk_266 wk_267 wk_268 wk_16) rfl ⟨rfl, by decide, by decide, by decide +kernel⟩ rfl rfl rfl rfl (by decide) rfl rfl (Nat.le_of_ble_eq_true rfl) ⟨by decide, by decide⟩ rfl rfl ⟨by decide, by decide⟩ ⟨by decide, by decide⟩ dX0_goOn_3 rfl (fun r3 w3 hB3 => ?_)
  obtain ⟨rfl, rfl⟩ := hB3
  refine z_perm [2, 0, 1, 3, 4, 5] [(ck, zo 0 [.ref ch, .ref cr, .int (nI rc)]), (ch, zi E 64 (zn hm)), (cr, zi E 576 (zn rr_)), (p, zo 5 [.int (nI kd), .ref po, .ref pn, .int (nI len)]), (po, zi E 64 op), (pn, zi E 64 nn)] (by decide) rfl ?_
  refine z_if_neP 9 28 C0 dX0_goOn_6 rfl (by decide) (fun k6 => ?_) (fun k6 => ?_)
  · skip
    exact z_vret C0 rfl dX0_goOn_28 ⟨hm, rr_, rc, rfl, (hQ), (QE.rf), (fun i2 h2 ⟨o2, q, _, _⟩ => by exact absurd ⟨o2, q.1⟩ k6)⟩ (by decide) (by decide)
  · skip
    obtain ⟨o, ho⟩ := Classical.not_not.mp k6
    refine z_aload_n 10 C0 0 dX0_goOn_9 rfl rfl rfl ?_
    refine z_aload_n 11 C0 1 dX0_goOn_10 rfl rfl rfl ?_
    refine z_iload_n 12 C0 2 dX0_goOn_11 rfl rfl rfl ?_
    refine z_callVi 15 C0 [0, 3, 4, 5] [1, 2] [(ch, zi E 64 (zn hm)), (cr, zi E 576 (zn rr_))] 0 0 (As := [.ref p, .int (nI i)]) (T := TX0) (N := 3) (C := RX0) (ci := 0) (n := 2) 0 (lacksNext l_ E ck ch cr rc p po pn kd op nn len i o (by omega) (ho.1) (ho.2.1) (by omega)) (zGIV (fun _ => zTs_in) wk_284 wk_281 wk_282 wk_283 wk_16) rfl ⟨rfl, by decide, by decide, by decide +kernel⟩ rfl rfl rfl rfl (by decide) rfl rfl (Nat.le_of_ble_eq_true rfl) ⟨by decide, by decide⟩ rfl rfl ⟨by decide, by decide⟩ ⟨by decide, by decide⟩ dX0_goOn_12 rfl (fun r12 w12 hB12 => ?_)
    obtain ⟨rfl, rfl⟩ := hB12
    refine z_perm [2, 0, 1, 3, 4, 5] [(ck, zo 0 [.ref ch, .ref cr, .int (nI rc)]), (ch, zi E 64 (zn hm)), (cr, zi E 576 (zn rr_)), (p, zo 5 [.int (nI kd), .ref po, .ref pn, .int (nI len)]), (po, zi E 64 op), (pn, zi E 64 nn)] (by decide) rfl ?_
    refine z_if_neP 18 28 C0 dX0_goOn_15 rfl (by decide) (fun k15 => ?_) (fun k15 => ?_)
    · skip
      exact z_vret C0 rfl dX0_goOn_28 ⟨hm, rr_, rc, rfl, (hQ), (QE.rf), (fun i2 h2 ⟨o2, q, _, _⟩ => by (have e := pOK_uniq ho.1 ho.2.1 q.1; rw [e] at q; exact absurd (q.2.1 k15.1) k15.2))⟩ (by decide) (by decide)
    · skip
      refine z_aload_n 19 C0 0 dX0_goOn_18 rfl rfl rfl ?_
      refine z_aload_n 20 C0 1 dX0_goOn_19 rfl rfl rfl ?_
      refine z_iload_n 21 C0 2 dX0_goOn_20 rfl rfl rfl ?_
      refine z_iload_n 22 C0 3 dX0_goOn_21 rfl rfl rfl ?_
      refine z_callVi 25 C0 [0, 3, 4, 5] [1, 2] [(ch, zi E 64 (zn hm)), (cr, zi E 576 (zn rr_))] 0 0 (As := [.ref p, .int (nI i), .int (nI h)]) (T := TX0) (N := 3) (C := RX0) (ci := 0) (n := 3) 0 (fits l_ E ck ch cr rc p po pn kd op nn len i h o (by omega) (ho.1) (ho.2.1) (by omega) (by omega)) (zGIV (fun _ => zTs_in) wk_291 wk_288 wk_289 wk_290 wk_16) rfl ⟨rfl, by decide, by decide, by decide +kernel⟩ rfl rfl rfl rfl (by decide) rfl rfl (Nat.le_of_ble_eq_true rfl) ⟨by decide, by decide⟩ rfl rfl ⟨by decide, by decide⟩ ⟨by decide, by decide⟩ dX0_goOn_22 rfl (fun r22 w22 hB22 => ?_)
      obtain ⟨rfl, rfl⟩ := hB22
      refine z_perm [2, 0, 1, 3, 4, 5] [(ck, zo 0 [.ref ch, .ref cr, .int (nI rc)]), (ch, zi E 64 (zn hm)), (cr, zi E 576 (zn rr_)), (p, zo 5 [.int (nI kd), .ref po, .ref pn, .int (nI len)]), (po, zi E 64 op), (pn, zi E 64 nn)] (by decide) rfl ?_
      refine z_if_neP 28 29 C0 dX0_goOn_25 rfl (by decide) (fun k25 => ?_) (fun k25 => ?_)
      · skip
        have hgd := gD_le ho.1
        have hpn : gD o ≤ h := by have h1 := k25.1; unfold pNeed at h1; split at h1 <;> omega
        have hok : okS kd op nn len i h o := ⟨ho, fun q => Classical.byContradiction fun z => k15 ⟨q, z⟩, k25.1, k25.2⟩
        refine z_aload_n 30 C0 1 dX0_goOn_29 rfl rfl rfl ?_
        refine z_get 33 C0 3 1 wz_5 rfl (by decide) (zTs_in wk_72) dX0_goOn_30 rfl rfl rfl ?_
        refine z_iload_n 34 C0 2 dX0_goOn_33 rfl rfl rfl ?_
        refine z_ialdN 35 C0 4 (v := (nI o)) dX0_goOn_34 rfl rfl (by omega) (by decide) ho.2.1 ?_
        refine z_istore 37 C0 [1, 2, 3, 4, 0] [(0, .ref ck), (1, .ref p), (2, .int (nI i)), (3, .int (nI h)), (4, .int (nI o))] dX0_goOn_35 rfl (by decide) rfl ?_
        refine z_iload_n 38 C0 3 dX0_goOn_37 rfl rfl rfl ?_
        refine z_getsG 41 C0 (zTs_in wk_294) dX0_goOn_38 rfl ?_
        refine z_iload 43 C0 4 dX0_goOn_41 rfl rfl ?_
        refine z_tabG 44 C0 (v := (zGrow o)) dX0_goOn_43 rfl (by have := ho.1; omega) rfl ?_
        refine z_iadd 45 C0 (v := (nI (h + gU o - gD o))) dX0_goOn_44 rfl (grow_eq ho.1 hpn) ?_
        refine z_istore 47 C0 [1, 2, 3, 4, 5, 0] [(0, .ref ck), (1, .ref p), (2, .int (nI i)), (3, .int (nI h)), (4, .int (nI o)), (5, .int (nI (h + gU o - gD o)))] dX0_goOn_45 rfl (by decide) rfl ?_
        refine z_iload 49 C0 4 dX0_goOn_47 rfl rfl ?_
        refine z_callSNi 52 C0 [] [0, 1, 2, 3, 4, 5] [(ck, zo 0 [.ref ch, .ref cr, .int (nI rc)]), (ch, zi E 64 (zn hm)), (cr, zi E 576 (zn rr_)), (p, zo 5 [.int (nI kd), .ref po, .ref pn, .int (nI len)]), (po, zi E 64 op), (pn, zi E 64 nn)] 0 0 (As := [.int (nI o)]) (n := 1) (isJump l_ E o (by have := ho.1; omega)) (zTs_good (fun _ => zTs_in) wk_276) rfl C0.2.2.2.2.2.2.2.2.2.1.1.2.2.2.1 (zTs_in wk_12) (zTs_in wk_275) ⟨by decide, by decide, by decide +kernel⟩ rfl rfl (by decide) rfl rfl (Nat.le_of_ble_eq_true rfl) ⟨by decide, by decide⟩ rfl rfl ⟨by decide, by decide⟩ ⟨by decide, by decide⟩ dX0_goOn_49 rfl (fun r49 w49 hB49 => ?_)
        obtain ⟨rfl, rfl⟩ := hB49
        refine z_perm [0, 1, 2, 3, 4, 5] [(ck, zo 0 [.ref ch, .ref cr, .int (nI rc)]), (ch, zi E 64 (zn hm)), (cr, zi E 576 (zn rr_)), (p, zo 5 [.int (nI kd), .ref po, .ref pn, .int (nI len)]), (po, zi E 64 op), (pn, zi E 64 nn)] (by decide) rfl ?_
        refine z_if_eqP 55 67 C0 dX0_goOn_52 rfl (by decide) (fun k52 => ?_) (fun k52 => ?_)
        · skip
          refine z_iload 69 C0 4 dX0_goOn_67 rfl rfl ?_
          refine z_callSi 72 C0 [] [0, 1, 2, 3, 4, 5] [(ck, zo 0 [.ref ch, .ref cr, .int (nI rc)]), (ch, zi E 64 (zn hm)), (cr, zi E 576 (zn rr_)), (p, zo 5 [.int (nI kd), .ref po, .ref pn, .int (nI len)]), (po, zi E 64 op), (pn, zi E 64 nn)] 0 0 (As := [.int (nI o)]) (n := 1) (hasNext l_ E o (ho.1)) (zGIS (fun _ => zTs_in) wk_287 wk_285 wk_286 wk_16) rfl ⟨by decide, by decide, by decide +kernel⟩ rfl rfl (by decide) rfl rfl (Nat.le_of_ble_eq_true rfl) ⟨by decide, by decide⟩ rfl rfl ⟨by decide, by decide⟩ ⟨by decide, by decide⟩ dX0_goOn_69 rfl (fun r69 w69 hB69 => ?_)
          obtain ⟨rfl, rfl⟩ := hB69
          refine z_perm [0, 1, 2, 3, 4, 5] [(ck, zo 0 [.ref ch, .ref cr, .int (nI rc)]), (ch, zi E 64 (zn hm)), (cr, zi E 576 (zn rr_)), (p, zo 5 [.int (nI kd), .ref po, .ref pn, .int (nI len)]), (po, zi E 64 op), (pn, zi E 64 nn)] (by decide) rfl ?_
          refine z_if_eqP 75 84 C0 dX0_goOn_72 rfl (by decide) (fun k72 => ?_) (fun k72 => ?_)
          · skip
            exact z_vret C0 rfl dX0_goOn_84 ⟨hm, rr_, rc, rfl, (hQ), (QE.rf), (fun i2 h2 ⟨o2, q, e2, hs⟩ => by obtain rfl := pOK_uniq ho.1 ho.2.1 q.1; subst e2; rcases hs with ⟨hx, rfl⟩ | ⟨hx, hl2, hn2⟩; (exact absurd hx k72); exact absurd hx k52)⟩ (by decide) (by decide)
          · skip
            refine z_aload_n 76 C0 0 dX0_goOn_75 rfl rfl rfl ?_
            refine z_iload_n 77 C0 2 dX0_goOn_76 rfl rfl rfl ?_
            refine z_iconst 78 C0 (v := (nI 1)) dX0_goOn_77 rfl rfl ?_
            refine z_iadd 79 C0 (v := (nI (i + 1))) dX0_goOn_78 rfl (nI_add _ _) ?_
            refine z_iload 81 C0 5 dX0_goOn_79 rfl rfl ?_
            refine z_callVv 84 C0 [0, 1, 2] [3, 4, 5] [(p, zo 5 [.int (nI kd), .ref po, .ref pn, .int (nI len)]), (po, zi E 64 op), (pn, zi E 64 nn)] 0 0 (As := [.int (nI (i + 1)), .int (nI (h + gU o - gD o))]) (T := TX0) (N := 3) (C := RX0) (ci := 0) (n := 2) 0 (reach l_ E ck ch cr hm rr_ rc kd op nn len (i + 1) (h + gU o - gD o) (hQ) (by have := hok.2.1 k72; omega) (hok.2.2.2) (hR.next hok k72)) (zGIV (fun _ => zTs_in) wk_257 wk_254 wk_255 wk_256 wk_16) rfl ⟨rfl, by decide, by decide, by decide +kernel⟩ rfl rfl rfl rfl (by decide) rfl rfl (Nat.le_of_ble_eq_true rfl) ⟨by decide, by decide⟩ rfl rfl ⟨by decide, by decide⟩ ⟨by decide, by decide⟩ dX0_goOn_81 rfl (fun w81 hB81 => ?_)
            obtain ⟨hm2_81, rr2_81, rc2_81, rfl, fQ_81, fE_81, fB_81⟩ := hB81
            refine z_perm [3, 4, 5, 0, 1, 2] [(ck, zo 0 [.ref ch, .ref cr, .int (nI rc2_81)]), (ch, zi E 64 (zn hm2_81)), (cr, zi E 576 (zn rr2_81)), (p, zo 5 [.int (nI kd), .ref po, .ref pn, .int (nI len)]), (po, zi E 64 op), (pn, zi E 64 nn)] (by decide) rfl ?_
            exact z_vret C0 rfl dX0_goOn_84 ⟨hm2_81, rr2_81, rc2_81, rfl, (fQ_81), (fE_81), (fun i2 h2 ⟨o2, q, e2, hs⟩ => by obtain rfl := pOK_uniq ho.1 ho.2.1 q.1; subst e2; rcases hs with ⟨hx, rfl⟩ | ⟨hx, hl2, hn2⟩; (exact fB_81); exact absurd hx k52)⟩ (by decide) (by decide)
        · skip
          obtain ⟨j, hj, hnn⟩ := ho.2.2.2.2.2.2 k52
          refine z_aload_n 56 C0 0 dX0_goOn_55 rfl rfl rfl ?_
          refine z_aload_n 57 C0 1 dX0_goOn_56 rfl rfl rfl ?_
          refine z_get 60 C0 3 2 wz_5 rfl (by decide) (zTs_in wk_75) dX0_goOn_57 rfl rfl rfl ?_
          refine z_iload_n 61 C0 2 dX0_goOn_60 rfl rfl rfl ?_
          refine z_ialdN 62 C0 5 (v := (nI j)) dX0_goOn_61 rfl rfl (by omega) (by decide) hnn ?_
          refine z_iload 64 C0 5 dX0_goOn_62 rfl rfl ?_
          refine z_callVv 67 C0 [0, 1, 2] [3, 4, 5] [(p, zo 5 [.int (nI kd), .ref po, .ref pn, .int (nI len)]), (po, zi E 64 op), (pn, zi E 64 nn)] 0 0 (As := [.int (nI j), .int (nI (h + gU o - gD o))]) (T := TX0) (N := 3) (C := RX0) (ci := 0) (n := 2) 0 (reach l_ E ck ch cr hm rr_ rc kd op nn len j (h + gU o - gD o) (hQ) (by omega) (hok.2.2.2) (hR.jump hok k52 hj hnn)) (zGIV (fun _ => zTs_in) wk_257 wk_254 wk_255 wk_256 wk_16) rfl ⟨rfl, by decide, by decide, by decide +kernel⟩ rfl rfl rfl rfl (by decide) rfl rfl (Nat.le_of_ble_eq_true rfl) ⟨by decide, by decide⟩ rfl rfl ⟨by decide, by decide⟩ ⟨by decide, by decide⟩ dX0_goOn_64 rfl (fun w64 hB64 => ?_)
          obtain ⟨hm2_64, rr2_64, rc2_64, rfl, fQ_64, fE_64, fB_64⟩ := hB64
          refine z_perm [3, 4, 5, 0, 1, 2] [(ck, zo 0 [.ref ch, .ref cr, .int (nI rc2_64)]), (ch, zi E 64 (zn hm2_64)), (cr, zi E 576 (zn rr2_64)), (p, zo 5 [.int (nI kd), .ref po, .ref pn, .int (nI len)]), (po, zi E 64 op), (pn, zi E 64 nn)] (by decide) rfl ?_
          refine z_iload 69 C0 4 dX0_goOn_67 rfl rfl ?_
          refine z_callSi 72 C0 [] [0, 1, 2, 3, 4, 5] [(ck, zo 0 [.ref ch, .ref cr, .int (nI rc2_64)]), (ch, zi E 64 (zn hm2_64)), (cr, zi E 576 (zn rr2_64)), (p, zo 5 [.int (nI kd), .ref po, .ref pn, .int (nI len)]), (po, zi E 64 op), (pn, zi E 64 nn)] 0 0 (As := [.int (nI o)]) (n := 1) (hasNext l_ E o (ho.1)) (zGIS (fun _ => zTs_in) wk_287 wk_285 wk_286 wk_16) rfl ⟨by decide, by decide, by decide +kernel⟩ rfl rfl (by decide) rfl rfl (Nat.le_of_ble_eq_true rfl) ⟨by decide, by decide⟩ rfl rfl ⟨by decide, by decide⟩ ⟨by decide, by decide⟩ dX0_goOn_69 rfl (fun r69 w69 hB69 => ?_)
          obtain ⟨rfl, rfl⟩ := hB69
          refine z_perm [0, 1, 2, 3, 4, 5] [(ck, zo 0 [.ref ch, .ref cr, .int (nI rc2_64)]), (ch, zi E 64 (zn hm2_64)), (cr, zi E 576 (zn rr2_64)), (p, zo 5 [.int (nI kd), .ref po, .ref pn, .int (nI len)]), (po, zi E 64 op), (pn, zi E 64 nn)] (by decide) rfl ?_
          refine z_if_eqP 75 84 C0 dX0_goOn_72 rfl (by decide) (fun k72 => ?_) (fun k72 => ?_)
          · skip
            exact z_vret C0 rfl dX0_goOn_84 ⟨hm2_64, rr2_64, rc2_64, rfl, (fQ_64), (fE_64), (fun i2 h2 ⟨o2, q, e2, hs⟩ => by obtain rfl := pOK_uniq ho.1 ho.2.1 q.1; subst e2; rcases hs with ⟨hx, rfl⟩ | ⟨hx, hl2, hn2⟩; (exact absurd hx k72); (obtain rfl : j = i2 := (nI_eq (by omega) (by omega)).mp (hnn.symm.trans hn2); exact fB_64))⟩ (by decide) (by decide)
          · skip
            refine z_aload_n 76 C0 0 dX0_goOn_75 rfl rfl rfl ?_
            refine z_iload_n 77 C0 2 dX0_goOn_76 rfl rfl rfl ?_
            refine z_iconst 78 C0 (v := (nI 1)) dX0_goOn_77 rfl rfl ?_
            refine z_iadd 79 C0 (v := (nI (i + 1))) dX0_goOn_78 rfl (nI_add _ _) ?_
            refine z_iload 81 C0 5 dX0_goOn_79 rfl rfl ?_
            refine z_callVv 84 C0 [0, 1, 2] [3, 4, 5] [(p, zo 5 [.int (nI kd), .ref po, .ref pn, .int (nI len)]), (po, zi E 64 op), (pn, zi E 64 nn)] 0 0 (As := [.int (nI (i + 1)), .int (nI (h + gU o - gD o))]) (T := TX0) (N := 3) (C := RX0) (ci := 0) (n := 2) 0 (reach l_ E ck ch cr hm2_64 rr2_64 rc2_64 kd op nn len (i + 1) (h + gU o - gD o) (fQ_64) (by have := hok.2.1 k72; omega) (hok.2.2.2) (hR.next hok k72)) (zGIV (fun _ => zTs_in) wk_257 wk_254 wk_255 wk_256 wk_16) rfl ⟨rfl, by decide, by decide, by decide +kernel⟩ rfl rfl rfl rfl (by decide) rfl rfl (Nat.le_of_ble_eq_true rfl) ⟨by decide, by decide⟩ rfl rfl ⟨by decide, by decide⟩ ⟨by decide, by decide⟩ dX0_goOn_81 rfl (fun w81 hB81 => ?_)
            obtain ⟨hm2_81, rr2_81, rc2_81, rfl, fQ_81, fE_81, fB_81⟩ := hB81
            refine z_perm [3, 4, 5, 0, 1, 2] [(ck, zo 0 [.ref ch, .ref cr, .int (nI rc2_81)]), (ch, zi E 64 (zn hm2_81)), (cr, zi E 576 (zn rr2_81)), (p, zo 5 [.int (nI kd), .ref po, .ref pn, .int (nI len)]), (po, zi E 64 op), (pn, zi E 64 nn)] (by decide) rfl ?_
            exact z_vret C0 rfl dX0_goOn_84 ⟨hm2_81, rr2_81, rc2_81, rfl, (fQ_81), (fE_64.trans fE_81), (fun i2 h2 ⟨o2, q, e2, hs⟩ => by obtain rfl := pOK_uniq ho.1 ho.2.1 q.1; subst e2; rcases hs with ⟨hx, rfl⟩ | ⟨hx, hl2, hn2⟩; (exact fB_81); (obtain rfl : j = i2 := (nI_eq (by omega) (by omega)).mp (hnn.symm.trans hn2); exact fE_81.2.2 _ _ fB_64))⟩ (by decide) (by decide)
      · skip
        exact z_vret C0 rfl dX0_goOn_28 ⟨hm, rr_, rc, rfl, (hQ), (QE.rf), (fun i2 h2 ⟨o2, q, _, _⟩ => by (have e := pOK_uniq ho.1 ho.2.1 q.1; rw [e] at q; exact absurd q.2.2 k25))⟩ (by decide) (by decide)

set_option maxHeartbeats 4000000 in
set_option maxRecDepth 100000 in
theorem walk (l_ : Launch) (E : zE) (ck : Nat) (ch : Nat) (cr : Nat) (hm : Nat → Nat) (rr_ : Nat → Nat) (rc : Nat) (p : Nat) (po : Nat) (pn : Nat) (kd : Nat) (op : Nat → Int32) (nn : Nat → Int32) (len : Nat) (hkd : kd < 4) (hlen : len ≤ 64) (h0 : 0 < len) : zMv l_ E yX0_walk (zTs yX0_walk cX0_walk 3 none) ({ frames := 3, cells := 0, slots := 0, locals := 70 } : Room) [.ref ck, .ref p] [(ck, zo 0 [.ref ch, .ref cr, .int (nI rc)]), (ch, zi E 64 (zn hm)), (cr, zi E 576 (zn rr_)), (p, zo 5 [.int (nI kd), .ref po, .ref pn, .int (nI len)]), (po, zi E 64 op), (pn, zi E 64 nn)] (fun w_ => ∃ hm2 : Nat → Nat, ∃ rr2 : Nat → Nat, ∃ rc2 : Nat, (w_ = [(ck, zo 0 [.ref ch, .ref cr, .int (nI rc2)]), (ch, zi E 64 (zn hm2)), (cr, zi E 576 (zn rr2)), (p, zo 5 [.int (nI kd), .ref po, .ref pn, .int (nI len)]), (po, zi E 64 op), (pn, zi E 64 nn)]) ∧ (∀ i, hm2 i < 512) ∧ (∀ i h, i < len → (hasB (hm2 i) h ↔ Rch kd op nn len i h))) 0 0 := by
  refine zMv.of (cc := cX0_walk) (nL := 3) (ret := none) (by decide) rfl (Nat.le_of_ble_eq_true rfl) ?_
  intro p_ e_ s_ m_ args_ below_ meth_ c_ A_ C0 hin0
  have C0 : zC E p_ s_ m_ args_ meth_ c_ cX0_walk 3 none RX0 (zTs yX0_walk cX0_walk 3 none) A_ := C0
  refine z_eqL (L1 := [(0, .ref ck), (1, .ref p)]) rfl ?_
  refine z_aload_n 1 C0 0 dX0_walk_0 rfl rfl rfl ?_
  refine z_get 4 C0 0 0 wz_0 rfl (by decide) (zTs_in wk_95) dX0_walk_1 rfl rfl rfl ?_
  refine z_iconst 5 C0 (v := (nI 0)) dX0_walk_4 rfl rfl ?_
  refine z_callSv 8 C0 [1] [0, 2, 3, 4, 5] [(ck, zo 0 [.ref ch, .ref cr, .int (nI rc)]), (cr, zi E 576 (zn rr_)), (p, zo 5 [.int (nI kd), .ref po, .ref pn, .int (nI len)]), (po, zi E 64 op), (pn, zi E 64 nn)] 0 0 (As := [.ref ch, .int (nI 0)]) (n := 2) (fill l_ E ch 64 (zn hm) (nI 0) (by omega)) (zGIS (fun _ => zTs_in) wk_253 wk_251 wk_252 wk_21) rfl ⟨by decide, by decide, by decide +kernel⟩ rfl rfl (by decide) rfl rfl (Nat.le_of_ble_eq_true rfl) ⟨by decide, by decide⟩ rfl rfl ⟨by decide, by decide⟩ ⟨by decide, by decide⟩ dX0_walk_5 rfl (fun w5 hB5 => ?_)
  obtain rfl := hB5
  refine z_perm [0, 5, 1, 2, 3, 4] [(ck, zo 0 [.ref ch, .ref cr, .int (nI rc)]), (ch, zi E 64 (fun _ => (nI 0))), (cr, zi E 576 (zn rr_)), (p, zo 5 [.int (nI kd), .ref po, .ref pn, .int (nI len)]), (po, zi E 64 op), (pn, zi E 64 nn)] (by decide) rfl ?_
  refine z_eq (L1 := [(0, .ref ck), (1, .ref p)]) (st1 := []) (w1 := [(ck, zo 0 [.ref ch, .ref cr, .int (nI rc)]), (ch, zi E 64 (zn (fun _ => 0))), (cr, zi E 576 (zn rr_)), (p, zo 5 [.int (nI kd), .ref po, .ref pn, .int (nI len)]), (po, zi E 64 op), (pn, zi E 64 nn)]) rfl rfl rfl ?_
  refine z_aload_n 9 C0 0 dX0_walk_8 rfl rfl rfl ?_
  refine z_iconst 10 C0 (v := (nI 0)) dX0_walk_9 rfl rfl ?_
  refine z_put 13 C0 0 2 [(ck, zo 0 [.ref ch, .ref cr, .int (nI 0)]), (ch, zi E 64 (zn (fun _ => 0))), (cr, zi E 576 (zn rr_)), (p, zo 5 [.int (nI kd), .ref po, .ref pn, .int (nI len)]), (po, zi E 64 op), (pn, zi E 64 nn)] wz_0 rfl (by decide) (zTs_in wk_97) tyX0 tyX0_ok nmX0 rfl rfl rfl rfl dX0_walk_10 rfl rfl (Nat.le_of_ble_eq_true rfl) rfl ?_
  refine z_aload_n 14 C0 0 dX0_walk_13 rfl rfl rfl ?_
  refine z_iconst 15 C0 (v := (nI 0)) dX0_walk_14 rfl rfl ?_
  refine z_iconst 16 C0 (v := (nI 0)) dX0_walk_15 rfl rfl ?_
  refine z_callVv 19 C0 [0, 1, 2] [3, 4, 5] [(p, zo 5 [.int (nI kd), .ref po, .ref pn, .int (nI len)]), (po, zi E 64 op), (pn, zi E 64 nn)] 0 0 (As := [.int (nI 0), .int (nI 0)]) (T := TX0) (N := 3) (C := RX0) (ci := 0) (n := 2) 0 (reach l_ E ck ch cr (fun _ => 0) rr_ 0 kd op nn len 0 0 (QS_0) (by omega) (by omega) (Rch.zero)) (zGIV (fun _ => zTs_in) wk_257 wk_254 wk_255 wk_256 wk_16) rfl ⟨rfl, by decide, by decide, by decide +kernel⟩ rfl rfl rfl rfl (by decide) rfl rfl (Nat.le_of_ble_eq_true rfl) ⟨by decide, by decide⟩ rfl rfl ⟨by decide, by decide⟩ ⟨by decide, by decide⟩ dX0_walk_16 rfl (fun w16 hB16 => ?_)
  obtain ⟨hm2_16, rr2_16, rc2_16, rfl, fQ_16, fE_16, fB_16⟩ := hB16
  refine z_perm [3, 4, 5, 0, 1, 2] [(ck, zo 0 [.ref ch, .ref cr, .int (nI rc2_16)]), (ch, zi E 64 (zn hm2_16)), (cr, zi E 576 (zn rr2_16)), (p, zo 5 [.int (nI kd), .ref po, .ref pn, .int (nI len)]), (po, zi E 64 op), (pn, zi E 64 nn)] (by decide) rfl ?_
  refine z_iconst 20 C0 (v := (nI 0)) dX0_walk_19 rfl rfl ?_
  refine z_istore_n 21 C0 [1, 2, 0] [(0, .ref ck), (1, .ref p), (2, .int (nI 0))] dX0_walk_20 rfl rfl (by decide) rfl ?_
  have CUT21 : ∀ (N21 : Nat) (t : Nat) (hx : Nat → Nat) (rx : Nat → Nat) (cx : Nat), (QS kd op nn len hx rx cx) → (hasB (hx 0) 0) → (∀ j, j < t → ∀ i2 h2, Suc kd op nn len (rx j / 9) (rx j % 9) i2 h2 → hasB (hx i2) h2) → (t ≤ cx) → 576 - t < N21 → Z E p_ l_ e_ ({ frames := 3, cells := 0, slots := 0, locals := 70 } : Room) s_ m_ args_ below_ meth_ c_ (MQ below_ (va_Qv (fun w_ => ∃ hm2 : Nat → Nat, ∃ rr2 : Nat → Nat, ∃ rc2 : Nat, (w_ = [(ck, zo 0 [.ref ch, .ref cr, .int (nI rc2)]), (ch, zi E 64 (zn hm2)), (cr, zi E 576 (zn rr2)), (p, zo 5 [.int (nI kd), .ref po, .ref pn, .int (nI len)]), (po, zi E 64 op), (pn, zi E 64 nn)]) ∧ (∀ i, hm2 i < 512) ∧ (∀ i h, i < len → (hasB (hm2 i) h ↔ Rch kd op nn len i h))) (zPost E A_) A_) args_ s_ 0 0 A_) A_ 3 21 [(0, .ref ck), (1, .ref p), (2, .int (nI t))] [] [(ck, zo 0 [.ref ch, .ref cr, .int (nI cx)]), (ch, zi E 64 (zn hx)), (cr, zi E 576 (zn rx)), (p, zo 5 [.int (nI kd), .ref po, .ref pn, .int (nI len)]), (po, zi E 64 op), (pn, zi E 64 nn)] 0 0 := by
    intro N21
    induction N21 with
    | zero => intro t hx rx cx hQ hB hP ht hm21; exact absurd hm21 (Nat.not_lt_zero _)
    | succ N21 ih21 =>
      intro t hx rx cx hQ hB hP ht hm21
      have hcx : cx ≤ 576 := by rw [hQ.2.2.1]; exact cntB_le hx
      refine z_iload_n 22 C0 2 dX0_walk_21 rfl rfl rfl ?_
      refine z_aload_n 23 C0 0 dX0_walk_22 rfl rfl rfl ?_
      refine z_get 26 C0 0 2 wz_0 rfl (by decide) (zTs_in wk_97) dX0_walk_23 rfl rfl rfl ?_
      refine z_icmp_geN 29 67 C0 (by omega) (by omega) dX0_walk_26 rfl (by decide) (fun k26 => ?_) (fun k26 => ?_)
      · skip
        have htc : t = cx := by have := cntB_le hx; have := hQ.2.2.1; omega
        exact z_vret C0 rfl dX0_walk_67 ⟨hx, rx, cx, rfl, (hQ.2.2.2), (fun i h hi => ⟨fun q => by obtain ⟨j, hj, e⟩ := hQ.2.1 i h (by omega) q; have h9 := hb_lt (hQ.2.2.2 i) q; have hr := (hQ.1 j hj).2.2; rw [e, show (i * 9 + h) / 9 = i by omega, show (i * 9 + h) % 9 = h by omega] at hr; exact hr, fun q => walk_all h0 hlen hQ hB (fun j hj => hP j (by omega)) q⟩)⟩ (by decide) (by decide)
      · skip
        refine z_iload_n 30 C0 2 dX0_walk_29 rfl rfl rfl ?_
        refine z_aload_n 31 C0 0 dX0_walk_30 rfl rfl rfl ?_
        refine z_get 34 C0 0 1 wz_0 rfl (by decide) (zTs_in wk_96) dX0_walk_31 rfl rfl rfl ?_
        refine z_alen 35 C0 2 dX0_walk_34 rfl rfl ?_
        refine z_icmp_geN 38 67 C0 (by omega) (by decide) dX0_walk_35 rfl (by decide) (fun k35 => ?_) (fun k35 => ?_)
        · skip
          have htc : t = cx := by have := cntB_le hx; have := hQ.2.2.1; omega
          exact z_vret C0 rfl dX0_walk_67 ⟨hx, rx, cx, rfl, (hQ.2.2.2), (fun i h hi => ⟨fun q => by obtain ⟨j, hj, e⟩ := hQ.2.1 i h (by omega) q; have h9 := hb_lt (hQ.2.2.2 i) q; have hr := (hQ.1 j hj).2.2; rw [e, show (i * 9 + h) / 9 = i by omega, show (i * 9 + h) % 9 = h by omega] at hr; exact hr, fun q => walk_all h0 hlen hQ hB (fun j hj => hP j (by omega)) q⟩)⟩ (by decide) (by decide)
        · skip
          have hq := hQ.1 t (by omega)
          have hlt := Rch.lt h0 hq.2.2
          refine z_aload_n 39 C0 0 dX0_walk_38 rfl rfl rfl ?_
          refine z_aload_n 40 C0 1 dX0_walk_39 rfl rfl rfl ?_
          refine z_aload_n 41 C0 0 dX0_walk_40 rfl rfl rfl ?_
          refine z_get 44 C0 0 1 wz_0 rfl (by decide) (zTs_in wk_96) dX0_walk_41 rfl rfl rfl ?_
          refine z_iload_n 45 C0 2 dX0_walk_44 rfl rfl rfl ?_
          refine z_ialdN 46 C0 2 (v := (nI (rx t))) dX0_walk_45 rfl rfl (by omega) (by decide) rfl ?_
          refine z_bipush 48 C0 (v := (nI 9)) dX0_walk_46 rfl rfl ?_
          refine z_idiv 49 C0 (v := (nI (rx t / 9))) dX0_walk_48 rfl (nI_ne0 (by omega) (by omega)) (pk_div (by have := hq.1; omega) (by decide) (by decide)) ?_
          refine z_aload_n 50 C0 0 dX0_walk_49 rfl rfl rfl ?_
          refine z_get 53 C0 0 1 wz_0 rfl (by decide) (zTs_in wk_96) dX0_walk_50 rfl rfl rfl ?_
          refine z_iload_n 54 C0 2 dX0_walk_53 rfl rfl rfl ?_
          refine z_ialdN 55 C0 2 (v := (nI (rx t))) dX0_walk_54 rfl rfl (by omega) (by decide) rfl ?_
          refine z_bipush 57 C0 (v := (nI 9)) dX0_walk_55 rfl rfl ?_
          refine z_irem 58 C0 (v := (nI (rx t % 9))) dX0_walk_57 rfl (nI_ne0 (by omega) (by omega)) (pk_rem (by have := hq.1; omega) (by decide) (by decide)) ?_
          refine z_callVv 61 C0 [0, 1, 2, 3, 4, 5] [] [] 0 0 (As := [.ref p, .int (nI (rx t / 9)), .int (nI (rx t % 9))]) (T := TX0) (N := 3) (C := RX0) (ci := 0) (n := 3) 0 (goOn l_ E ck ch cr hx rx cx p po pn kd op nn len (rx t / 9) (rx t % 9) (hQ) (hlt.1) (hlt.2) (hq.2.2) (by omega) (by omega)) (zGIV (fun _ => zTs_in) wk_265 wk_262 wk_263 wk_264 wk_16) rfl ⟨rfl, by decide, by decide, by decide +kernel⟩ rfl rfl rfl rfl (by decide) rfl rfl (Nat.le_of_ble_eq_true rfl) ⟨by decide, by decide⟩ rfl rfl ⟨by decide, by decide⟩ ⟨by decide, by decide⟩ dX0_walk_58 rfl (fun w58 hB58 => ?_)
          obtain ⟨hm2_58, rr2_58, rc2_58, rfl, fQ_58, fE_58, fS_58⟩ := hB58
          refine z_perm [0, 1, 2, 3, 4, 5] [(ck, zo 0 [.ref ch, .ref cr, .int (nI rc2_58)]), (ch, zi E 64 (zn hm2_58)), (cr, zi E 576 (zn rr2_58)), (p, zo 5 [.int (nI kd), .ref po, .ref pn, .int (nI len)]), (po, zi E 64 op), (pn, zi E 64 nn)] (by decide) rfl ?_
          refine z_iinc 64 C0 2 [1, 2, 0] [(0, .ref ck), (1, .ref p), (2, .int (nI (t + 1)))] (v := (nI (t + 1))) dX0_walk_61 rfl rfl (z_incN _ _) (by decide) rfl ?_
          refine z_goto 21 C0 dX0_walk_64 (by decide) ?_
          exact ih21 (t + 1) hm2_58 rr2_58 rc2_58 fQ_58 (fE_58.2.2 _ _ hB) (fun j hj i2 h2 hs => by rcases Nat.lt_or_ge j t with q | q; (rw [fE_58.2.1 j (by omega)] at hs; exact fE_58.2.2 _ _ (hP j q i2 h2 hs)); obtain rfl : j = t := (by omega); rw [fE_58.2.1 j (by omega)] at hs; exact fS_58 i2 h2 hs) (by have := fE_58.1; omega) (by omega)
  exact CUT21 (576 - 0 + 1) 0 hm2_16 rr2_16 rc2_16 fQ_16 fB_16 (fun j hj => absurd hj (Nat.not_lt_zero j)) (Nat.zero_le _) (Nat.lt_succ_self _)

set_option maxHeartbeats 4000000 in
set_option maxRecDepth 100000 in
theorem fw_0 (l_ : Launch) (E : zE) (ck : Nat) (ch : Nat) (cr : Nat) (hm : Nat → Nat) (rr_ : Nat → Nat) (rc : Nat) (p : Nat) (po : Nat) (pn : Nat) (kd : Nat) (op : Nat → Int32) (nn : Nat → Int32) (len : Nat) (h0 : len = 0) : zMi l_ E yX0_firstWrong (zTs yX0_firstWrong cX0_firstWrong 3 (some .int)) ({ frames := 4, cells := 0, slots := 0, locals := 92 } : Room) [.ref ck, .ref p] [(ck, zo 0 [.ref ch, .ref cr, .int (nI rc)]), (ch, zi E 64 (zn hm)), (cr, zi E 576 (zn rr_)), (p, zo 5 [.int (nI kd), .ref po, .ref pn, .int (nI len)]), (po, zi E 64 op), (pn, zi E 64 nn)] (fun r_ w_ => (r_ = (nI 64) ∧ w_ = [(ck, zo 0 [.ref ch, .ref cr, .int (nI rc)]), (ch, zi E 64 (zn hm)), (cr, zi E 576 (zn rr_)), (p, zo 5 [.int (nI kd), .ref po, .ref pn, .int (nI len)]), (po, zi E 64 op), (pn, zi E 64 nn)])) 0 0 := by
  refine zMi.of (cc := cX0_firstWrong) (nL := 3) (ret := (some .int)) (by decide) rfl (Nat.le_of_ble_eq_true rfl) ?_
  intro p_ e_ s_ m_ args_ below_ meth_ c_ A_ C0 hin0
  have C0 : zC E p_ s_ m_ args_ meth_ c_ cX0_firstWrong 3 (some .int) RX0 (zTs yX0_firstWrong cX0_firstWrong 3 (some .int)) A_ := C0
  refine z_eqL (L1 := [(0, .ref ck), (1, .ref p)]) rfl ?_
  refine z_aload_n 1 C0 1 dX0_firstWrong_0 rfl rfl rfl ?_
  refine z_get 4 C0 3 3 wz_5 rfl (by decide) (zTs_in wk_77) dX0_firstWrong_1 rfl rfl rfl ?_
  refine z_if_neN 7 10 C0 (by omega) dX0_firstWrong_4 rfl (by decide) (fun k4 => absurd k4 (by omega)) (fun k4 => ?_)
  refine z_bipush 9 C0 (v := (nI 64)) dX0_firstWrong_7 rfl rfl ?_
  exact z_iret C0 rfl dX0_firstWrong_9 ⟨rfl, rfl⟩ (by decide) (by decide)

set_option maxHeartbeats 4000000 in
set_option maxRecDepth 100000 in
theorem fw_1 (l_ : Launch) (E : zE) (ck : Nat) (ch : Nat) (cr : Nat) (hm : Nat → Nat) (rr_ : Nat → Nat) (rc : Nat) (p : Nat) (po : Nat) (pn : Nat) (kd : Nat) (op : Nat → Int32) (nn : Nat → Int32) (len : Nat) (hkd : kd < 4) (hlen : len ≤ 64) (h0 : 0 < len) : zMi l_ E yX0_firstWrong (zTs yX0_firstWrong cX0_firstWrong 3 (some .int)) ({ frames := 4, cells := 0, slots := 0, locals := 92 } : Room) [.ref ck, .ref p] [(ck, zo 0 [.ref ch, .ref cr, .int (nI rc)]), (ch, zi E 64 (zn hm)), (cr, zi E 576 (zn rr_)), (p, zo 5 [.int (nI kd), .ref po, .ref pn, .int (nI len)]), (po, zi E 64 op), (pn, zi E 64 nn)] (fun r_ w_ => ∃ hm2 : Nat → Nat, ∃ rr2 : Nat → Nat, ∃ rc2 : Nat, ∃ r2 : Int32, (r_ = r2 ∧ w_ = [(ck, zo 0 [.ref ch, .ref cr, .int (nI rc2)]), (ch, zi E 64 (zn hm2)), (cr, zi E 576 (zn rr2)), (p, zo 5 [.int (nI kd), .ref po, .ref pn, .int (nI len)]), (po, zi E 64 op), (pn, zi E 64 nn)]) ∧ (fwR kd op nn len r2)) 0 0 := by
  refine zMi.of (cc := cX0_firstWrong) (nL := 3) (ret := (some .int)) (by decide) rfl (Nat.le_of_ble_eq_true rfl) ?_
  intro p_ e_ s_ m_ args_ below_ meth_ c_ A_ C0 hin0
  have C0 : zC E p_ s_ m_ args_ meth_ c_ cX0_firstWrong 3 (some .int) RX0 (zTs yX0_firstWrong cX0_firstWrong 3 (some .int)) A_ := C0
  refine z_eqL (L1 := [(0, .ref ck), (1, .ref p)]) rfl ?_
  refine z_aload_n 1 C0 1 dX0_firstWrong_0 rfl rfl rfl ?_
  refine z_get 4 C0 3 3 wz_5 rfl (by decide) (zTs_in wk_77) dX0_firstWrong_1 rfl rfl rfl ?_
  refine z_if_neN 7 10 C0 (by omega) dX0_firstWrong_4 rfl (by decide) (fun k4 => ?_) (fun k4 => absurd k4 (by omega))
  refine z_aload_n 11 C0 0 dX0_firstWrong_10 rfl rfl rfl ?_
  refine z_aload_n 12 C0 1 dX0_firstWrong_11 rfl rfl rfl ?_
  refine z_callVv 15 C0 [0, 1, 2, 3, 4, 5] [] [] 0 0 (As := [.ref p]) (T := TX0) (N := 3) (C := RX0) (ci := 0) (n := 1) 0 (walk l_ E ck ch cr hm rr_ rc p po pn kd op nn len (by omega) (by omega) (by omega)) (zGIV (fun _ => zTs_in) wk_250 wk_247 wk_248 wk_249 wk_16) rfl ⟨rfl, by decide, by decide, by decide +kernel⟩ rfl rfl rfl rfl (by decide) rfl rfl (Nat.le_of_ble_eq_true rfl) ⟨by decide, by decide⟩ rfl rfl ⟨by decide, by decide⟩ ⟨by decide, by decide⟩ dX0_firstWrong_12 rfl (fun w12 hB12 => ?_)
  obtain ⟨hm2_12, rr2_12, rc2_12, rfl, f5_12, fS_12⟩ := hB12
  refine z_perm [0, 1, 2, 3, 4, 5] [(ck, zo 0 [.ref ch, .ref cr, .int (nI rc2_12)]), (ch, zi E 64 (zn hm2_12)), (cr, zi E 576 (zn rr2_12)), (p, zo 5 [.int (nI kd), .ref po, .ref pn, .int (nI len)]), (po, zi E 64 op), (pn, zi E 64 nn)] (by decide) rfl ?_
  refine z_iconst 16 C0 (v := (nI 0)) dX0_firstWrong_15 rfl rfl ?_
  refine z_istore_n 17 C0 [1, 2, 0] [(0, .ref ck), (1, .ref p), (2, .int (nI 0))] dX0_firstWrong_16 rfl rfl (by decide) rfl ?_
  have CUT17 : ∀ (N17 : Nat) (i : Nat), (i ≤ len) → (∀ x, x < i → ¬ Wr kd op nn len x) → len - i < N17 → Z E p_ l_ e_ ({ frames := 4, cells := 0, slots := 0, locals := 92 } : Room) s_ m_ args_ below_ meth_ c_ (MQ below_ (va_Qi (fun r_ w_ => ∃ hm2 : Nat → Nat, ∃ rr2 : Nat → Nat, ∃ rc2 : Nat, ∃ r2 : Int32, (r_ = r2 ∧ w_ = [(ck, zo 0 [.ref ch, .ref cr, .int (nI rc2)]), (ch, zi E 64 (zn hm2)), (cr, zi E 576 (zn rr2)), (p, zo 5 [.int (nI kd), .ref po, .ref pn, .int (nI len)]), (po, zi E 64 op), (pn, zi E 64 nn)]) ∧ (fwR kd op nn len r2)) (zPost E A_) A_) args_ s_ 0 0 A_) A_ 3 17 [(0, .ref ck), (1, .ref p), (2, .int (nI i))] [] [(ck, zo 0 [.ref ch, .ref cr, .int (nI rc2_12)]), (ch, zi E 64 (zn hm2_12)), (cr, zi E 576 (zn rr2_12)), (p, zo 5 [.int (nI kd), .ref po, .ref pn, .int (nI len)]), (po, zi E 64 op), (pn, zi E 64 nn)] 0 0 := by
    intro N17
    induction N17 with
    | zero => intro i hi hno hm17; exact absurd hm17 (Nat.not_lt_zero _)
    | succ N17 ih17 =>
      intro i hi hno hm17
      refine z_iload_n 18 C0 2 dX0_firstWrong_17 rfl rfl rfl ?_
      refine z_aload_n 19 C0 1 dX0_firstWrong_18 rfl rfl rfl ?_
      refine z_get 22 C0 3 3 wz_5 rfl (by decide) (zTs_in wk_77) dX0_firstWrong_19 rfl rfl rfl ?_
      refine z_icmp_geN 25 42 C0 (by omega) (by omega) dX0_firstWrong_22 rfl (by decide) (fun k22 => ?_) (fun k22 => ?_)
      · skip
        refine z_bipush 44 C0 (v := (-2)) dX0_firstWrong_42 rfl (by decide) ?_
        exact z_iret C0 rfl dX0_firstWrong_44 ⟨hm2_12, rr2_12, rc2_12, (-2), ⟨rfl, rfl⟩, (Or.inr ⟨fun x hx => hno x (by omega), rfl⟩)⟩ (by decide) (by decide)
      · skip
        refine z_aload_n 26 C0 0 dX0_firstWrong_25 rfl rfl rfl ?_
        refine z_aload_n 27 C0 1 dX0_firstWrong_26 rfl rfl rfl ?_
        refine z_iload_n 28 C0 2 dX0_firstWrong_27 rfl rfl rfl ?_
        refine z_callVi 31 C0 [0, 1, 3, 4, 5] [2] [(cr, zi E 576 (zn rr2_12))] 0 0 (As := [.ref p, .int (nI i)]) (T := TX0) (N := 3) (C := RX0) (ci := 0) (n := 2) 0 (isWrong l_ E ck ch cr hm2_12 rc2_12 p po pn kd op nn len i (by omega) (by omega) (by omega) (f5_12 i) (fun h => fS_12 i h (by omega))) (zGIV (fun _ => zTs_in) wk_299 wk_296 wk_297 wk_298 wk_16) rfl ⟨rfl, by decide, by decide, by decide +kernel⟩ rfl rfl rfl rfl (by decide) rfl rfl (Nat.le_of_ble_eq_true rfl) ⟨by decide, by decide⟩ rfl rfl ⟨by decide, by decide⟩ ⟨by decide, by decide⟩ dX0_firstWrong_28 rfl (fun r28 w28 hB28 => ?_)
        obtain ⟨rfl, rfl⟩ := hB28
        refine z_perm [1, 2, 0, 3, 4, 5] [(ck, zo 0 [.ref ch, .ref cr, .int (nI rc2_12)]), (ch, zi E 64 (zn hm2_12)), (cr, zi E 576 (zn rr2_12)), (p, zo 5 [.int (nI kd), .ref po, .ref pn, .int (nI len)]), (po, zi E 64 op), (pn, zi E 64 nn)] (by decide) rfl ?_
        refine z_if_eqP 34 36 C0 dX0_firstWrong_31 rfl (by decide) (fun k31 => ?_) (fun k31 => ?_)
        · skip
          refine z_iinc 39 C0 2 [1, 2, 0] [(0, .ref ck), (1, .ref p), (2, .int (nI (i + 1)))] (v := (nI (i + 1))) dX0_firstWrong_36 rfl rfl (z_incN _ _) (by decide) rfl ?_
          refine z_goto 17 C0 dX0_firstWrong_39 (by decide) ?_
          exact ih17 (i + 1) (by omega) (fun x hx => by rcases Nat.lt_or_ge x i with q | q; exact hno x q; rw [show x = i by omega]; exact k31) (by omega)
        · skip
          refine z_iload_n 35 C0 2 dX0_firstWrong_34 rfl rfl rfl ?_
          exact z_iret C0 rfl dX0_firstWrong_35 ⟨hm2_12, rr2_12, rc2_12, (nI i), ⟨rfl, rfl⟩, (Or.inl ⟨i, by omega, k31, hno, rfl⟩)⟩ (by decide) (by decide)
  exact CUT17 (len - 0 + 1) 0 (Nat.zero_le _) (fun x hx => absurd hx (Nat.not_lt_zero x)) (Nat.lt_succ_self _)
end
