/-! ===== BEGIN printed: names, fields, word lists, decode rows ===== -/
def RX0 : String := "RunmergeOffice$Book"
def TX0 : u_T := fun k => match k with
  | 0 => ("RunmergeOffice$Book", "allKeys", "[I", true)
  | 1 => ("RunmergeOffice$Book", "allMarks", "[I", true)
  | _ => ("RunmergeOffice$Book", "count", "I", false)
def tyX0 : Nat → FieldType := fun k => match k with
  | 0 => .array .int
  | 1 => .array .int
  | _ => .int
abbrev wsX00 : List Cond := u_ws RX0 TX0 3
theorem nmX0 : ∀ a, a < 3 → ∀ b, b < 3 → a ≠ b → (TX0 a).2.1 ≠ (TX0 b).2.1 := by decide +kernel
theorem tyX0_ok : ∀ k, k < 3 → parseFieldDescriptor (TX0 k).2.2.1 = some (tyX0 k) := by decide +kernel
abbrev cX0_init : ByteArray := prog_2_method_1_code
noncomputable def yX0_init : MethodName := ⟨RX0, "<init>", "()V"⟩
abbrev cX0_has : ByteArray := prog_2_method_2_code
noncomputable def yX0_has : MethodName := ⟨RX0, "has", "(I)Z"⟩
abbrev cX0_add : ByteArray := prog_2_method_3_code
noncomputable def yX0_add : MethodName := ⟨RX0, "add", "(II)I"⟩
abbrev cX0_keyOf : ByteArray := prog_2_method_4_code
noncomputable def yX0_keyOf : MethodName := ⟨RX0, "keyOf", "(I)I"⟩
abbrev cX0_rankOf : ByteArray := prog_2_method_6_code
noncomputable def yX0_rankOf : MethodName := ⟨RX0, "rankOf", "(II)I"⟩
abbrev cX0_recordOf : ByteArray := prog_2_method_7_code
noncomputable def yX0_recordOf : MethodName := ⟨RX0, "recordOf", "(I)I"⟩
def RX1 : String := "RunmergeOffice$Checker"
def TX1 : u_T := fun k => match k with
  | 0 => ("RunmergeOffice$Checker", "maker", "LRunmergeOffice$RunMaker;", true)
  | 1 => ("RunmergeOffice$Checker", "trial", "LRunmergeOffice$Job;", true)
  | 2 => ("RunmergeOffice$Checker", "told", "LRunmergeOffice$Plan;", true)
  | 3 => ("RunmergeOffice$Checker", "with", "LRunmergeOffice$Settings;", true)
  | 4 => ("RunmergeOffice$Checker", "runRow", "LRunmergeOffice$RunRow;", true)
  | 5 => ("RunmergeOffice$Checker", "out", "LRunmergeOffice$Tape;", true)
  | 6 => ("RunmergeOffice$Checker", "times", "[I", true)
  | _ => ("RunmergeOffice$Checker", "failures", "I", false)
def tyX1 : Nat → FieldType := fun k => match k with
  | 0 => .object "RunmergeOffice$RunMaker"
  | 1 => .object "RunmergeOffice$Job"
  | 2 => .object "RunmergeOffice$Plan"
  | 3 => .object "RunmergeOffice$Settings"
  | 4 => .object "RunmergeOffice$RunRow"
  | 5 => .object "RunmergeOffice$Tape"
  | 6 => .array .int
  | _ => .int
abbrev wsX10 : List Cond := u_ws RX1 TX1 8
theorem nmX1 : ∀ a, a < 8 → ∀ b, b < 8 → a ≠ b → (TX1 a).2.1 ≠ (TX1 b).2.1 := by decide +kernel
theorem tyX1_ok : ∀ k, k < 8 → parseFieldDescriptor (TX1 k).2.2.1 = some (tyX1 k) := by decide +kernel
abbrev cX1_init : ByteArray := prog_3_method_1_code
noncomputable def yX1_init : MethodName := ⟨RX1, "<init>", "()V"⟩
abbrev cX1_countFailures : ByteArray := prog_3_method_2_code
noncomputable def yX1_countFailures : MethodName := ⟨RX1, "countFailures", "(LRunmergeOffice$Book;LRunmergeOffice$Tape;LRunmergeOffice$Settings;)I"⟩
abbrev cX1_demand : ByteArray := prog_3_method_3_code
noncomputable def yX1_demand : MethodName := ⟨RX1, "demand", "(Z)V"⟩
abbrev cX1_checkReplacement : ByteArray := prog_3_method_4_code
noncomputable def yX1_checkReplacement : MethodName := ⟨RX1, "checkReplacement", "(LRunmergeOffice$Book;LRunmergeOffice$Tape;)V"⟩
abbrev cX1_checkSort : ByteArray := prog_3_method_5_code
noncomputable def yX1_checkSort : MethodName := ⟨RX1, "checkSort", "(LRunmergeOffice$Book;LRunmergeOffice$Tape;)V"⟩
abbrev cX1_hasSameRecords : ByteArray := prog_3_method_6_code
noncomputable def yX1_hasSameRecords : MethodName := ⟨RX1, "hasSameRecords", "(LRunmergeOffice$Tape;)Z"⟩
abbrev cX1_countRecords : ByteArray := prog_3_method_7_code
noncomputable def yX1_countRecords : MethodName := ⟨RX1, "countRecords", "(LRunmergeOffice$Tape;I)V"⟩
abbrev cX1_passesNeeded : ByteArray := prog_3_method_8_code
noncomputable def yX1_passesNeeded : MethodName := ⟨RX1, "passesNeeded", "()I"⟩
def RX2 : String := "RunmergeOffice$Job"
def TX2 : u_T := fun k => match k with
  | 0 => ("RunmergeOffice$Job", "maker", "LRunmergeOffice$RunMaker;", true)
  | 1 => ("RunmergeOffice$Job", "pass", "LRunmergeOffice$Pass;", true)
  | 2 => ("RunmergeOffice$Job", "inputs", "[I", true)
  | 3 => ("RunmergeOffice$Job", "places", "[I", true)
  | 4 => ("RunmergeOffice$Job", "inputCount", "I", false)
  | 5 => ("RunmergeOffice$Job", "now", "LRunmergeOffice$RunRow;", false)
  | 6 => ("RunmergeOffice$Job", "made", "LRunmergeOffice$RunRow;", true)
  | 7 => ("RunmergeOffice$Job", "next", "LRunmergeOffice$RunRow;", false)
  | 8 => ("RunmergeOffice$Job", "target", "I", false)
  | 9 => ("RunmergeOffice$Job", "passes", "I", false)
  | 10 => ("RunmergeOffice$Job", "merges", "I", false)
  | 11 => ("RunmergeOffice$Job", "moves", "I", false)
  | 12 => ("RunmergeOffice$Job", "movesOfPass", "I", false)
  | 13 => ("RunmergeOffice$Job", "lostMoves", "I", false)
  | _ => ("RunmergeOffice$Job", "timesTorn", "I", false)
def tyX2 : Nat → FieldType := fun k => match k with
  | 0 => .object "RunmergeOffice$RunMaker"
  | 1 => .object "RunmergeOffice$Pass"
  | 2 => .array .int
  | 3 => .array .int
  | 4 => .int
  | 5 => .object "RunmergeOffice$RunRow"
  | 6 => .object "RunmergeOffice$RunRow"
  | 7 => .object "RunmergeOffice$RunRow"
  | 8 => .int
  | 9 => .int
  | 10 => .int
  | 11 => .int
  | 12 => .int
  | 13 => .int
  | _ => .int
abbrev wsX20 : List Cond := u_ws RX2 TX2 15
theorem nmX2 : ∀ a, a < 15 → ∀ b, b < 15 → a ≠ b → (TX2 a).2.1 ≠ (TX2 b).2.1 := by decide +kernel
theorem tyX2_ok : ∀ k, k < 15 → parseFieldDescriptor (TX2 k).2.2.1 = some (tyX2 k) := by decide +kernel
abbrev cX2_init : ByteArray := prog_4_method_1_code
noncomputable def yX2_init : MethodName := ⟨RX2, "<init>", "()V"⟩
abbrev cX2_start : ByteArray := prog_4_method_2_code
noncomputable def yX2_start : MethodName := ⟨RX2, "start", "(LRunmergeOffice$Book;LRunmergeOffice$Tape;ILRunmergeOffice$Settings;)I"⟩
abbrev cX2_isOver : ByteArray := prog_4_method_3_code
noncomputable def yX2_isOver : MethodName := ⟨RX2, "isOver", "()Z"⟩
abbrev cX2_doMerge : ByteArray := prog_4_method_4_code
noncomputable def yX2_doMerge : MethodName := ⟨RX2, "doMerge", "()V"⟩
abbrev cX2_mergeRuns : ByteArray := prog_4_method_5_code
noncomputable def yX2_mergeRuns : MethodName := ⟨RX2, "mergeRuns", "(I)I"⟩
abbrev cX2_inputWithLeastRank : ByteArray := prog_4_method_6_code
noncomputable def yX2_inputWithLeastRank : MethodName := ⟨RX2, "inputWithLeastRank", "()I"⟩
abbrev cX2_endPass : ByteArray := prog_4_method_7_code
noncomputable def yX2_endPass : MethodName := ⟨RX2, "endPass", "()V"⟩
abbrev cX2_keepMade : ByteArray := prog_4_method_8_code
noncomputable def yX2_keepMade : MethodName := ⟨RX2, "keepMade", "()V"⟩
abbrev cX2_keepOthers : ByteArray := prog_4_method_9_code
noncomputable def yX2_keepOthers : MethodName := ⟨RX2, "keepOthers", "()V"⟩
abbrev cX2_losePass : ByteArray := prog_4_method_10_code
noncomputable def yX2_losePass : MethodName := ⟨RX2, "losePass", "()I"⟩
abbrev cX2_runsLeft : ByteArray := prog_4_method_11_code
noncomputable def yX2_runsLeft : MethodName := ⟨RX2, "runsLeft", "()I"⟩
abbrev cX2_doWhole : ByteArray := prog_4_method_12_code
noncomputable def yX2_doWhole : MethodName := ⟨RX2, "doWhole", "(LRunmergeOffice$Book;LRunmergeOffice$Tape;LRunmergeOffice$Tape;LRunmergeOffice$Settings;)V"⟩
abbrev cX2_writeTo : ByteArray := prog_4_method_13_code
noncomputable def yX2_writeTo : MethodName := ⟨RX2, "writeTo", "(LRunmergeOffice$Tape;)V"⟩
def RX3 : String := "RunmergeOffice$Pass"
def TX3 : u_T := fun k => match k with
  | 0 => ("RunmergeOffice$Pass", "mergeTaking", "[I", true)
  | 1 => ("RunmergeOffice$Pass", "rows", "[I", true)
  | 2 => ("RunmergeOffice$Pass", "way", "I", false)
  | 3 => ("RunmergeOffice$Pass", "ways", "I", false)
  | 4 => ("RunmergeOffice$Pass", "merges", "I", false)
  | _ => ("RunmergeOffice$Pass", "level", "I", false)
def tyX3 : Nat → FieldType := fun k => match k with
  | 0 => .array .int
  | 1 => .array .int
  | 2 => .int
  | 3 => .int
  | 4 => .int
  | _ => .int
abbrev wsX30 : List Cond := u_ws RX3 TX3 6
theorem nmX3 : ∀ a, a < 6 → ∀ b, b < 6 → a ≠ b → (TX3 a).2.1 ≠ (TX3 b).2.1 := by decide +kernel
theorem tyX3_ok : ∀ k, k < 6 → parseFieldDescriptor (TX3 k).2.2.1 = some (tyX3 k) := by decide +kernel
abbrev cX3_init : ByteArray := prog_5_method_1_code
noncomputable def yX3_init : MethodName := ⟨RX3, "<init>", "()V"⟩
abbrev cX3_arrange : ByteArray := prog_5_method_2_code
noncomputable def yX3_arrange : MethodName := ⟨RX3, "arrange", "(LRunmergeOffice$Settings;I)I"⟩
abbrev cX3_raiseLevel : ByteArray := prog_5_method_3_code
noncomputable def yX3_raiseLevel : MethodName := ⟨RX3, "raiseLevel", "()I"⟩
abbrev cX3_choose : ByteArray := prog_5_method_4_code
noncomputable def yX3_choose : MethodName := ⟨RX3, "choose", "([II)V"⟩
abbrev cX3_chooseGroups : ByteArray := prog_5_method_5_code
noncomputable def yX3_chooseGroups : MethodName := ⟨RX3, "chooseGroups", "(I)V"⟩
abbrev cX3_chooseShortest : ByteArray := prog_5_method_6_code
noncomputable def yX3_chooseShortest : MethodName := ⟨RX3, "chooseShortest", "([II)V"⟩
abbrev cX3_chooseHeads : ByteArray := prog_5_method_7_code
noncomputable def yX3_chooseHeads : MethodName := ⟨RX3, "chooseHeads", "(I)V"⟩
abbrev cX3_close : ByteArray := prog_5_method_8_code
noncomputable def yX3_close : MethodName := ⟨RX3, "close", "()V"⟩
abbrev cX3_mergeOf : ByteArray := prog_5_method_9_code
noncomputable def yX3_mergeOf : MethodName := ⟨RX3, "mergeOf", "(I)I"⟩
abbrev cX3_putsNewRunsFirst : ByteArray := prog_5_method_10_code
noncomputable def yX3_putsNewRunsFirst : MethodName := ⟨RX3, "putsNewRunsFirst", "()Z"⟩
def RX4 : String := "RunmergeOffice$Plan"
def TX4 : u_T := fun k => match k with
  | 0 => ("RunmergeOffice$Plan", "pass", "LRunmergeOffice$Pass;", true)
  | 1 => ("RunmergeOffice$Plan", "lengths", "[I", false)
  | 2 => ("RunmergeOffice$Plan", "newLengths", "[I", false)
  | 3 => ("RunmergeOffice$Plan", "count", "I", false)
  | 4 => ("RunmergeOffice$Plan", "newCount", "I", false)
  | 5 => ("RunmergeOffice$Plan", "passes", "I", false)
  | 6 => ("RunmergeOffice$Plan", "moves", "I", false)
  | _ => ("RunmergeOffice$Plan", "merges", "I", false)
def tyX4 : Nat → FieldType := fun k => match k with
  | 0 => .object "RunmergeOffice$Pass"
  | 1 => .array .int
  | 2 => .array .int
  | 3 => .int
  | 4 => .int
  | 5 => .int
  | 6 => .int
  | _ => .int
abbrev wsX40 : List Cond := u_ws RX4 TX4 8
theorem nmX4 : ∀ a, a < 8 → ∀ b, b < 8 → a ≠ b → (TX4 a).2.1 ≠ (TX4 b).2.1 := by decide +kernel
theorem tyX4_ok : ∀ k, k < 8 → parseFieldDescriptor (TX4 k).2.2.1 = some (tyX4 k) := by decide +kernel
abbrev cX4_init : ByteArray := prog_6_method_1_code
noncomputable def yX4_init : MethodName := ⟨RX4, "<init>", "()V"⟩
abbrev cX4_tell : ByteArray := prog_6_method_2_code
noncomputable def yX4_tell : MethodName := ⟨RX4, "tell", "(LRunmergeOffice$RunRow;LRunmergeOffice$Settings;)V"⟩
abbrev cX4_takeLengths : ByteArray := prog_6_method_3_code
noncomputable def yX4_takeLengths : MethodName := ⟨RX4, "takeLengths", "(LRunmergeOffice$RunRow;I)V"⟩
abbrev cX4_planPass : ByteArray := prog_6_method_4_code
noncomputable def yX4_planPass : MethodName := ⟨RX4, "planPass", "()V"⟩
abbrev cX4_planMerges : ByteArray := prog_6_method_5_code
noncomputable def yX4_planMerges : MethodName := ⟨RX4, "planMerges", "()V"⟩
abbrev cX4_keepOthers : ByteArray := prog_6_method_6_code
noncomputable def yX4_keepOthers : MethodName := ⟨RX4, "keepOthers", "()V"⟩
abbrev cX4_addLength : ByteArray := prog_6_method_7_code
noncomputable def yX4_addLength : MethodName := ⟨RX4, "addLength", "(I)V"⟩
abbrev cX4_fewestMoves : ByteArray := prog_6_method_8_code
noncomputable def yX4_fewestMoves : MethodName := ⟨RX4, "fewestMoves", "(LRunmergeOffice$RunRow;)I"⟩
abbrev cX4_takeShortest : ByteArray := prog_6_method_9_code
noncomputable def yX4_takeShortest : MethodName := ⟨RX4, "takeShortest", "(I)I"⟩
def RX5 : String := "RunmergeOffice$Reader"
def TX5 : u_T := fun k => match k with
  | 0 => ("RunmergeOffice$Reader", "text", "LRunmergeOffice$Text;", true)
  | 1 => ("RunmergeOffice$Reader", "operands", "[I", true)
  | 2 => ("RunmergeOffice$Reader", "told", "LRunmergeOffice$Settings;", true)
  | 3 => ("RunmergeOffice$Reader", "wordKind", "I", false)
  | 4 => ("RunmergeOffice$Reader", "wordPlace", "I", false)
  | 5 => ("RunmergeOffice$Reader", "wordEnd", "I", false)
  | 6 => ("RunmergeOffice$Reader", "number", "I", false)
  | 7 => ("RunmergeOffice$Reader", "statementPlace", "I", false)
  | 8 => ("RunmergeOffice$Reader", "action", "I", false)
  | 9 => ("RunmergeOffice$Reader", "how", "I", false)
  | 10 => ("RunmergeOffice$Reader", "isLast", "Z", false)
  | 11 => ("RunmergeOffice$Reader", "faultKind", "I", false)
  | _ => ("RunmergeOffice$Reader", "faultPlace", "I", false)
def tyX5 : Nat → FieldType := fun k => match k with
  | 0 => .object "RunmergeOffice$Text"
  | 1 => .array .int
  | 2 => .object "RunmergeOffice$Settings"
  | 3 => .int
  | 4 => .int
  | 5 => .int
  | 6 => .int
  | 7 => .int
  | 8 => .int
  | 9 => .int
  | 10 => .boolean
  | 11 => .int
  | _ => .int
abbrev wsX50 : List Cond := u_ws RX5 TX5 13
theorem nmX5 : ∀ a, a < 13 → ∀ b, b < 13 → a ≠ b → (TX5 a).2.1 ≠ (TX5 b).2.1 := by decide +kernel
theorem tyX5_ok : ∀ k, k < 13 → parseFieldDescriptor (TX5 k).2.2.1 = some (tyX5 k) := by decide +kernel
abbrev cX5_init : ByteArray := prog_7_method_1_code
noncomputable def yX5_init : MethodName := ⟨RX5, "<init>", "()V"⟩
abbrev cX5_restart : ByteArray := prog_7_method_2_code
noncomputable def yX5_restart : MethodName := ⟨RX5, "restart", "()V"⟩
abbrev cX5_tapeAt : ByteArray := prog_7_method_3_code
noncomputable def yX5_tapeAt : MethodName := ⟨RX5, "tapeAt", "(I)I"⟩
abbrev cX5_readStatement : ByteArray := prog_7_method_4_code
noncomputable def yX5_readStatement : MethodName := ⟨RX5, "readStatement", "(LRunmergeOffice$Settings;)Z"⟩
abbrev cX5_readTransfer : ByteArray := prog_7_method_5_code
noncomputable def yX5_readTransfer : MethodName := ⟨RX5, "readTransfer", "(I)Z"⟩
abbrev cX5_readCombining : ByteArray := prog_7_method_6_code
noncomputable def yX5_readCombining : MethodName := ⟨RX5, "readCombining", "(I)Z"⟩
abbrev cX5_readSingle : ByteArray := prog_7_method_7_code
noncomputable def yX5_readSingle : MethodName := ⟨RX5, "readSingle", "(I)Z"⟩
abbrev cX5_readTape : ByteArray := prog_7_method_8_code
noncomputable def yX5_readTape : MethodName := ⟨RX5, "readTape", "(I)Z"⟩
abbrev cX5_readInto : ByteArray := prog_7_method_9_code
noncomputable def yX5_readInto : MethodName := ⟨RX5, "readInto", "()Z"⟩
abbrev cX5_readSign : ByteArray := prog_7_method_10_code
noncomputable def yX5_readSign : MethodName := ⟨RX5, "readSign", "()Z"⟩
abbrev cX5_readOptions : ByteArray := prog_7_method_11_code
noncomputable def yX5_readOptions : MethodName := ⟨RX5, "readOptions", "()Z"⟩
abbrev cX5_readOption : ByteArray := prog_7_method_12_code
noncomputable def yX5_readOption : MethodName := ⟨RX5, "readOption", "()Z"⟩
abbrev cX5_readNumber : ByteArray := prog_7_method_13_code
noncomputable def yX5_readNumber : MethodName := ⟨RX5, "readNumber", "(II)Z"⟩
abbrev cX5_refuse : ByteArray := prog_7_method_14_code
noncomputable def yX5_refuse : MethodName := ⟨RX5, "refuse", "(I)Z"⟩
abbrev cX5_readWord : ByteArray := prog_7_method_15_code
noncomputable def yX5_readWord : MethodName := ⟨RX5, "readWord", "()V"⟩
abbrev cX5_kindOf : ByteArray := prog_7_method_16_code
noncomputable def yX5_kindOf : MethodName := ⟨RX5, "kindOf", "(I)I"⟩
abbrev cX5_isWord : ByteArray := prog_7_method_17_code
noncomputable def yX5_isWord : MethodName := ⟨RX5, "isWord", "(Ljava/lang/String;)Z"⟩
def RX6 : String := "RunmergeOffice$RunMaker"
def TX6 : u_T := fun k => match k with
  | 0 => ("RunmergeOffice$RunMaker", "memory", "[I", true)
  | 1 => ("RunmergeOffice$RunMaker", "runOf", "[I", true)
  | _ => ("RunmergeOffice$RunMaker", "held", "I", false)
def tyX6 : Nat → FieldType := fun k => match k with
  | 0 => .array .int
  | 1 => .array .int
  | _ => .int
abbrev wsX60 : List Cond := u_ws RX6 TX6 3
theorem nmX6 : ∀ a, a < 3 → ∀ b, b < 3 → a ≠ b → (TX6 a).2.1 ≠ (TX6 b).2.1 := by decide +kernel
theorem tyX6_ok : ∀ k, k < 3 → parseFieldDescriptor (TX6 k).2.2.1 = some (tyX6 k) := by decide +kernel
abbrev cX6_init : ByteArray := prog_8_method_1_code
noncomputable def yX6_init : MethodName := ⟨RX6, "<init>", "()V"⟩
abbrev cX6_makeRuns : ByteArray := prog_8_method_2_code
noncomputable def yX6_makeRuns : MethodName := ⟨RX6, "makeRuns", "(LRunmergeOffice$Book;LRunmergeOffice$Tape;LRunmergeOffice$Settings;LRunmergeOffice$RunRow;)V"⟩
abbrev cX6_makeFull : ByteArray := prog_8_method_3_code
noncomputable def yX6_makeFull : MethodName := ⟨RX6, "makeFull", "(LRunmergeOffice$Book;LRunmergeOffice$Tape;IILRunmergeOffice$RunRow;)V"⟩
abbrev cX6_holdInOrder : ByteArray := prog_8_method_4_code
noncomputable def yX6_holdInOrder : MethodName := ⟨RX6, "holdInOrder", "(I)V"⟩
abbrev cX6_makeByReplacement : ByteArray := prog_8_method_5_code
noncomputable def yX6_makeByReplacement : MethodName := ⟨RX6, "makeByReplacement", "(LRunmergeOffice$Book;LRunmergeOffice$Tape;IILRunmergeOffice$RunRow;)V"⟩
abbrev cX6_hold : ByteArray := prog_8_method_6_code
noncomputable def yX6_hold : MethodName := ⟨RX6, "hold", "(III)V"⟩
abbrev cX6_drop : ByteArray := prog_8_method_7_code
noncomputable def yX6_drop : MethodName := ⟨RX6, "drop", "(I)V"⟩
abbrev cX6_leastOf : ByteArray := prog_8_method_8_code
noncomputable def yX6_leastOf : MethodName := ⟨RX6, "leastOf", "(I)I"⟩
abbrev cX6_makeNatural : ByteArray := prog_8_method_9_code
noncomputable def yX6_makeNatural : MethodName := ⟨RX6, "makeNatural", "(LRunmergeOffice$Book;LRunmergeOffice$Tape;ILRunmergeOffice$RunRow;)V"⟩
def RX7 : String := "RunmergeOffice$RunRow"
def TX7 : u_T := fun k => match k with
  | 0 => ("RunmergeOffice$RunRow", "ranks", "[I", true)
  | 1 => ("RunmergeOffice$RunRow", "starts", "[I", true)
  | 2 => ("RunmergeOffice$RunRow", "lengths", "[I", true)
  | 3 => ("RunmergeOffice$RunRow", "count", "I", false)
  | _ => ("RunmergeOffice$RunRow", "filled", "I", false)
def tyX7 : Nat → FieldType := fun k => match k with
  | 0 => .array .int
  | 1 => .array .int
  | 2 => .array .int
  | 3 => .int
  | _ => .int
abbrev wsX70 : List Cond := u_ws RX7 TX7 5
theorem nmX7 : ∀ a, a < 5 → ∀ b, b < 5 → a ≠ b → (TX7 a).2.1 ≠ (TX7 b).2.1 := by decide +kernel
theorem tyX7_ok : ∀ k, k < 5 → parseFieldDescriptor (TX7 k).2.2.1 = some (tyX7 k) := by decide +kernel
abbrev cX7_init : ByteArray := prog_9_method_1_code
noncomputable def yX7_init : MethodName := ⟨RX7, "<init>", "()V"⟩
abbrev cX7_empty : ByteArray := prog_9_method_2_code
noncomputable def yX7_empty : MethodName := ⟨RX7, "empty", "()V"⟩
abbrev cX7_openRun : ByteArray := prog_9_method_3_code
noncomputable def yX7_openRun : MethodName := ⟨RX7, "openRun", "()V"⟩
abbrev cX7_add : ByteArray := prog_9_method_4_code
noncomputable def yX7_add : MethodName := ⟨RX7, "add", "(I)V"⟩
abbrev cX7_addRunOf : ByteArray := prog_9_method_5_code
noncomputable def yX7_addRunOf : MethodName := ⟨RX7, "addRunOf", "(LRunmergeOffice$RunRow;I)V"⟩
abbrev cX7_lengthOf : ByteArray := prog_9_method_6_code
noncomputable def yX7_lengthOf : MethodName := ⟨RX7, "lengthOf", "(I)I"⟩
abbrev cX7_rankAt : ByteArray := prog_9_method_7_code
noncomputable def yX7_rankAt : MethodName := ⟨RX7, "rankAt", "(II)I"⟩
def RX8 : String := "RunmergeOffice$Settings"
def TX8 : u_T := fun k => match k with
  | 0 => ("RunmergeOffice$Settings", "order", "I", false)
  | 1 => ("RunmergeOffice$Settings", "runWay", "I", false)
  | 2 => ("RunmergeOffice$Settings", "memory", "I", false)
  | 3 => ("RunmergeOffice$Settings", "mergeWay", "I", false)
  | _ => ("RunmergeOffice$Settings", "ways", "I", false)
def tyX8 : Nat → FieldType := fun k => match k with
  | 0 => .int
  | 1 => .int
  | 2 => .int
  | 3 => .int
  | _ => .int
abbrev wsX80 : List Cond := u_ws RX8 TX8 5
theorem nmX8 : ∀ a, a < 5 → ∀ b, b < 5 → a ≠ b → (TX8 a).2.1 ≠ (TX8 b).2.1 := by decide +kernel
theorem tyX8_ok : ∀ k, k < 5 → parseFieldDescriptor (TX8 k).2.2.1 = some (tyX8 k) := by decide +kernel
abbrev cX8_init : ByteArray := prog_10_method_1_code
noncomputable def yX8_init : MethodName := ⟨RX8, "<init>", "()V"⟩
abbrev cX8_takeOver : ByteArray := prog_10_method_2_code
noncomputable def yX8_takeOver : MethodName := ⟨RX8, "takeOver", "(LRunmergeOffice$Settings;)V"⟩
def RX9 : String := "RunmergeOffice$Tape"
def TX9 : u_T := fun k => match k with
  | 0 => ("RunmergeOffice$Tape", "held", "[I", true)
  | _ => ("RunmergeOffice$Tape", "size", "I", false)
def tyX9 : Nat → FieldType := fun k => match k with
  | 0 => .array .int
  | _ => .int
abbrev wsX90 : List Cond := u_ws RX9 TX9 2
theorem nmX9 : ∀ a, a < 2 → ∀ b, b < 2 → a ≠ b → (TX9 a).2.1 ≠ (TX9 b).2.1 := by decide +kernel
theorem tyX9_ok : ∀ k, k < 2 → parseFieldDescriptor (TX9 k).2.2.1 = some (tyX9 k) := by decide +kernel
abbrev cX9_init : ByteArray := prog_11_method_1_code
noncomputable def yX9_init : MethodName := ⟨RX9, "<init>", "()V"⟩
abbrev cX9_recordAt : ByteArray := prog_11_method_2_code
noncomputable def yX9_recordAt : MethodName := ⟨RX9, "recordAt", "(I)I"⟩
abbrev cX9_keyAt : ByteArray := prog_11_method_3_code
noncomputable def yX9_keyAt : MethodName := ⟨RX9, "keyAt", "(LRunmergeOffice$Book;I)I"⟩
abbrev cX9_empty : ByteArray := prog_11_method_4_code
noncomputable def yX9_empty : MethodName := ⟨RX9, "empty", "()V"⟩
abbrev cX9_add : ByteArray := prog_11_method_5_code
noncomputable def yX9_add : MethodName := ⟨RX9, "add", "(I)V"⟩
abbrev cX9_takeOver : ByteArray := prog_11_method_6_code
noncomputable def yX9_takeOver : MethodName := ⟨RX9, "takeOver", "(LRunmergeOffice$Tape;)V"⟩
abbrev cX9_reverse : ByteArray := prog_11_method_7_code
noncomputable def yX9_reverse : MethodName := ⟨RX9, "reverse", "()V"⟩
abbrev cX9_isInOrder : ByteArray := prog_11_method_8_code
noncomputable def yX9_isInOrder : MethodName := ⟨RX9, "isInOrder", "(LRunmergeOffice$Book;I)Z"⟩
abbrev cX9_thinOut : ByteArray := prog_11_method_9_code
noncomputable def yX9_thinOut : MethodName := ⟨RX9, "thinOut", "(LRunmergeOffice$Book;Z)I"⟩
abbrev cX9_countBelow : ByteArray := prog_11_method_10_code
noncomputable def yX9_countBelow : MethodName := ⟨RX9, "countBelow", "(LRunmergeOffice$Book;I)I"⟩
abbrev cX9_countUpTo : ByteArray := prog_11_method_11_code
noncomputable def yX9_countUpTo : MethodName := ⟨RX9, "countUpTo", "(LRunmergeOffice$Book;I)I"⟩
abbrev cX9_holdsKey : ByteArray := prog_11_method_12_code
noncomputable def yX9_holdsKey : MethodName := ⟨RX9, "holdsKey", "(LRunmergeOffice$Book;I)Z"⟩
abbrev cX9_unite : ByteArray := prog_11_method_13_code
noncomputable def yX9_unite : MethodName := ⟨RX9, "unite", "(LRunmergeOffice$Book;LRunmergeOffice$Tape;LRunmergeOffice$Tape;)V"⟩
abbrev cX9_pick : ByteArray := prog_11_method_14_code
noncomputable def yX9_pick : MethodName := ⟨RX9, "pick", "(LRunmergeOffice$Book;LRunmergeOffice$Tape;LRunmergeOffice$Tape;Z)V"⟩
def RX10 : String := "RunmergeOffice$Text"
def TX10 : u_T := fun k => match k with
  | 0 => ("RunmergeOffice$Text", "bytes", "[I", true)
  | _ => ("RunmergeOffice$Text", "size", "I", false)
def tyX10 : Nat → FieldType := fun k => match k with
  | 0 => .array .int
  | _ => .int
abbrev wsX100 : List Cond := u_ws RX10 TX10 2
theorem nmX10 : ∀ a, a < 2 → ∀ b, b < 2 → a ≠ b → (TX10 a).2.1 ≠ (TX10 b).2.1 := by decide +kernel
theorem tyX10_ok : ∀ k, k < 2 → parseFieldDescriptor (TX10 k).2.2.1 = some (tyX10 k) := by decide +kernel
abbrev cX10_init : ByteArray := prog_12_method_1_code
noncomputable def yX10_init : MethodName := ⟨RX10, "<init>", "()V"⟩
abbrev cX10_byteAt : ByteArray := prog_12_method_2_code
noncomputable def yX10_byteAt : MethodName := ⟨RX10, "byteAt", "(I)I"⟩
abbrev cX10_empty : ByteArray := prog_12_method_3_code
noncomputable def yX10_empty : MethodName := ⟨RX10, "empty", "()V"⟩
abbrev cX10_add : ByteArray := prog_12_method_4_code
noncomputable def yX10_add : MethodName := ⟨RX10, "add", "(I)V"⟩
def RX11 : String := "RunmergeOffice"
def TX11 : u_T := fun k => match k with
  | 0 => ("RunmergeOffice", "book", "LRunmergeOffice$Book;", true)
  | 1 => ("RunmergeOffice", "tapes", "[LRunmergeOffice$Tape;", true)
  | 2 => ("RunmergeOffice", "copies", "[LRunmergeOffice$Tape;", true)
  | 3 => ("RunmergeOffice", "joined", "LRunmergeOffice$Tape;", true)
  | 4 => ("RunmergeOffice", "settings", "LRunmergeOffice$Settings;", true)
  | 5 => ("RunmergeOffice", "maker", "LRunmergeOffice$RunMaker;", true)
  | 6 => ("RunmergeOffice", "asked", "LRunmergeOffice$RunRow;", true)
  | 7 => ("RunmergeOffice", "planned", "LRunmergeOffice$Plan;", true)
  | 8 => ("RunmergeOffice", "standing", "LRunmergeOffice$Job;", true)
  | 9 => ("RunmergeOffice", "passing", "LRunmergeOffice$Job;", true)
  | 10 => ("RunmergeOffice", "reader", "LRunmergeOffice$Reader;", true)
  | 11 => ("RunmergeOffice", "checker", "LRunmergeOffice$Checker;", true)
  | _ => ("RunmergeOffice", "hasJob", "Z", false)
def tyX11 : Nat → FieldType := fun k => match k with
  | 0 => .object "RunmergeOffice$Book"
  | 1 => .array (.object "RunmergeOffice$Tape")
  | 2 => .array (.object "RunmergeOffice$Tape")
  | 3 => .object "RunmergeOffice$Tape"
  | 4 => .object "RunmergeOffice$Settings"
  | 5 => .object "RunmergeOffice$RunMaker"
  | 6 => .object "RunmergeOffice$RunRow"
  | 7 => .object "RunmergeOffice$Plan"
  | 8 => .object "RunmergeOffice$Job"
  | 9 => .object "RunmergeOffice$Job"
  | 10 => .object "RunmergeOffice$Reader"
  | 11 => .object "RunmergeOffice$Checker"
  | _ => .boolean
abbrev wsX110 : List Cond := u_ws RX11 TX11 13
theorem nmX11 : ∀ a, a < 13 → ∀ b, b < 13 → a ≠ b → (TX11 a).2.1 ≠ (TX11 b).2.1 := by decide +kernel
theorem tyX11_ok : ∀ k, k < 13 → parseFieldDescriptor (TX11 k).2.2.1 = some (tyX11 k) := by decide +kernel
abbrev cX11_init : ByteArray := prog_1_method_1_code
noncomputable def yX11_init : MethodName := ⟨RX11, "<init>", "()V"⟩
abbrev cX11_put : ByteArray := prog_1_method_2_code
noncomputable def yX11_put : MethodName := ⟨RX11, "put", "(III)I"⟩
abbrev cX11_fill : ByteArray := prog_1_method_3_code
noncomputable def yX11_fill : MethodName := ⟨RX11, "fill", "(IIII)I"⟩
abbrev cX11_scatter : ByteArray := prog_1_method_4_code
noncomputable def yX11_scatter : MethodName := ⟨RX11, "scatter", "(IIII)I"⟩
abbrev cX11_records : ByteArray := prog_1_method_5_code
noncomputable def yX11_records : MethodName := ⟨RX11, "records", "()I"⟩
abbrev cX11_key : ByteArray := prog_1_method_6_code
noncomputable def yX11_key : MethodName := ⟨RX11, "key", "(I)I"⟩
abbrev cX11_length : ByteArray := prog_1_method_8_code
noncomputable def yX11_length : MethodName := ⟨RX11, "length", "(I)I"⟩
abbrev cX11_at : ByteArray := prog_1_method_9_code
noncomputable def yX11_at : MethodName := ⟨RX11, "at", "(II)I"⟩
abbrev cX11_digest : ByteArray := prog_1_method_10_code
noncomputable def yX11_digest : MethodName := ⟨RX11, "digest", "(I)I"⟩
abbrev cX11_isSorted : ByteArray := prog_1_method_11_code
noncomputable def yX11_isSorted : MethodName := ⟨RX11, "isSorted", "(II)Z"⟩
abbrev cX11_clear : ByteArray := prog_1_method_12_code
noncomputable def yX11_clear : MethodName := ⟨RX11, "clear", "(I)I"⟩
abbrev cX11_copy : ByteArray := prog_1_method_13_code
noncomputable def yX11_copy : MethodName := ⟨RX11, "copy", "(II)I"⟩
abbrev cX11_turn : ByteArray := prog_1_method_14_code
noncomputable def yX11_turn : MethodName := ⟨RX11, "turn", "(I)I"⟩
abbrev cX11_setRuns : ByteArray := prog_1_method_15_code
noncomputable def yX11_setRuns : MethodName := ⟨RX11, "setRuns", "(III)I"⟩
abbrev cX11_setMerge : ByteArray := prog_1_method_16_code
noncomputable def yX11_setMerge : MethodName := ⟨RX11, "setMerge", "(II)I"⟩
abbrev cX11_setting : ByteArray := prog_1_method_17_code
noncomputable def yX11_setting : MethodName := ⟨RX11, "setting", "(I)I"⟩
abbrev cX11_runs : ByteArray := prog_1_method_18_code
noncomputable def yX11_runs : MethodName := ⟨RX11, "runs", "(I)I"⟩
abbrev cX11_runLength : ByteArray := prog_1_method_19_code
noncomputable def yX11_runLength : MethodName := ⟨RX11, "runLength", "(II)I"⟩
abbrev cX11_runAt : ByteArray := prog_1_method_20_code
noncomputable def yX11_runAt : MethodName := ⟨RX11, "runAt", "(III)I"⟩
abbrev cX11_plan : ByteArray := prog_1_method_21_code
noncomputable def yX11_plan : MethodName := ⟨RX11, "plan", "(II)I"⟩
abbrev cX11_leastMoves : ByteArray := prog_1_method_22_code
noncomputable def yX11_leastMoves : MethodName := ⟨RX11, "leastMoves", "(I)I"⟩
abbrev cX11_begin : ByteArray := prog_1_method_23_code
noncomputable def yX11_begin : MethodName := ⟨RX11, "begin", "(II)I"⟩
abbrev cX11_work : ByteArray := prog_1_method_24_code
noncomputable def yX11_work : MethodName := ⟨RX11, "work", "(I)I"⟩
abbrev cX11_tear : ByteArray := prog_1_method_25_code
noncomputable def yX11_tear : MethodName := ⟨RX11, "tear", "()I"⟩
abbrev cX11_job : ByteArray := prog_1_method_26_code
noncomputable def yX11_job : MethodName := ⟨RX11, "job", "(I)I"⟩
abbrev cX11_sort : ByteArray := prog_1_method_27_code
noncomputable def yX11_sort : MethodName := ⟨RX11, "sort", "(II)I"⟩
abbrev cX11_combine : ByteArray := prog_1_method_28_code
noncomputable def yX11_combine : MethodName := ⟨RX11, "combine", "(IIII)I"⟩
abbrev cX11_thin : ByteArray := prog_1_method_29_code
noncomputable def yX11_thin : MethodName := ⟨RX11, "thin", "(IZ)I"⟩
abbrev cX11_find : ByteArray := prog_1_method_30_code
noncomputable def yX11_find : MethodName := ⟨RX11, "find", "(II)I"⟩
abbrev cX11_floor : ByteArray := prog_1_method_31_code
noncomputable def yX11_floor : MethodName := ⟨RX11, "floor", "(II)I"⟩
abbrev cX11_ceiling : ByteArray := prog_1_method_32_code
noncomputable def yX11_ceiling : MethodName := ⟨RX11, "ceiling", "(II)I"⟩
abbrev cX11_between : ByteArray := prog_1_method_33_code
noncomputable def yX11_between : MethodName := ⟨RX11, "between", "(III)I"⟩
abbrev cX11_keys : ByteArray := prog_1_method_34_code
noncomputable def yX11_keys : MethodName := ⟨RX11, "keys", "(I)I"⟩
abbrev cX11_type : ByteArray := prog_1_method_35_code
noncomputable def yX11_type : MethodName := ⟨RX11, "type", "(J)I"⟩
abbrev cX11_clearText : ByteArray := prog_1_method_36_code
noncomputable def yX11_clearText : MethodName := ⟨RX11, "clearText", "()I"⟩
abbrev cX11_errorKind : ByteArray := prog_1_method_39_code
noncomputable def yX11_errorKind : MethodName := ⟨RX11, "errorKind", "()I"⟩
abbrev cX11_errorPlace : ByteArray := prog_1_method_40_code
noncomputable def yX11_errorPlace : MethodName := ⟨RX11, "errorPlace", "()I"⟩
abbrev cX11_run : ByteArray := prog_1_method_41_code
noncomputable def yX11_run : MethodName := ⟨RX11, "run", "()I"⟩
abbrev cX11_errors : ByteArray := prog_1_method_42_code
noncomputable def yX11_errors : MethodName := ⟨RX11, "errors", "(I)I"⟩
abbrev cX11_tapeOf : ByteArray := prog_1_method_45_code
noncomputable def yX11_tapeOf : MethodName := ⟨RX11, "tapeOf", "(I)LRunmergeOffice$Tape;"⟩
abbrev cX11_sortedTapeOf : ByteArray := prog_1_method_46_code
noncomputable def yX11_sortedTapeOf : MethodName := ⟨RX11, "sortedTapeOf", "(I)LRunmergeOffice$Tape;"⟩
abbrev cX11_demandRecord : ByteArray := prog_1_method_47_code
noncomputable def yX11_demandRecord : MethodName := ⟨RX11, "demandRecord", "(I)V"⟩
abbrev cX11_demandRange : ByteArray := prog_1_method_48_code
noncomputable def yX11_demandRange : MethodName := ⟨RX11, "demandRange", "(III)V"⟩
abbrev cX11_demandRoom : ByteArray := prog_1_method_49_code
noncomputable def yX11_demandRoom : MethodName := ⟨RX11, "demandRoom", "(LRunmergeOffice$Tape;I)V"⟩
abbrev cX11_demandJobUnderWay : ByteArray := prog_1_method_50_code
noncomputable def yX11_demandJobUnderWay : MethodName := ⟨RX11, "demandJobUnderWay", "()V"⟩
abbrev cX11_askForRun : ByteArray := prog_1_method_51_code
noncomputable def yX11_askForRun : MethodName := ⟨RX11, "askForRun", "(II)V"⟩
abbrev cX11_byteOf : ByteArray := prog_1_method_52_code
noncomputable def yX11_byteOf : MethodName := ⟨RX11, "byteOf", "(JI)I"⟩
abbrev cX11_join : ByteArray := prog_1_method_53_code
noncomputable def yX11_join : MethodName := ⟨RX11, "join", "(LRunmergeOffice$Tape;LRunmergeOffice$Tape;LRunmergeOffice$Tape;I)Z"⟩
abbrev cX11_carryOutText : ByteArray := prog_1_method_54_code
noncomputable def yX11_carryOutText : MethodName := ⟨RX11, "carryOutText", "()I"⟩
abbrev cX11_carryOutStatement : ByteArray := prog_1_method_55_code
noncomputable def yX11_carryOutStatement : MethodName := ⟨RX11, "carryOutStatement", "()Z"⟩
abbrev cX11_isTape : ByteArray := prog_1_method_56_code
noncomputable def yX11_isTape : MethodName := ⟨RX11, "isTape", "(I)Z"⟩
def RX12 : String := "RunmergeOfficeModel$Job"
def TX12 : u_T := fun k => match k with
  | _ => ("", "", "", false)
def tyX12 : Nat → FieldType := fun k => match k with
  | _ => .int
abbrev wsX120 : List Cond := u_ws RX12 TX12 0
theorem nmX12 : ∀ a, a < 0 → ∀ b, b < 0 → a ≠ b → (TX12 a).2.1 ≠ (TX12 b).2.1 := by decide +kernel
theorem tyX12_ok : ∀ k, k < 0 → parseFieldDescriptor (TX12 k).2.2.1 = some (tyX12 k) := by decide +kernel
def RX13 : String := "RunmergeOfficeModel"
def TX13 : u_T := fun k => match k with
  | _ => ("", "", "", false)
def tyX13 : Nat → FieldType := fun k => match k with
  | _ => .int
abbrev wsX130 : List Cond := u_ws RX13 TX13 0
theorem nmX13 : ∀ a, a < 0 → ∀ b, b < 0 → a ≠ b → (TX13 a).2.1 ≠ (TX13 b).2.1 := by decide +kernel
theorem tyX13_ok : ∀ k, k < 0 → parseFieldDescriptor (TX13 k).2.2.1 = some (tyX13 k) := by decide +kernel
def RJx145de : String := "java/io/Serializable"
def TJx145de : u_T := fun k => match k with
  | _ => ("", "", "", false)
def tyJx145de : Nat → FieldType := fun k => match k with
  | _ => .int
abbrev wsJx145de0 : List Cond := u_ws RJx145de TJx145de 0
theorem nmJx145de : ∀ a, a < 0 → ∀ b, b < 0 → a ≠ b → (TJx145de a).2.1 ≠ (TJx145de b).2.1 := by decide +kernel
theorem tyJx145de_ok : ∀ k, k < 0 → parseFieldDescriptor (TJx145de k).2.2.1 = some (tyJx145de k) := by decide +kernel
def RJ5 : String := "java/lang/AbstractStringBuilder"
def TJ5 : u_T := fun k => match k with
  | _ => ("", "", "", false)
def tyJ5 : Nat → FieldType := fun k => match k with
  | _ => .int
abbrev wsJ50 : List Cond := u_ws RJ5 TJ5 0
theorem nmJ5 : ∀ a, a < 0 → ∀ b, b < 0 → a ≠ b → (TJ5 a).2.1 ≠ (TJ5 b).2.1 := by decide +kernel
theorem tyJ5_ok : ∀ k, k < 0 → parseFieldDescriptor (TJ5 k).2.2.1 = some (tyJ5 k) := by decide +kernel
abbrev cJ5_init_d00df : ByteArray := prog_17_method_2_code
noncomputable def yJ5_init_d00df : MethodName := ⟨RJ5, "<init>", "(I)V"⟩
abbrev cJ5_init_a7421 : ByteArray := prog_17_method_3_code
noncomputable def yJ5_init_a7421 : MethodName := ⟨RJ5, "<init>", "(Ljava/lang/String;)V"⟩
abbrev cJ5_length_8abf5 : ByteArray := prog_17_method_6_code
noncomputable def yJ5_length_8abf5 : MethodName := ⟨RJ5, "length", "()I"⟩
abbrev cJ5_ensureCapacityInternal_d00df : ByteArray := prog_17_method_9_code
noncomputable def yJ5_ensureCapacityInternal_d00df : MethodName := ⟨RJ5, "ensureCapacityInternal", "(I)V"⟩
abbrev cJ5_newCapacity_0f7a4 : ByteArray := prog_17_method_10_code
noncomputable def yJ5_newCapacity_0f7a4 : MethodName := ⟨RJ5, "newCapacity", "(I)I"⟩
abbrev cJ5_inflate_da8c8 : ByteArray := prog_17_method_11_code
noncomputable def yJ5_inflate_da8c8 : MethodName := ⟨RJ5, "inflate", "()V"⟩
abbrev cJ5_charAt_5068e : ByteArray := prog_17_method_14_code
noncomputable def yJ5_charAt_5068e : MethodName := ⟨RJ5, "charAt", "(I)C"⟩
abbrev cJ5_append_cf1ce : ByteArray := prog_17_method_22_code
noncomputable def yJ5_append_cf1ce : MethodName := ⟨RJ5, "append", "(Ljava/lang/String;)Ljava/lang/AbstractStringBuilder;"⟩
abbrev cJ5_appendNull_278bc : ByteArray := prog_17_method_26_code
noncomputable def yJ5_appendNull_278bc : MethodName := ⟨RJ5, "appendNull", "()Ljava/lang/AbstractStringBuilder;"⟩
abbrev cJ5_append_c97b9 : ByteArray := prog_17_method_32_code
noncomputable def yJ5_append_c97b9 : MethodName := ⟨RJ5, "append", "(I)Ljava/lang/AbstractStringBuilder;"⟩
abbrev cJ5_getValue_6d5f1 : ByteArray := prog_17_method_64_code
noncomputable def yJ5_getValue_6d5f1 : MethodName := ⟨RJ5, "getValue", "()[B"⟩
abbrev cJ5_isLatin1_aae02 : ByteArray := prog_17_method_68_code
noncomputable def yJ5_isLatin1_aae02 : MethodName := ⟨RJ5, "isLatin1", "()Z"⟩
abbrev cJ5_inflateIfNeededFor_a7421 : ByteArray := prog_17_method_71_code
noncomputable def yJ5_inflateIfNeededFor_a7421 : MethodName := ⟨RJ5, "inflateIfNeededFor", "(Ljava/lang/String;)V"⟩
abbrev cJ5_putStringAt_47b60 : ByteArray := prog_17_method_73_code
noncomputable def yJ5_putStringAt_47b60 : MethodName := ⟨RJ5, "putStringAt", "(ILjava/lang/String;)V"⟩
def RJx2cfe8 : String := "java/lang/Appendable"
def TJx2cfe8 : u_T := fun k => match k with
  | _ => ("", "", "", false)
def tyJx2cfe8 : Nat → FieldType := fun k => match k with
  | _ => .int
abbrev wsJx2cfe80 : List Cond := u_ws RJx2cfe8 TJx2cfe8 0
theorem nmJx2cfe8 : ∀ a, a < 0 → ∀ b, b < 0 → a ≠ b → (TJx2cfe8 a).2.1 ≠ (TJx2cfe8 b).2.1 := by decide +kernel
theorem tyJx2cfe8_ok : ∀ k, k < 0 → parseFieldDescriptor (TJx2cfe8 k).2.2.1 = some (tyJx2cfe8 k) := by decide +kernel
def RJx9f9b0 : String := "java/lang/CharSequence"
def TJx9f9b0 : u_T := fun k => match k with
  | _ => ("", "", "", false)
def tyJx9f9b0 : Nat → FieldType := fun k => match k with
  | _ => .int
abbrev wsJx9f9b00 : List Cond := u_ws RJx9f9b0 TJx9f9b0 0
theorem nmJx9f9b0 : ∀ a, a < 0 → ∀ b, b < 0 → a ≠ b → (TJx9f9b0 a).2.1 ≠ (TJx9f9b0 b).2.1 := by decide +kernel
theorem tyJx9f9b0_ok : ∀ k, k < 0 → parseFieldDescriptor (TJx9f9b0 k).2.2.1 = some (tyJx9f9b0 k) := by decide +kernel
def RJx8e188 : String := "java/lang/Cloneable"
def TJx8e188 : u_T := fun k => match k with
  | _ => ("", "", "", false)
def tyJx8e188 : Nat → FieldType := fun k => match k with
  | _ => .int
abbrev wsJx8e1880 : List Cond := u_ws RJx8e188 TJx8e188 0
theorem nmJx8e188 : ∀ a, a < 0 → ∀ b, b < 0 → a ≠ b → (TJx8e188 a).2.1 ≠ (TJx8e188 b).2.1 := by decide +kernel
theorem tyJx8e188_ok : ∀ k, k < 0 → parseFieldDescriptor (TJx8e188 k).2.2.1 = some (tyJx8e188 k) := by decide +kernel
def RJxb160c : String := "java/lang/Comparable"
def TJxb160c : u_T := fun k => match k with
  | _ => ("", "", "", false)
def tyJxb160c : Nat → FieldType := fun k => match k with
  | _ => .int
abbrev wsJxb160c0 : List Cond := u_ws RJxb160c TJxb160c 0
theorem nmJxb160c : ∀ a, a < 0 → ∀ b, b < 0 → a ≠ b → (TJxb160c a).2.1 ≠ (TJxb160c b).2.1 := by decide +kernel
theorem tyJxb160c_ok : ∀ k, k < 0 → parseFieldDescriptor (TJxb160c k).2.2.1 = some (tyJxb160c k) := by decide +kernel
def RJ6 : String := "java/lang/Integer"
def TJ6 : u_T := fun k => match k with
  | _ => ("", "", "", false)
def tyJ6 : Nat → FieldType := fun k => match k with
  | _ => .int
abbrev wsJ60 : List Cond := u_ws RJ6 TJ6 0
theorem nmJ6 : ∀ a, a < 0 → ∀ b, b < 0 → a ≠ b → (TJ6 a).2.1 ≠ (TJ6 b).2.1 := by decide +kernel
theorem tyJ6_ok : ∀ k, k < 0 → parseFieldDescriptor (TJ6 k).2.2.1 = some (tyJ6 k) := by decide +kernel
abbrev cJ6_getChars_ba4f3 : ByteArray := prog_26_method_12_code
noncomputable def yJ6_getChars_ba4f3 : MethodName := ⟨RJ6, "getChars", "(II[B)I"⟩
abbrev cJ6_stringSize_0f7a4 : ByteArray := prog_26_method_13_code
noncomputable def yJ6_stringSize_0f7a4 : MethodName := ⟨RJ6, "stringSize", "(I)I"⟩
def RJ9 : String := "java/lang/Math"
def TJ9 : u_T := fun k => match k with
  | _ => ("", "", "", false)
def tyJ9 : Nat → FieldType := fun k => match k with
  | _ => .int
abbrev wsJ90 : List Cond := u_ws RJ9 TJ9 0
theorem nmJ9 : ∀ a, a < 0 → ∀ b, b < 0 → a ≠ b → (TJ9 a).2.1 ≠ (TJ9 b).2.1 := by decide +kernel
theorem tyJ9_ok : ∀ k, k < 0 → parseFieldDescriptor (TJ9 k).2.2.1 = some (tyJ9 k) := by decide +kernel
abbrev cJ9_max_7cf53 : ByteArray := prog_27_method_65_code
noncomputable def yJ9_max_7cf53 : MethodName := ⟨RJ9, "max", "(II)I"⟩
abbrev cJ9_min_7cf53 : ByteArray := prog_27_method_69_code
noncomputable def yJ9_min_7cf53 : MethodName := ⟨RJ9, "min", "(II)I"⟩
def RJxd2413 : String := "java/lang/Number"
def TJxd2413 : u_T := fun k => match k with
  | _ => ("", "", "", false)
def tyJxd2413 : Nat → FieldType := fun k => match k with
  | _ => .int
abbrev wsJxd24130 : List Cond := u_ws RJxd2413 TJxd2413 0
theorem nmJxd2413 : ∀ a, a < 0 → ∀ b, b < 0 → a ≠ b → (TJxd2413 a).2.1 ≠ (TJxd2413 b).2.1 := by decide +kernel
theorem tyJxd2413_ok : ∀ k, k < 0 → parseFieldDescriptor (TJxd2413 k).2.2.1 = some (tyJxd2413 k) := by decide +kernel
def RJ0 : String := "java/lang/String"
def TJ0 : u_T := fun k => match k with
  | 0 => ("java/lang/String", "value", "[B", true)
  | 1 => ("java/lang/String", "coder", "B", true)
  | 2 => ("java/lang/String", "hash", "I", false)
  | _ => ("java/lang/String", "hashIsZero", "Z", false)
def tyJ0 : Nat → FieldType := fun k => match k with
  | 0 => .array .byte
  | 1 => .byte
  | 2 => .int
  | _ => .boolean
abbrev wsJ00 : List Cond := u_ws RJ0 TJ0 4
theorem nmJ0 : ∀ a, a < 4 → ∀ b, b < 4 → a ≠ b → (TJ0 a).2.1 ≠ (TJ0 b).2.1 := by decide +kernel
theorem tyJ0_ok : ∀ k, k < 4 → parseFieldDescriptor (TJ0 k).2.2.1 = some (tyJ0 k) := by decide +kernel
abbrev cJ0_init_81219 : ByteArray := prog_30_method_53_code
noncomputable def yJ0_init_81219 : MethodName := ⟨RJ0, "<init>", "(Ljava/lang/StringBuilder;)V"⟩
abbrev cJ0_length_8abf5 : ByteArray := prog_30_method_54_code
noncomputable def yJ0_length_8abf5 : MethodName := ⟨RJ0, "length", "()I"⟩
abbrev cJ0_charAt_5068e : ByteArray := prog_30_method_56_code
noncomputable def yJ0_charAt_5068e : MethodName := ⟨RJ0, "charAt", "(I)C"⟩
abbrev cJ0_getBytes_840e7 : ByteArray := prog_30_method_147_code
noncomputable def yJ0_getBytes_840e7 : MethodName := ⟨RJ0, "getBytes", "([BIB)V"⟩
abbrev cJ0_init_db425 : ByteArray := prog_30_method_150_code
noncomputable def yJ0_init_db425 : MethodName := ⟨RJ0, "<init>", "(Ljava/lang/AbstractStringBuilder;Ljava/lang/Void;)V"⟩
abbrev cJ0_coder_7d493 : ByteArray := prog_30_method_152_code
noncomputable def yJ0_coder_7d493 : MethodName := ⟨RJ0, "coder", "()B"⟩
abbrev cJ0_isLatin1_aae02 : ByteArray := prog_30_method_154_code
noncomputable def yJ0_isLatin1_aae02 : MethodName := ⟨RJ0, "isLatin1", "()Z"⟩
abbrev cJ0_checkIndex_df160 : ByteArray := prog_30_method_155_code
noncomputable def yJ0_checkIndex_df160 : MethodName := ⟨RJ0, "checkIndex", "(II)V"⟩
abbrev cJ0_checkBoundsOffCount_cabcc : ByteArray := prog_30_method_157_code
noncomputable def yJ0_checkBoundsOffCount_cabcc : MethodName := ⟨RJ0, "checkBoundsOffCount", "(III)I"⟩
abbrev cJ0_checkBoundsBeginEnd_23922 : ByteArray := prog_30_method_158_code
noncomputable def yJ0_checkBoundsBeginEnd_23922 : MethodName := ⟨RJ0, "checkBoundsBeginEnd", "(III)V"⟩
def RJ4 : String := "java/lang/StringBuilder"
def TJ4 : u_T := fun k => match k with
  | 0 => ("java/lang/AbstractStringBuilder", "value", "[B", false)
  | 1 => ("java/lang/AbstractStringBuilder", "coder", "B", false)
  | 2 => ("java/lang/AbstractStringBuilder", "maybeLatin1", "Z", false)
  | _ => ("java/lang/AbstractStringBuilder", "count", "I", false)
def tyJ4 : Nat → FieldType := fun k => match k with
  | 0 => .array .byte
  | 1 => .byte
  | 2 => .boolean
  | _ => .int
abbrev wsJ40 : List Cond := u_ws RJ4 TJ4 4
theorem nmJ4 : ∀ a, a < 4 → ∀ b, b < 4 → a ≠ b → (TJ4 a).2.1 ≠ (TJ4 b).2.1 := by decide +kernel
theorem tyJ4_ok : ∀ k, k < 4 → parseFieldDescriptor (TJ4 k).2.2.1 = some (tyJ4 k) := by decide +kernel
abbrev cJ4_init_da8c8 : ByteArray := prog_31_method_1_code
noncomputable def yJ4_init_da8c8 : MethodName := ⟨RJ4, "<init>", "()V"⟩
abbrev cJ4_init_a7421 : ByteArray := prog_31_method_3_code
noncomputable def yJ4_init_a7421 : MethodName := ⟨RJ4, "<init>", "(Ljava/lang/String;)V"⟩
abbrev cJ4_append_15ec4 : ByteArray := prog_31_method_7_code
noncomputable def yJ4_append_15ec4 : MethodName := ⟨RJ4, "append", "(Ljava/lang/String;)Ljava/lang/StringBuilder;"⟩
abbrev cJ4_append_bf812 : ByteArray := prog_31_method_15_code
noncomputable def yJ4_append_bf812 : MethodName := ⟨RJ4, "append", "(I)Ljava/lang/StringBuilder;"⟩
abbrev cJ4_toString_0e30d : ByteArray := prog_31_method_42_code
noncomputable def yJ4_toString_0e30d : MethodName := ⟨RJ4, "toString", "()Ljava/lang/String;"⟩
abbrev cJ4_append_cf1ce : ByteArray := prog_31_method_80_code
noncomputable def yJ4_append_cf1ce : MethodName := ⟨RJ4, "append", "(Ljava/lang/String;)Ljava/lang/AbstractStringBuilder;"⟩
abbrev cJ4_charAt_5068e : ByteArray := prog_31_method_88_code
noncomputable def yJ4_charAt_5068e : MethodName := ⟨RJ4, "charAt", "(I)C"⟩
abbrev cJ4_length_8abf5 : ByteArray := prog_31_method_93_code
noncomputable def yJ4_length_8abf5 : MethodName := ⟨RJ4, "length", "()I"⟩
def RJ1 : String := "java/lang/StringLatin1"
def TJ1 : u_T := fun k => match k with
  | _ => ("", "", "", false)
def tyJ1 : Nat → FieldType := fun k => match k with
  | _ => .int
abbrev wsJ10 : List Cond := u_ws RJ1 TJ1 0
theorem nmJ1 : ∀ a, a < 0 → ∀ b, b < 0 → a ≠ b → (TJ1 a).2.1 ≠ (TJ1 b).2.1 := by decide +kernel
theorem tyJ1_ok : ∀ k, k < 0 → parseFieldDescriptor (TJ1 k).2.2.1 = some (tyJ1 k) := by decide +kernel
abbrev cJ1_charAt_3b067 : ByteArray := prog_32_method_2_code
noncomputable def yJ1_charAt_3b067 : MethodName := ⟨RJ1, "charAt", "([BI)C"⟩
abbrev cJ1_inflate_0e8fd : ByteArray := prog_32_method_50_code
noncomputable def yJ1_inflate_0e8fd : MethodName := ⟨RJ1, "inflate", "([BI[BII)V"⟩
def RJ2 : String := "java/lang/StringUTF16"
def TJ2 : u_T := fun k => match k with
  | _ => ("", "", "", false)
def tyJ2 : Nat → FieldType := fun k => match k with
  | _ => .int
abbrev wsJ20 : List Cond := u_ws RJ2 TJ2 0
theorem nmJ2 : ∀ a, a < 0 → ∀ b, b < 0 → a ≠ b → (TJ2 a).2.1 ≠ (TJ2 b).2.1 := by decide +kernel
theorem tyJ2_ok : ∀ k, k < 0 → parseFieldDescriptor (TJ2 k).2.2.1 = some (tyJ2 k) := by decide +kernel
abbrev cJ2_newBytesFor_77867 : ByteArray := prog_33_method_2_code
noncomputable def yJ2_newBytesFor_77867 : MethodName := ⟨RJ2, "newBytesFor", "(I)[B"⟩
abbrev cJ2_newBytesLength_0f7a4 : ByteArray := prog_33_method_3_code
noncomputable def yJ2_newBytesLength_0f7a4 : MethodName := ⟨RJ2, "newBytesLength", "(I)I"⟩
abbrev cJ2_putChar_b72d1 : ByteArray := prog_33_method_4_code
noncomputable def yJ2_putChar_b72d1 : MethodName := ⟨RJ2, "putChar", "([BII)V"⟩
abbrev cJ2_getChar_3b067 : ByteArray := prog_33_method_5_code
noncomputable def yJ2_getChar_3b067 : MethodName := ⟨RJ2, "getChar", "([BI)C"⟩
abbrev cJ2_length_9d52b : ByteArray := prog_33_method_6_code
noncomputable def yJ2_length_9d52b : MethodName := ⟨RJ2, "length", "([B)I"⟩
abbrev cJ2_coderFromArrayLen_85cad : ByteArray := prog_33_method_15_code
noncomputable def yJ2_coderFromArrayLen_85cad : MethodName := ⟨RJ2, "coderFromArrayLen", "([BI)B"⟩
abbrev cJ2_compress_39247 : ByteArray := prog_33_method_17_code
noncomputable def yJ2_compress_39247 : MethodName := ⟨RJ2, "compress", "([BII)[B"⟩
abbrev cJ2_compress_5af95 : ByteArray := prog_33_method_22_code
noncomputable def yJ2_compress_5af95 : MethodName := ⟨RJ2, "compress", "([BI[BII)I"⟩
abbrev cJ2_getChars_46870 : ByteArray := prog_33_method_77_code
noncomputable def yJ2_getChars_46870 : MethodName := ⟨RJ2, "getChars", "(III[B)I"⟩
abbrev cJ2_putCharsAt_cd4e5 : ByteArray := prog_33_method_81_code
noncomputable def yJ2_putCharsAt_cd4e5 : MethodName := ⟨RJ2, "putCharsAt", "([BICCCC)I"⟩
abbrev cJ2_charAt_3b067 : ByteArray := prog_33_method_83_code
noncomputable def yJ2_charAt_3b067 : MethodName := ⟨RJ2, "charAt", "([BI)C"⟩
abbrev cJ2_inflate_0e8fd : ByteArray := prog_33_method_86_code
noncomputable def yJ2_inflate_0e8fd : MethodName := ⟨RJ2, "inflate", "([BI[BII)V"⟩
abbrev cJ2_getChars_ba4f3 : ByteArray := prog_33_method_89_code
noncomputable def yJ2_getChars_ba4f3 : MethodName := ⟨RJ2, "getChars", "(II[B)I"⟩
abbrev cJ2_checkIndex_2214a : ByteArray := prog_33_method_91_code
noncomputable def yJ2_checkIndex_2214a : MethodName := ⟨RJ2, "checkIndex", "(I[B)V"⟩
abbrev cJ2_checkBoundsBeginEnd_d044e : ByteArray := prog_33_method_93_code
noncomputable def yJ2_checkBoundsBeginEnd_d044e : MethodName := ⟨RJ2, "checkBoundsBeginEnd", "(II[B)V"⟩
abbrev cJ2_checkBoundsOffCount_d044e : ByteArray := prog_33_method_94_code
noncomputable def yJ2_checkBoundsOffCount_d044e : MethodName := ⟨RJ2, "checkBoundsOffCount", "(II[B)V"⟩
def RJ10 : String := "java/lang/System"
def TJ10 : u_T := fun k => match k with
  | _ => ("", "", "", false)
def tyJ10 : Nat → FieldType := fun k => match k with
  | _ => .int
abbrev wsJ100 : List Cond := u_ws RJ10 TJ10 0
theorem nmJ10 : ∀ a, a < 0 → ∀ b, b < 0 → a ≠ b → (TJ10 a).2.1 ≠ (TJ10 b).2.1 := by decide +kernel
theorem tyJ10_ok : ∀ k, k < 0 → parseFieldDescriptor (TJ10 k).2.2.1 = some (tyJ10 k) := by decide +kernel
def RJxfd54e : String := "java/lang/constant/Constable"
def TJxfd54e : u_T := fun k => match k with
  | _ => ("", "", "", false)
def tyJxfd54e : Nat → FieldType := fun k => match k with
  | _ => .int
abbrev wsJxfd54e0 : List Cond := u_ws RJxfd54e TJxfd54e 0
theorem nmJxfd54e : ∀ a, a < 0 → ∀ b, b < 0 → a ≠ b → (TJxfd54e a).2.1 ≠ (TJxfd54e b).2.1 := by decide +kernel
theorem tyJxfd54e_ok : ∀ k, k < 0 → parseFieldDescriptor (TJxfd54e k).2.2.1 = some (tyJxfd54e k) := by decide +kernel
def RJx3cf43 : String := "java/lang/constant/ConstantDesc"
def TJx3cf43 : u_T := fun k => match k with
  | _ => ("", "", "", false)
def tyJx3cf43 : Nat → FieldType := fun k => match k with
  | _ => .int
abbrev wsJx3cf430 : List Cond := u_ws RJx3cf43 TJx3cf43 0
theorem nmJx3cf43 : ∀ a, a < 0 → ∀ b, b < 0 → a ≠ b → (TJx3cf43 a).2.1 ≠ (TJx3cf43 b).2.1 := by decide +kernel
theorem tyJx3cf43_ok : ∀ k, k < 0 → parseFieldDescriptor (TJx3cf43 k).2.2.1 = some (tyJx3cf43 k) := by decide +kernel
def RJ7 : String := "java/util/Arrays"
def TJ7 : u_T := fun k => match k with
  | _ => ("", "", "", false)
def tyJ7 : Nat → FieldType := fun k => match k with
  | _ => .int
abbrev wsJ70 : List Cond := u_ws RJ7 TJ7 0
theorem nmJ7 : ∀ a, a < 0 → ∀ b, b < 0 → a ≠ b → (TJ7 a).2.1 ≠ (TJ7 b).2.1 := by decide +kernel
theorem tyJ7_ok : ∀ k, k < 0 → parseFieldDescriptor (TJ7 k).2.2.1 = some (tyJ7 k) := by decide +kernel
abbrev cJ7_copyOf_9075b : ByteArray := prog_38_method_121_code
noncomputable def yJ7_copyOf_9075b : MethodName := ⟨RJ7, "copyOf", "([BI)[B"⟩
abbrev cJ7_checkLength_df160 : ByteArray := prog_38_method_131_code
noncomputable def yJ7_checkLength_df160 : MethodName := ⟨RJ7, "checkLength", "(II)V"⟩
abbrev cJ7_copyOfRange_39247 : ByteArray := prog_38_method_132_code
noncomputable def yJ7_copyOfRange_39247 : MethodName := ⟨RJ7, "copyOfRange", "([BII)[B"⟩
abbrev cJ7_copyOfRangeByte_39247 : ByteArray := prog_38_method_133_code
noncomputable def yJ7_copyOfRangeByte_39247 : MethodName := ⟨RJ7, "copyOfRangeByte", "([BII)[B"⟩
def RJ8 : String := "jdk/internal/util/ArraysSupport"
def TJ8 : u_T := fun k => match k with
  | _ => ("", "", "", false)
def tyJ8 : Nat → FieldType := fun k => match k with
  | _ => .int
abbrev wsJ80 : List Cond := u_ws RJ8 TJ8 0
theorem nmJ8 : ∀ a, a < 0 → ∀ b, b < 0 → a ≠ b → (TJ8 a).2.1 ≠ (TJ8 b).2.1 := by decide +kernel
theorem tyJ8_ok : ∀ k, k < 0 → parseFieldDescriptor (TJ8 k).2.2.1 = some (tyJ8 k) := by decide +kernel
abbrev cJ8_newLength_cabcc : ByteArray := prog_40_method_27_code
noncomputable def yJ8_newLength_cabcc : MethodName := ⟨RJ8, "newLength", "(III)I"⟩
abbrev cJ8_hugeLength_7cf53 : ByteArray := prog_40_method_28_code
noncomputable def yJ8_hugeLength_7cf53 : MethodName := ⟨RJ8, "hugeLength", "(II)I"⟩
def RJ3 : String := "jdk/internal/util/Preconditions"
def TJ3 : u_T := fun k => match k with
  | _ => ("", "", "", false)
def tyJ3 : Nat → FieldType := fun k => match k with
  | _ => .int
abbrev wsJ30 : List Cond := u_ws RJ3 TJ3 0
theorem nmJ3 : ∀ a, a < 0 → ∀ b, b < 0 → a ≠ b → (TJ3 a).2.1 ≠ (TJ3 b).2.1 := by decide +kernel
theorem tyJ3_ok : ∀ k, k < 0 → parseFieldDescriptor (TJ3 k).2.2.1 = some (tyJ3 k) := by decide +kernel
abbrev cJ3_checkIndex_8e157 : ByteArray := prog_41_method_11_code
noncomputable def yJ3_checkIndex_8e157 : MethodName := ⟨RJ3, "checkIndex", "(IILjava/util/function/BiFunction;)I"⟩
abbrev cJ3_checkFromToIndex_8c36e : ByteArray := prog_41_method_12_code
noncomputable def yJ3_checkFromToIndex_8c36e : MethodName := ⟨RJ3, "checkFromToIndex", "(IIILjava/util/function/BiFunction;)I"⟩
abbrev cJ3_checkFromIndexSize_8c36e : ByteArray := prog_41_method_13_code
noncomputable def yJ3_checkFromIndexSize_8c36e : MethodName := ⟨RJ3, "checkFromIndexSize", "(IIILjava/util/function/BiFunction;)I"⟩
def RL : String := "RunmergeOfficeLaw"
abbrev cL_seed : ByteArray := method_2_code
noncomputable def yL_seed : MethodName := ⟨RL, "seed", "([I)[I"⟩
abbrev cL_next : ByteArray := method_3_code
noncomputable def yL_next : MethodName := ⟨RL, "next", "([I)I"⟩
abbrev cL_draw : ByteArray := method_4_code
noncomputable def yL_draw : MethodName := ⟨RL, "draw", "([II)I"⟩
abbrev cL_asks : ByteArray := method_5_code
noncomputable def yL_asks : MethodName := ⟨RL, "asks", "(LRunmergeOffice;IIII)I"⟩
abbrev cL_tape : ByteArray := method_6_code
noncomputable def yL_tape : MethodName := ⟨RL, "tape", "(LRunmergeOffice;I)[I"⟩
abbrev cL_before : ByteArray := method_7_code
noncomputable def yL_before : MethodName := ⟨RL, "before", "(LRunmergeOffice;III)Z"⟩
abbrev cL_sorted : ByteArray := method_8_code
noncomputable def yL_sorted : MethodName := ⟨RL, "sorted", "(LRunmergeOffice;[II)[I"⟩
abbrev cL_same : ByteArray := method_9_code
noncomputable def yL_same : MethodName := ⟨RL, "same", "([I[I)Z"⟩
abbrev cL_draws : ByteArray := method_10_code
noncomputable def yL_draws : MethodName := ⟨RL, "draws", "(LRunmergeOffice;[II)V"⟩
abbrev cL_lengths : ByteArray := method_11_code
noncomputable def yL_lengths : MethodName := ⟨RL, "lengths", "(LRunmergeOffice;I)[I"⟩
abbrev cL_areRuns : ByteArray := method_12_code
noncomputable def yL_areRuns : MethodName := ⟨RL, "areRuns", "(LRunmergeOffice;[IIIII)Z"⟩
abbrev cL_least : ByteArray := method_13_code
noncomputable def yL_least : MethodName := ⟨RL, "least", "([II)I"⟩
abbrev cL_takes : ByteArray := method_14_code
noncomputable def yL_takes : MethodName := ⟨RL, "takes", "([III)I"⟩
abbrev cL_planned : ByteArray := method_15_code
noncomputable def yL_planned : MethodName := ⟨RL, "planned", "([III)[I"⟩
abbrev cL_polyphase : ByteArray := method_16_code
noncomputable def yL_polyphase : MethodName := ⟨RL, "polyphase", "([II)[I"⟩
abbrev cL_isPlanned : ByteArray := method_17_code
noncomputable def yL_isPlanned : MethodName := ⟨RL, "isPlanned", "(LRunmergeOffice;[II)Z"⟩
abbrev cL_isJob : ByteArray := method_18_code
noncomputable def yL_isJob : MethodName := ⟨RL, "isJob", "(LRunmergeOffice;[IIII)Z"⟩
abbrev cL_isSort : ByteArray := method_19_code
noncomputable def yL_isSort : MethodName := ⟨RL, "isSort", "(LRunmergeOffice;[IIII)Z"⟩
abbrev cL_hasKey : ByteArray := method_20_code
noncomputable def yL_hasKey : MethodName := ⟨RL, "hasKey", "(LRunmergeOffice;[II)Z"⟩
abbrev cL_together : ByteArray := method_21_code
noncomputable def yL_together : MethodName := ⟨RL, "together", "(LRunmergeOffice;[I[II)[I"⟩
abbrev cL_isCombined : ByteArray := method_22_code
noncomputable def yL_isCombined : MethodName := ⟨RL, "isCombined", "(LRunmergeOffice;[III)Z"⟩
abbrev cL_isLookedUp : ByteArray := method_23_code
noncomputable def yL_isLookedUp : MethodName := ⟨RL, "isLookedUp", "(LRunmergeOffice;[II)Z"⟩
abbrev cL_isThinned : ByteArray := method_24_code
noncomputable def yL_isThinned : MethodName := ⟨RL, "isThinned", "(LRunmergeOffice;[II)Z"⟩
abbrev cL_says : ByteArray := method_25_code
noncomputable def yL_says : MethodName := ⟨RL, "says", "(LRunmergeOffice;Ljava/lang/CharSequence;)V"⟩
abbrev cL_statement : ByteArray := method_26_code
noncomputable def yL_statement : MethodName := ⟨RL, "statement", "([I)[I"⟩
abbrev cL_tells : ByteArray := method_27_code
noncomputable def yL_tells : MethodName := ⟨RL, "tells", "([ILjava/lang/StringBuilder;[I)V"⟩
abbrev cL_does : ByteArray := method_28_code
noncomputable def yL_does : MethodName := ⟨RL, "does", "(LRunmergeOffice;[I)Z"⟩
abbrev cL_copies : ByteArray := method_29_code
noncomputable def yL_copies : MethodName := ⟨RL, "copies", "(LRunmergeOffice;LRunmergeOffice;[I)V"⟩
abbrev cL_isProgram : ByteArray := method_30_code
noncomputable def yL_isProgram : MethodName := ⟨RL, "isProgram", "([I)Z"⟩
abbrev cL_isWrong : ByteArray := method_31_code
noncomputable def yL_isWrong : MethodName := ⟨RL, "isWrong", "(LRunmergeOffice;[I)Z"⟩
abbrev cL_areRefused : ByteArray := method_32_code
noncomputable def yL_areRefused : MethodName := ⟨RL, "areRefused", "(LRunmergeOffice;[I)Z"⟩
abbrev cL_law : ByteArray := code
noncomputable def yL_law : MethodName := ⟨RL, "law", "([I)Z"⟩
