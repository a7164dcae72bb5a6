/-! ===== BEGIN printed: names, fields, word lists, decode rows ===== -/
def RX0 : String := "Gridprobe$Formula"
def TX0 : u_T := fun k => match k with
  | 0 => ("Gridprobe$Formula", "kinds", "[I", true)
  | 1 => ("Gridprobe$Formula", "numbers", "[I", true)
  | 2 => ("Gridprobe$Formula", "stack", "[I", true)
  | 3 => ("Gridprobe$Formula", "parts", "I", false)
  | _ => ("Gridprobe$Formula", "formulas", "I", false)
def tyX0 : Nat → FieldType := fun k => match k with
  | 0 => .array .int
  | 1 => .array .int
  | 2 => .array .int
  | 3 => .int
  | _ => .int
abbrev wsX00 : List Cond := u_ws RX0 TX0 5
theorem nmX0 : ∀ a, a < 5 → ∀ b, b < 5 → a ≠ b → (TX0 a).2.1 ≠ (TX0 b).2.1 := by decide +kernel
theorem tyX0_ok : ∀ k, k < 5 → parseFieldDescriptor (TX0 k).2.2.1 = some (tyX0 k) := by decide +kernel
abbrev cX0_init : ByteArray := prog_2_method_1_code
def yX0_init : MethodName := ⟨RX0, "<init>", "()V"⟩
abbrev cX0_put : ByteArray := prog_2_method_2_code
def yX0_put : MethodName := ⟨RX0, "put", "(II)Z"⟩
abbrev cX0_clear : ByteArray := prog_2_method_3_code
def yX0_clear : MethodName := ⟨RX0, "clear", "()V"⟩
abbrev cX0_copyFrom : ByteArray := prog_2_method_4_code
def yX0_copyFrom : MethodName := ⟨RX0, "copyFrom", "(LGridprobe$Formula;)V"⟩
abbrev cX0_readSet : ByteArray := prog_2_method_5_code
def yX0_readSet : MethodName := ⟨RX0, "readSet", "()I"⟩
abbrev cX0_reckon : ByteArray := prog_2_method_6_code
def yX0_reckon : MethodName := ⟨RX0, "reckon", "([J)J"⟩
abbrev cX0_leaf : ByteArray := prog_2_method_7_code
def yX0_leaf : MethodName := ⟨RX0, "leaf", "(II[J)J"⟩
abbrev cX0_operate : ByteArray := prog_2_method_8_code
def yX0_operate : MethodName := ⟨RX0, "operate", "(III)J"⟩
def RX1 : String := "Gridprobe$LockDesk"
def TX1 : u_T := fun k => match k with
  | 0 => ("Gridprobe$LockDesk", "owners", "[I", true)
  | 1 => ("Gridprobe$LockDesk", "lastDays", "[I", true)
  | 2 => ("Gridprobe$LockDesk", "row", "[I", true)
  | 3 => ("Gridprobe$LockDesk", "day", "I", false)
  | _ => ("Gridprobe$LockDesk", "unlockedCount", "I", false)
def tyX1 : Nat → FieldType := fun k => match k with
  | 0 => .array .int
  | 1 => .array .int
  | 2 => .array .int
  | 3 => .int
  | _ => .int
abbrev wsX10 : List Cond := u_ws RX1 TX1 5
theorem nmX1 : ∀ a, a < 5 → ∀ b, b < 5 → a ≠ b → (TX1 a).2.1 ≠ (TX1 b).2.1 := by decide +kernel
theorem tyX1_ok : ∀ k, k < 5 → parseFieldDescriptor (TX1 k).2.2.1 = some (tyX1 k) := by decide +kernel
abbrev cX1_init : ByteArray := prog_3_method_1_code
def yX1_init : MethodName := ⟨RX1, "<init>", "()V"⟩
abbrev cX1_waivedCells : ByteArray := prog_3_method_2_code
def yX1_waivedCells : MethodName := ⟨RX1, "waivedCells", "()I"⟩
abbrev cX1_keepUnlocked : ByteArray := prog_3_method_3_code
def yX1_keepUnlocked : MethodName := ⟨RX1, "keepUnlocked", "(LGridprobe$Sheet;II)V"⟩
def RX2 : String := "Gridprobe$PropertyList"
def TX2 : u_T := fun k => match k with
  | 0 => ("Gridprobe$PropertyList", "kinds", "[I", true)
  | 1 => ("Gridprobe$PropertyList", "numbers", "[I", true)
  | _ => ("Gridprobe$PropertyList", "count", "I", false)
def tyX2 : Nat → FieldType := fun k => match k with
  | 0 => .array .int
  | 1 => .array .int
  | _ => .int
abbrev wsX20 : List Cond := u_ws RX2 TX2 3
theorem nmX2 : ∀ a, a < 3 → ∀ b, b < 3 → a ≠ b → (TX2 a).2.1 ≠ (TX2 b).2.1 := by decide +kernel
theorem tyX2_ok : ∀ k, k < 3 → parseFieldDescriptor (TX2 k).2.2.1 = some (tyX2 k) := by decide +kernel
abbrev cX2_init : ByteArray := prog_4_method_1_code
def yX2_init : MethodName := ⟨RX2, "<init>", "()V"⟩
abbrev cX2_add : ByteArray := prog_4_method_2_code
def yX2_add : MethodName := ⟨RX2, "add", "(II)Z"⟩
abbrev cX2_firstBroken : ByteArray := prog_4_method_3_code
def yX2_firstBroken : MethodName := ⟨RX2, "firstBroken", "(LGridprobe$Sheet;I[I)I"⟩
abbrev cX2_holds : ByteArray := prog_4_method_4_code
def yX2_holds : MethodName := ⟨RX2, "holds", "(ILGridprobe$Sheet;I[I)Z"⟩
def RX3 : String := "Gridprobe$Sheet"
def TX3 : u_T := fun k => match k with
  | 0 => ("Gridprobe$Sheet", "formulas", "[LGridprobe$Formula;", true)
  | 1 => ("Gridprobe$Sheet", "lows", "[I", true)
  | 2 => ("Gridprobe$Sheet", "highs", "[I", true)
  | 3 => ("Gridprobe$Sheet", "values", "[I", true)
  | 4 => ("Gridprobe$Sheet", "readCells", "[I", true)
  | 5 => ("Gridprobe$Sheet", "restedOn", "[I", true)
  | 6 => ("Gridprobe$Sheet", "order", "[I", true)
  | 7 => ("Gridprobe$Sheet", "reckoned", "[J", true)
  | _ => ("Gridprobe$Sheet", "inputs", "I", false)
def tyX3 : Nat → FieldType := fun k => match k with
  | 0 => .array (.object "Gridprobe$Formula")
  | 1 => .array .int
  | 2 => .array .int
  | 3 => .array .int
  | 4 => .array .int
  | 5 => .array .int
  | 6 => .array .int
  | 7 => .array .long
  | _ => .int
abbrev wsX30 : List Cond := u_ws RX3 TX3 9
theorem nmX3 : ∀ a, a < 9 → ∀ b, b < 9 → a ≠ b → (TX3 a).2.1 ≠ (TX3 b).2.1 := by decide +kernel
theorem tyX3_ok : ∀ k, k < 9 → parseFieldDescriptor (TX3 k).2.2.1 = some (tyX3 k) := by decide +kernel
abbrev cX3_init : ByteArray := prog_5_method_1_code
def yX3_init : MethodName := ⟨RX3, "<init>", "()V"⟩
abbrev cX3_isInput : ByteArray := prog_5_method_2_code
def yX3_isInput : MethodName := ⟨RX3, "isInput", "(I)Z"⟩
abbrev cX3_makeInput : ByteArray := prog_5_method_3_code
def yX3_makeInput : MethodName := ⟨RX3, "makeInput", "(III)V"⟩
abbrev cX3_makeFormula : ByteArray := prog_5_method_4_code
def yX3_makeFormula : MethodName := ⟨RX3, "makeFormula", "(ILGridprobe$Formula;)V"⟩
abbrev cX3_wouldRestOnItself : ByteArray := prog_5_method_5_code
def yX3_wouldRestOnItself : MethodName := ⟨RX3, "wouldRestOnItself", "(ILGridprobe$Formula;)Z"⟩
abbrev cX3_restedOnThrough : ByteArray := prog_5_method_6_code
def yX3_restedOnThrough : MethodName := ⟨RX3, "restedOnThrough", "(I)I"⟩
abbrev cX3_arrange : ByteArray := prog_5_method_7_code
def yX3_arrange : MethodName := ⟨RX3, "arrange", "()V"⟩
abbrev cX3_cellsRestingOn : ByteArray := prog_5_method_8_code
def yX3_cellsRestingOn : MethodName := ⟨RX3, "cellsRestingOn", "(I)I"⟩
abbrev cX3_reckon : ByteArray := prog_5_method_9_code
def yX3_reckon : MethodName := ⟨RX3, "reckon", "(I[I)J"⟩
abbrev cX3_lockedCells : ByteArray := prog_5_method_10_code
def yX3_lockedCells : MethodName := ⟨RX3, "lockedCells", "(II)I"⟩
abbrev cX3_reachedFrom : ByteArray := prog_5_method_11_code
def yX3_reachedFrom : MethodName := ⟨RX3, "reachedFrom", "(II)I"⟩
abbrev cX3_lineUpReaders : ByteArray := prog_5_method_12_code
def yX3_lineUpReaders : MethodName := ⟨RX3, "lineUpReaders", "(I[I)I"⟩
def RX4 : String := "Gridprobe$Trials"
def TX4 : u_T := fun k => match k with
  | 0 => ("Gridprobe$Trials", "row", "[I", true)
  | 1 => ("Gridprobe$Trials", "failedBy", "[I", true)
  | 2 => ("Gridprobe$Trials", "timesSmaller", "[I", true)
  | 3 => ("Gridprobe$Trials", "exampleInputs", "[I", true)
  | 4 => ("Gridprobe$Trials", "examples", "[[I", true)
  | 5 => ("Gridprobe$Trials", "passed", "I", false)
  | 6 => ("Gridprobe$Trials", "failed", "I", false)
  | 7 => ("Gridprobe$Trials", "drawn", "I", false)
  | _ => ("Gridprobe$Trials", "broken", "I", false)
def tyX4 : Nat → FieldType := fun k => match k with
  | 0 => .array .int
  | 1 => .array .int
  | 2 => .array .int
  | 3 => .array .int
  | 4 => .array (.array .int)
  | 5 => .int
  | 6 => .int
  | 7 => .int
  | _ => .int
abbrev wsX40 : List Cond := u_ws RX4 TX4 9
theorem nmX4 : ∀ a, a < 9 → ∀ b, b < 9 → a ≠ b → (TX4 a).2.1 ≠ (TX4 b).2.1 := by decide +kernel
theorem tyX4_ok : ∀ k, k < 9 → parseFieldDescriptor (TX4 k).2.2.1 = some (tyX4 k) := by decide +kernel
abbrev cX4_init : ByteArray := prog_6_method_1_code
def yX4_init : MethodName := ⟨RX4, "<init>", "()V"⟩
abbrev cX4_untry : ByteArray := prog_6_method_2_code
def yX4_untry : MethodName := ⟨RX4, "untry", "(I)I"⟩
abbrev cX4_findFailedRow : ByteArray := prog_6_method_3_code
def yX4_findFailedRow : MethodName := ⟨RX4, "findFailedRow", "(LGridprobe$Sheet;LGridprobe$PropertyList;III)I"⟩
abbrev cX4_keepPassed : ByteArray := prog_6_method_4_code
def yX4_keepPassed : MethodName := ⟨RX4, "keepPassed", "(I)V"⟩
abbrev cX4_keepFailed : ByteArray := prog_6_method_5_code
def yX4_keepFailed : MethodName := ⟨RX4, "keepFailed", "(III)V"⟩
abbrev cX4_fillRow : ByteArray := prog_6_method_6_code
def yX4_fillRow : MethodName := ⟨RX4, "fillRow", "(ILGridprobe$Sheet;)V"⟩
abbrev cX4_rowValue : ByteArray := prog_6_method_7_code
def yX4_rowValue : MethodName := ⟨RX4, "rowValue", "(III)I"⟩
abbrev cX4_makeSmaller : ByteArray := prog_6_method_8_code
def yX4_makeSmaller : MethodName := ⟨RX4, "makeSmaller", "(LGridprobe$Sheet;LGridprobe$PropertyList;I)I"⟩
abbrev cX4_stepSmaller : ByteArray := prog_6_method_9_code
def yX4_stepSmaller : MethodName := ⟨RX4, "stepSmaller", "(LGridprobe$Sheet;LGridprobe$PropertyList;I)Z"⟩
def RX5 : String := "Gridprobe"
def TX5 : u_T := fun k => match k with
  | 0 => ("Gridprobe", "draft", "LGridprobe$Formula;", true)
  | 1 => ("Gridprobe", "sheet", "LGridprobe$Sheet;", true)
  | 2 => ("Gridprobe", "told", "[LGridprobe$PropertyList;", true)
  | 3 => ("Gridprobe", "trials", "LGridprobe$Trials;", true)
  | _ => ("Gridprobe", "desk", "LGridprobe$LockDesk;", true)
def tyX5 : Nat → FieldType := fun k => match k with
  | 0 => .object "Gridprobe$Formula"
  | 1 => .object "Gridprobe$Sheet"
  | 2 => .array (.object "Gridprobe$PropertyList")
  | 3 => .object "Gridprobe$Trials"
  | _ => .object "Gridprobe$LockDesk"
abbrev wsX50 : List Cond := u_ws RX5 TX5 5
theorem nmX5 : ∀ a, a < 5 → ∀ b, b < 5 → a ≠ b → (TX5 a).2.1 ≠ (TX5 b).2.1 := by decide +kernel
theorem tyX5_ok : ∀ k, k < 5 → parseFieldDescriptor (TX5 k).2.2.1 = some (tyX5 k) := by decide +kernel
abbrev cX5_init : ByteArray := prog_1_method_1_code
def yX5_init : MethodName := ⟨RX5, "<init>", "()V"⟩
abbrev cX5_number : ByteArray := prog_1_method_2_code
def yX5_number : MethodName := ⟨RX5, "number", "(I)I"⟩
abbrev cX5_cell : ByteArray := prog_1_method_3_code
def yX5_cell : MethodName := ⟨RX5, "cell", "(I)I"⟩
abbrev cX5_apply : ByteArray := prog_1_method_4_code
def yX5_apply : MethodName := ⟨RX5, "apply", "(I)I"⟩
abbrev cX5_wipe : ByteArray := prog_1_method_5_code
def yX5_wipe : MethodName := ⟨RX5, "wipe", "()I"⟩
abbrev cX5_enter : ByteArray := prog_1_method_6_code
def yX5_enter : MethodName := ⟨RX5, "enter", "(I)I"⟩
abbrev cX5_input : ByteArray := prog_1_method_7_code
def yX5_input : MethodName := ⟨RX5, "input", "(III)I"⟩
abbrev cX5_set : ByteArray := prog_1_method_8_code
def yX5_set : MethodName := ⟨RX5, "set", "(II)I"⟩
abbrev cX5_tell : ByteArray := prog_1_method_9_code
def yX5_tell : MethodName := ⟨RX5, "tell", "(III)I"⟩
abbrev cX5_drop : ByteArray := prog_1_method_10_code
def yX5_drop : MethodName := ⟨RX5, "drop", "(I)I"⟩
abbrev cX5_own : ByteArray := prog_1_method_11_code
def yX5_own : MethodName := ⟨RX5, "own", "(II)I"⟩
abbrev cX5_attempt : ByteArray := prog_1_method_12_code
def yX5_attempt : MethodName := ⟨RX5, "attempt", "(III)I"⟩
abbrev cX5_waive : ByteArray := prog_1_method_13_code
def yX5_waive : MethodName := ⟨RX5, "waive", "(III)I"⟩
abbrev cX5_pass : ByteArray := prog_1_method_14_code
def yX5_pass : MethodName := ⟨RX5, "pass", "(I)I"⟩
abbrev cX5_drafted : ByteArray := prog_1_method_15_code
def yX5_drafted : MethodName := ⟨RX5, "drafted", "()I"⟩
abbrev cX5_reads : ByteArray := prog_1_method_17_code
def yX5_reads : MethodName := ⟨RX5, "reads", "(I)I"⟩
abbrev cX5_rests : ByteArray := prog_1_method_18_code
def yX5_rests : MethodName := ⟨RX5, "rests", "(I)I"⟩
abbrev cX5_show : ByteArray := prog_1_method_19_code
def yX5_show : MethodName := ⟨RX5, "show", "(I)I"⟩
abbrev cX5_verdict : ByteArray := prog_1_method_20_code
def yX5_verdict : MethodName := ⟨RX5, "verdict", "(I)I"⟩
abbrev cX5_failing : ByteArray := prog_1_method_21_code
def yX5_failing : MethodName := ⟨RX5, "failing", "(I)I"⟩
abbrev cX5_example : ByteArray := prog_1_method_22_code
def yX5_example : MethodName := ⟨RX5, "example", "(II)I"⟩
abbrev cX5_smaller : ByteArray := prog_1_method_23_code
def yX5_smaller : MethodName := ⟨RX5, "smaller", "(I)I"⟩
abbrev cX5_isLocked : ByteArray := prog_1_method_24_code
def yX5_isLocked : MethodName := ⟨RX5, "isLocked", "(I)Z"⟩
abbrev cX5_isLockedByWays : ByteArray := prog_1_method_25_code
def yX5_isLockedByWays : MethodName := ⟨RX5, "isLockedByWays", "(I)Z"⟩
abbrev cX5_isMarked : ByteArray := prog_1_method_26_code
def yX5_isMarked : MethodName := ⟨RX5, "isMarked", "(I)Z"⟩
abbrev cX5_locked : ByteArray := prog_1_method_27_code
def yX5_locked : MethodName := ⟨RX5, "locked", "()I"⟩
abbrev cX5_needCell : ByteArray := prog_1_method_30_code
def yX5_needCell : MethodName := ⟨RX5, "needCell", "(I)V"⟩
abbrev cX5_has : ByteArray := prog_1_method_31_code
def yX5_has : MethodName := ⟨RX5, "has", "(II)Z"⟩
abbrev cX5_lockedCells : ByteArray := prog_1_method_32_code
def yX5_lockedCells : MethodName := ⟨RX5, "lockedCells", "()I"⟩
abbrev cX5_followChange : ByteArray := prog_1_method_33_code
def yX5_followChange : MethodName := ⟨RX5, "followChange", "(I)I"⟩
def RX6 : String := "GridprobeModel"
def TX6 : u_T := fun k => match k with
  | _ => ("", "", "", false)
def tyX6 : Nat → FieldType := fun k => match k with
  | _ => .int
abbrev wsX60 : List Cond := u_ws RX6 TX6 0
theorem nmX6 : ∀ a, a < 0 → ∀ b, b < 0 → a ≠ b → (TX6 a).2.1 ≠ (TX6 b).2.1 := by decide +kernel
theorem tyX6_ok : ∀ k, k < 0 → parseFieldDescriptor (TX6 k).2.2.1 = some (tyX6 k) := by decide +kernel
def RJx145de : String := "java/io/Serializable"
def TJx145de : u_T := fun k => match k with
  | _ => ("", "", "", false)
def tyJx145de : Nat → FieldType := fun k => match k with
  | _ => .int
abbrev wsJx145de0 : List Cond := u_ws RJx145de TJx145de 0
theorem nmJx145de : ∀ a, a < 0 → ∀ b, b < 0 → a ≠ b → (TJx145de a).2.1 ≠ (TJx145de b).2.1 := by decide +kernel
theorem tyJx145de_ok : ∀ k, k < 0 → parseFieldDescriptor (TJx145de k).2.2.1 = some (tyJx145de k) := by decide +kernel
def RJ6 : String := "java/lang/Integer"
def TJ6 : u_T := fun k => match k with
  | _ => ("", "", "", false)
def tyJ6 : Nat → FieldType := fun k => match k with
  | _ => .int
abbrev wsJ60 : List Cond := u_ws RJ6 TJ6 0
theorem nmJ6 : ∀ a, a < 0 → ∀ b, b < 0 → a ≠ b → (TJ6 a).2.1 ≠ (TJ6 b).2.1 := by decide +kernel
theorem tyJ6_ok : ∀ k, k < 0 → parseFieldDescriptor (TJ6 k).2.2.1 = some (tyJ6 k) := by decide +kernel
abbrev cJ6_bitCount_0f7a4 : ByteArray := prog_15_method_49_code
def yJ6_bitCount_0f7a4 : MethodName := ⟨RJ6, "bitCount", "(I)I"⟩
def RJ9 : String := "java/lang/Math"
def TJ9 : u_T := fun k => match k with
  | _ => ("", "", "", false)
def tyJ9 : Nat → FieldType := fun k => match k with
  | _ => .int
abbrev wsJ90 : List Cond := u_ws RJ9 TJ9 0
theorem nmJ9 : ∀ a, a < 0 → ∀ b, b < 0 → a ≠ b → (TJ9 a).2.1 ≠ (TJ9 b).2.1 := by decide +kernel
theorem tyJ9_ok : ∀ k, k < 0 → parseFieldDescriptor (TJ9 k).2.2.1 = some (tyJ9 k) := by decide +kernel
abbrev cJ9_floorMod_7cf53 : ByteArray := prog_16_method_50_code
def yJ9_floorMod_7cf53 : MethodName := ⟨RJ9, "floorMod", "(II)I"⟩
def RJ0 : String := "java/lang/String"
def TJ0 : u_T := fun k => match k with
  | _ => ("", "", "", false)
def tyJ0 : Nat → FieldType := fun k => match k with
  | _ => .int
abbrev wsJ00 : List Cond := u_ws RJ0 TJ0 0
theorem nmJ0 : ∀ a, a < 0 → ∀ b, b < 0 → a ≠ b → (TJ0 a).2.1 ≠ (TJ0 b).2.1 := by decide +kernel
theorem tyJ0_ok : ∀ k, k < 0 → parseFieldDescriptor (TJ0 k).2.2.1 = some (tyJ0 k) := by decide +kernel
def RJ10 : String := "java/lang/System"
def TJ10 : u_T := fun k => match k with
  | _ => ("", "", "", false)
def tyJ10 : Nat → FieldType := fun k => match k with
  | _ => .int
abbrev wsJ100 : List Cond := u_ws RJ10 TJ10 0
theorem nmJ10 : ∀ a, a < 0 → ∀ b, b < 0 → a ≠ b → (TJ10 a).2.1 ≠ (TJ10 b).2.1 := by decide +kernel
theorem tyJ10_ok : ∀ k, k < 0 → parseFieldDescriptor (TJ10 k).2.2.1 = some (tyJ10 k) := by decide +kernel
def RL : String := "GridprobeLaw"
abbrev cL_cell : ByteArray := method_2_code
def yL_cell : MethodName := ⟨RL, "cell", "([II)I"⟩
abbrev cL_low : ByteArray := method_3_code
def yL_low : MethodName := ⟨RL, "low", "(II)I"⟩
abbrev cL_isCell : ByteArray := method_4_code
def yL_isCell : MethodName := ⟨RL, "isCell", "(LGridprobe;I)Z"⟩
abbrev cL_law : ByteArray := code
def yL_law : MethodName := ⟨RL, "law", "([I)Z"⟩
theorem dX0_init_0 : decode cX0_init 0 = .ok (.aload_n 0, 1) := by decide +kernel
theorem dX0_init_1 : decode cX0_init 1 = .ok (.invokespecial 3, 3) := by decide +kernel
theorem dX0_init_4 : decode cX0_init 4 = .ok (.aload_n 0, 1) := by decide +kernel
theorem dX0_init_5 : decode cX0_init 5 = .ok (.bipush 12, 2) := by decide +kernel
theorem dX0_init_7 : decode cX0_init 7 = .ok (.newarray .int, 2) := by decide +kernel
theorem dX0_init_9 : decode cX0_init 9 = .ok (.putfield 9, 3) := by decide +kernel
theorem dX0_init_12 : decode cX0_init 12 = .ok (.aload_n 0, 1) := by decide +kernel
theorem dX0_init_13 : decode cX0_init 13 = .ok (.bipush 12, 2) := by decide +kernel
theorem dX0_init_15 : decode cX0_init 15 = .ok (.newarray .int, 2) := by decide +kernel
theorem dX0_init_17 : decode cX0_init 17 = .ok (.putfield 15, 3) := by decide +kernel
theorem dX0_init_20 : decode cX0_init 20 = .ok (.aload_n 0, 1) := by decide +kernel
theorem dX0_init_21 : decode cX0_init 21 = .ok (.bipush 12, 2) := by decide +kernel
theorem dX0_init_23 : decode cX0_init 23 = .ok (.newarray .int, 2) := by decide +kernel
theorem dX0_init_25 : decode cX0_init 25 = .ok (.putfield 18, 3) := by decide +kernel
theorem dX0_init_28 : decode cX0_init 28 = .ok (.return_, 1) := by decide +kernel
theorem dX0_put_0 : decode cX0_put 0 = .ok (.iload_n 1, 1) := by decide +kernel
theorem dX0_put_1 : decode cX0_put 1 = .ok (.bipush 12, 2) := by decide +kernel
theorem dX0_put_3 : decode cX0_put 3 = .ok (.if_icmp .ge 7, 3) := by decide +kernel
theorem dX0_put_6 : decode cX0_put 6 = .ok (.iconst 1, 1) := by decide +kernel
theorem dX0_put_7 : decode cX0_put 7 = .ok (.goto 4, 3) := by decide +kernel
theorem dX0_put_10 : decode cX0_put 10 = .ok (.iconst 0, 1) := by decide +kernel
theorem dX0_put_11 : decode cX0_put 11 = .ok (.istore_n 3, 1) := by decide +kernel
theorem dX0_put_12 : decode cX0_put 12 = .ok (.aload_n 0, 1) := by decide +kernel
theorem dX0_put_13 : decode cX0_put 13 = .ok (.getfield 21, 3) := by decide +kernel
theorem dX0_put_16 : decode cX0_put 16 = .ok (.bipush 12, 2) := by decide +kernel
theorem dX0_put_18 : decode cX0_put 18 = .ok (.if_icmp .ge 15, 3) := by decide +kernel
theorem dX0_put_21 : decode cX0_put 21 = .ok (.iload_n 3, 1) := by decide +kernel
theorem dX0_put_22 : decode cX0_put 22 = .ok (.ifCond .eq 13, 3) := by decide +kernel
theorem dX0_put_25 : decode cX0_put 25 = .ok (.aload_n 0, 1) := by decide +kernel
theorem dX0_put_26 : decode cX0_put 26 = .ok (.getfield 25, 3) := by decide +kernel
theorem dX0_put_29 : decode cX0_put 29 = .ok (.iconst 2, 1) := by decide +kernel
theorem dX0_put_30 : decode cX0_put 30 = .ok (.if_icmp .ge 5, 3) := by decide +kernel
theorem dX0_put_33 : decode cX0_put 33 = .ok (.iconst 0, 1) := by decide +kernel
theorem dX0_put_34 : decode cX0_put 34 = .ok (.ireturn, 1) := by decide +kernel
theorem dX0_put_35 : decode cX0_put 35 = .ok (.aload_n 0, 1) := by decide +kernel
theorem dX0_put_36 : decode cX0_put 36 = .ok (.getfield 9, 3) := by decide +kernel
theorem dX0_put_39 : decode cX0_put 39 = .ok (.aload_n 0, 1) := by decide +kernel
theorem dX0_put_40 : decode cX0_put 40 = .ok (.getfield 21, 3) := by decide +kernel
theorem dX0_put_43 : decode cX0_put 43 = .ok (.iload_n 1, 1) := by decide +kernel
theorem dX0_put_44 : decode cX0_put 44 = .ok (.iastore, 1) := by decide +kernel
theorem dX0_put_45 : decode cX0_put 45 = .ok (.aload_n 0, 1) := by decide +kernel
theorem dX0_put_46 : decode cX0_put 46 = .ok (.getfield 15, 3) := by decide +kernel
theorem dX0_put_49 : decode cX0_put 49 = .ok (.aload_n 0, 1) := by decide +kernel
theorem dX0_put_50 : decode cX0_put 50 = .ok (.getfield 21, 3) := by decide +kernel
theorem dX0_put_53 : decode cX0_put 53 = .ok (.iload_n 2, 1) := by decide +kernel
theorem dX0_put_54 : decode cX0_put 54 = .ok (.iastore, 1) := by decide +kernel
theorem dX0_put_55 : decode cX0_put 55 = .ok (.aload_n 0, 1) := by decide +kernel
theorem dX0_put_56 : decode cX0_put 56 = .ok (.dup, 1) := by decide +kernel
theorem dX0_put_57 : decode cX0_put 57 = .ok (.getfield 21, 3) := by decide +kernel
theorem dX0_put_60 : decode cX0_put 60 = .ok (.iconst 1, 1) := by decide +kernel
theorem dX0_put_61 : decode cX0_put 61 = .ok (.iadd, 1) := by decide +kernel
theorem dX0_put_62 : decode cX0_put 62 = .ok (.putfield 21, 3) := by decide +kernel
theorem dX0_put_65 : decode cX0_put 65 = .ok (.aload_n 0, 1) := by decide +kernel
theorem dX0_put_66 : decode cX0_put 66 = .ok (.dup, 1) := by decide +kernel
theorem dX0_put_67 : decode cX0_put 67 = .ok (.getfield 25, 3) := by decide +kernel
theorem dX0_put_70 : decode cX0_put 70 = .ok (.iload_n 3, 1) := by decide +kernel
theorem dX0_put_71 : decode cX0_put 71 = .ok (.ifCond .eq 7, 3) := by decide +kernel
theorem dX0_put_74 : decode cX0_put 74 = .ok (.iconst (-1), 1) := by decide +kernel
theorem dX0_put_75 : decode cX0_put 75 = .ok (.goto 4, 3) := by decide +kernel
theorem dX0_put_78 : decode cX0_put 78 = .ok (.iconst 1, 1) := by decide +kernel
theorem dX0_put_79 : decode cX0_put 79 = .ok (.iadd, 1) := by decide +kernel
theorem dX0_put_80 : decode cX0_put 80 = .ok (.putfield 25, 3) := by decide +kernel
theorem dX0_put_83 : decode cX0_put 83 = .ok (.iconst 1, 1) := by decide +kernel
theorem dX0_put_84 : decode cX0_put 84 = .ok (.ireturn, 1) := by decide +kernel
theorem dX0_clear_0 : decode cX0_clear 0 = .ok (.aload_n 0, 1) := by decide +kernel
theorem dX0_clear_1 : decode cX0_clear 1 = .ok (.iconst 0, 1) := by decide +kernel
theorem dX0_clear_2 : decode cX0_clear 2 = .ok (.putfield 21, 3) := by decide +kernel
theorem dX0_clear_5 : decode cX0_clear 5 = .ok (.aload_n 0, 1) := by decide +kernel
theorem dX0_clear_6 : decode cX0_clear 6 = .ok (.iconst 0, 1) := by decide +kernel
theorem dX0_clear_7 : decode cX0_clear 7 = .ok (.putfield 25, 3) := by decide +kernel
theorem dX0_clear_10 : decode cX0_clear 10 = .ok (.return_, 1) := by decide +kernel
theorem dX0_copyFrom_0 : decode cX0_copyFrom 0 = .ok (.aload_n 1, 1) := by decide +kernel
theorem dX0_copyFrom_1 : decode cX0_copyFrom 1 = .ok (.getfield 9, 3) := by decide +kernel
theorem dX0_copyFrom_4 : decode cX0_copyFrom 4 = .ok (.iconst 0, 1) := by decide +kernel
theorem dX0_copyFrom_5 : decode cX0_copyFrom 5 = .ok (.aload_n 0, 1) := by decide +kernel
theorem dX0_copyFrom_6 : decode cX0_copyFrom 6 = .ok (.getfield 9, 3) := by decide +kernel
theorem dX0_copyFrom_9 : decode cX0_copyFrom 9 = .ok (.iconst 0, 1) := by decide +kernel
theorem dX0_copyFrom_10 : decode cX0_copyFrom 10 = .ok (.bipush 12, 2) := by decide +kernel
theorem dX0_copyFrom_12 : decode cX0_copyFrom 12 = .ok (.invokestatic 28, 3) := by decide +kernel
theorem dX0_copyFrom_15 : decode cX0_copyFrom 15 = .ok (.aload_n 1, 1) := by decide +kernel
theorem dX0_copyFrom_16 : decode cX0_copyFrom 16 = .ok (.getfield 15, 3) := by decide +kernel
theorem dX0_copyFrom_19 : decode cX0_copyFrom 19 = .ok (.iconst 0, 1) := by decide +kernel
theorem dX0_copyFrom_20 : decode cX0_copyFrom 20 = .ok (.aload_n 0, 1) := by decide +kernel
theorem dX0_copyFrom_21 : decode cX0_copyFrom 21 = .ok (.getfield 15, 3) := by decide +kernel
theorem dX0_copyFrom_24 : decode cX0_copyFrom 24 = .ok (.iconst 0, 1) := by decide +kernel
theorem dX0_copyFrom_25 : decode cX0_copyFrom 25 = .ok (.bipush 12, 2) := by decide +kernel
theorem dX0_copyFrom_27 : decode cX0_copyFrom 27 = .ok (.invokestatic 28, 3) := by decide +kernel
theorem dX0_copyFrom_30 : decode cX0_copyFrom 30 = .ok (.aload_n 0, 1) := by decide +kernel
theorem dX0_copyFrom_31 : decode cX0_copyFrom 31 = .ok (.aload_n 1, 1) := by decide +kernel
theorem dX0_copyFrom_32 : decode cX0_copyFrom 32 = .ok (.getfield 21, 3) := by decide +kernel
theorem dX0_copyFrom_35 : decode cX0_copyFrom 35 = .ok (.putfield 21, 3) := by decide +kernel
theorem dX0_copyFrom_38 : decode cX0_copyFrom 38 = .ok (.aload_n 0, 1) := by decide +kernel
theorem dX0_copyFrom_39 : decode cX0_copyFrom 39 = .ok (.aload_n 1, 1) := by decide +kernel
theorem dX0_copyFrom_40 : decode cX0_copyFrom 40 = .ok (.getfield 25, 3) := by decide +kernel
theorem dX0_copyFrom_43 : decode cX0_copyFrom 43 = .ok (.putfield 25, 3) := by decide +kernel
theorem dX0_copyFrom_46 : decode cX0_copyFrom 46 = .ok (.return_, 1) := by decide +kernel
theorem dX0_readSet_0 : decode cX0_readSet 0 = .ok (.iconst 0, 1) := by decide +kernel
theorem dX0_readSet_1 : decode cX0_readSet 1 = .ok (.istore_n 1, 1) := by decide +kernel
theorem dX0_readSet_2 : decode cX0_readSet 2 = .ok (.iconst 0, 1) := by decide +kernel
theorem dX0_readSet_3 : decode cX0_readSet 3 = .ok (.istore_n 2, 1) := by decide +kernel
theorem dX0_readSet_4 : decode cX0_readSet 4 = .ok (.iload_n 2, 1) := by decide +kernel
theorem dX0_readSet_5 : decode cX0_readSet 5 = .ok (.aload_n 0, 1) := by decide +kernel
theorem dX0_readSet_6 : decode cX0_readSet 6 = .ok (.getfield 21, 3) := by decide +kernel
theorem dX0_readSet_9 : decode cX0_readSet 9 = .ok (.if_icmp .ge 37, 3) := by decide +kernel
theorem dX0_readSet_12 : decode cX0_readSet 12 = .ok (.iload_n 2, 1) := by decide +kernel
theorem dX0_readSet_13 : decode cX0_readSet 13 = .ok (.bipush 12, 2) := by decide +kernel
theorem dX0_readSet_15 : decode cX0_readSet 15 = .ok (.if_icmp .ge 31, 3) := by decide +kernel
theorem dX0_readSet_18 : decode cX0_readSet 18 = .ok (.aload_n 0, 1) := by decide +kernel
theorem dX0_readSet_19 : decode cX0_readSet 19 = .ok (.getfield 9, 3) := by decide +kernel
theorem dX0_readSet_22 : decode cX0_readSet 22 = .ok (.iload_n 2, 1) := by decide +kernel
theorem dX0_readSet_23 : decode cX0_readSet 23 = .ok (.iaload, 1) := by decide +kernel
theorem dX0_readSet_24 : decode cX0_readSet 24 = .ok (.bipush 13, 2) := by decide +kernel
theorem dX0_readSet_26 : decode cX0_readSet 26 = .ok (.if_icmp .ne 14, 3) := by decide +kernel
theorem dX0_readSet_29 : decode cX0_readSet 29 = .ok (.iload_n 1, 1) := by decide +kernel
theorem dX0_readSet_30 : decode cX0_readSet 30 = .ok (.iconst 1, 1) := by decide +kernel
theorem dX0_readSet_31 : decode cX0_readSet 31 = .ok (.aload_n 0, 1) := by decide +kernel
theorem dX0_readSet_32 : decode cX0_readSet 32 = .ok (.getfield 15, 3) := by decide +kernel
theorem dX0_readSet_35 : decode cX0_readSet 35 = .ok (.iload_n 2, 1) := by decide +kernel
theorem dX0_readSet_36 : decode cX0_readSet 36 = .ok (.iaload, 1) := by decide +kernel
theorem dX0_readSet_37 : decode cX0_readSet 37 = .ok (.ishl, 1) := by decide +kernel
theorem dX0_readSet_38 : decode cX0_readSet 38 = .ok (.ior, 1) := by decide +kernel
theorem dX0_readSet_39 : decode cX0_readSet 39 = .ok (.istore_n 1, 1) := by decide +kernel
theorem dX0_readSet_40 : decode cX0_readSet 40 = .ok (.iinc 2 1, 3) := by decide +kernel
theorem dX0_readSet_43 : decode cX0_readSet 43 = .ok (.goto (-39), 3) := by decide +kernel
theorem dX0_readSet_46 : decode cX0_readSet 46 = .ok (.iload_n 1, 1) := by decide +kernel
theorem dX0_readSet_47 : decode cX0_readSet 47 = .ok (.ireturn, 1) := by decide +kernel
theorem dX0_reckon_0 : decode cX0_reckon 0 = .ok (.iconst 0, 1) := by decide +kernel
theorem dX0_reckon_1 : decode cX0_reckon 1 = .ok (.istore_n 2, 1) := by decide +kernel
theorem dX0_reckon_2 : decode cX0_reckon 2 = .ok (.iconst 0, 1) := by decide +kernel
theorem dX0_reckon_3 : decode cX0_reckon 3 = .ok (.istore_n 3, 1) := by decide +kernel
theorem dX0_reckon_4 : decode cX0_reckon 4 = .ok (.iload_n 3, 1) := by decide +kernel
theorem dX0_reckon_5 : decode cX0_reckon 5 = .ok (.aload_n 0, 1) := by decide +kernel
theorem dX0_reckon_6 : decode cX0_reckon 6 = .ok (.getfield 21, 3) := by decide +kernel
theorem dX0_reckon_9 : decode cX0_reckon 9 = .ok (.if_icmp .ge 124, 3) := by decide +kernel
theorem dX0_reckon_12 : decode cX0_reckon 12 = .ok (.iload_n 3, 1) := by decide +kernel
theorem dX0_reckon_13 : decode cX0_reckon 13 = .ok (.bipush 12, 2) := by decide +kernel
theorem dX0_reckon_15 : decode cX0_reckon 15 = .ok (.if_icmp .ge 118, 3) := by decide +kernel
theorem dX0_reckon_18 : decode cX0_reckon 18 = .ok (.aload_n 0, 1) := by decide +kernel
theorem dX0_reckon_19 : decode cX0_reckon 19 = .ok (.getfield 9, 3) := by decide +kernel
theorem dX0_reckon_22 : decode cX0_reckon 22 = .ok (.iload_n 3, 1) := by decide +kernel
theorem dX0_reckon_23 : decode cX0_reckon 23 = .ok (.iaload, 1) := by decide +kernel
theorem dX0_reckon_24 : decode cX0_reckon 24 = .ok (.bipush 12, 2) := by decide +kernel
theorem dX0_reckon_26 : decode cX0_reckon 26 = .ok (.if_icmp .lt 24, 3) := by decide +kernel
theorem dX0_reckon_29 : decode cX0_reckon 29 = .ok (.aload_n 0, 1) := by decide +kernel
theorem dX0_reckon_30 : decode cX0_reckon 30 = .ok (.getfield 9, 3) := by decide +kernel
theorem dX0_reckon_33 : decode cX0_reckon 33 = .ok (.iload_n 3, 1) := by decide +kernel
theorem dX0_reckon_34 : decode cX0_reckon 34 = .ok (.iaload, 1) := by decide +kernel
theorem dX0_reckon_35 : decode cX0_reckon 35 = .ok (.aload_n 0, 1) := by decide +kernel
theorem dX0_reckon_36 : decode cX0_reckon 36 = .ok (.getfield 15, 3) := by decide +kernel
theorem dX0_reckon_39 : decode cX0_reckon 39 = .ok (.iload_n 3, 1) := by decide +kernel
theorem dX0_reckon_40 : decode cX0_reckon 40 = .ok (.iaload, 1) := by decide +kernel
theorem dX0_reckon_41 : decode cX0_reckon 41 = .ok (.aload_n 1, 1) := by decide +kernel
theorem dX0_reckon_42 : decode cX0_reckon 42 = .ok (.invokestatic 34, 3) := by decide +kernel
theorem dX0_reckon_45 : decode cX0_reckon 45 = .ok (.lstore 4, 2) := by decide +kernel
theorem dX0_reckon_47 : decode cX0_reckon 47 = .ok (.goto 49, 3) := by decide +kernel
theorem dX0_reckon_50 : decode cX0_reckon 50 = .ok (.iload_n 2, 1) := by decide +kernel
theorem dX0_reckon_51 : decode cX0_reckon 51 = .ok (.iconst 2, 1) := by decide +kernel
theorem dX0_reckon_52 : decode cX0_reckon 52 = .ok (.if_icmp .lt 40, 3) := by decide +kernel
theorem dX0_reckon_55 : decode cX0_reckon 55 = .ok (.iload_n 2, 1) := by decide +kernel
theorem dX0_reckon_56 : decode cX0_reckon 56 = .ok (.bipush 12, 2) := by decide +kernel
theorem dX0_reckon_58 : decode cX0_reckon 58 = .ok (.if_icmp .gt 34, 3) := by decide +kernel
theorem dX0_reckon_61 : decode cX0_reckon 61 = .ok (.iinc 2 (-2), 3) := by decide +kernel
theorem dX0_reckon_64 : decode cX0_reckon 64 = .ok (.aload_n 0, 1) := by decide +kernel
theorem dX0_reckon_65 : decode cX0_reckon 65 = .ok (.getfield 9, 3) := by decide +kernel
theorem dX0_reckon_68 : decode cX0_reckon 68 = .ok (.iload_n 3, 1) := by decide +kernel
theorem dX0_reckon_69 : decode cX0_reckon 69 = .ok (.iaload, 1) := by decide +kernel
theorem dX0_reckon_70 : decode cX0_reckon 70 = .ok (.aload_n 0, 1) := by decide +kernel
theorem dX0_reckon_71 : decode cX0_reckon 71 = .ok (.getfield 18, 3) := by decide +kernel
theorem dX0_reckon_74 : decode cX0_reckon 74 = .ok (.iload_n 2, 1) := by decide +kernel
theorem dX0_reckon_75 : decode cX0_reckon 75 = .ok (.iaload, 1) := by decide +kernel
theorem dX0_reckon_76 : decode cX0_reckon 76 = .ok (.aload_n 0, 1) := by decide +kernel
theorem dX0_reckon_77 : decode cX0_reckon 77 = .ok (.getfield 18, 3) := by decide +kernel
theorem dX0_reckon_80 : decode cX0_reckon 80 = .ok (.iload_n 2, 1) := by decide +kernel
theorem dX0_reckon_81 : decode cX0_reckon 81 = .ok (.iconst 1, 1) := by decide +kernel
theorem dX0_reckon_82 : decode cX0_reckon 82 = .ok (.iadd, 1) := by decide +kernel
theorem dX0_reckon_83 : decode cX0_reckon 83 = .ok (.iaload, 1) := by decide +kernel
theorem dX0_reckon_84 : decode cX0_reckon 84 = .ok (.invokestatic 38, 3) := by decide +kernel
theorem dX0_reckon_87 : decode cX0_reckon 87 = .ok (.lstore 4, 2) := by decide +kernel
theorem dX0_reckon_89 : decode cX0_reckon 89 = .ok (.goto 7, 3) := by decide +kernel
theorem dX0_reckon_92 : decode cX0_reckon 92 = .ok (.ldc2_w 42, 3) := by decide +kernel
theorem dX0_reckon_95 : decode cX0_reckon 95 = .ok (.lreturn, 1) := by decide +kernel
theorem dX0_reckon_96 : decode cX0_reckon 96 = .ok (.lload 4, 2) := by decide +kernel
theorem dX0_reckon_98 : decode cX0_reckon 98 = .ok (.ldc2_w 42, 3) := by decide +kernel
theorem dX0_reckon_101 : decode cX0_reckon 101 = .ok (.lcmp, 1) := by decide +kernel
theorem dX0_reckon_102 : decode cX0_reckon 102 = .ok (.ifCond .eq 9, 3) := by decide +kernel
theorem dX0_reckon_105 : decode cX0_reckon 105 = .ok (.iload_n 2, 1) := by decide +kernel
theorem dX0_reckon_106 : decode cX0_reckon 106 = .ok (.bipush 12, 2) := by decide +kernel
theorem dX0_reckon_108 : decode cX0_reckon 108 = .ok (.if_icmp .lt 7, 3) := by decide +kernel
theorem dX0_reckon_111 : decode cX0_reckon 111 = .ok (.ldc2_w 42, 3) := by decide +kernel
theorem dX0_reckon_114 : decode cX0_reckon 114 = .ok (.lreturn, 1) := by decide +kernel
theorem dX0_reckon_115 : decode cX0_reckon 115 = .ok (.aload_n 0, 1) := by decide +kernel
theorem dX0_reckon_116 : decode cX0_reckon 116 = .ok (.getfield 18, 3) := by decide +kernel
theorem dX0_reckon_119 : decode cX0_reckon 119 = .ok (.iload_n 2, 1) := by decide +kernel
theorem dX0_reckon_120 : decode cX0_reckon 120 = .ok (.lload 4, 2) := by decide +kernel
theorem dX0_reckon_122 : decode cX0_reckon 122 = .ok (.l2i, 1) := by decide +kernel
theorem dX0_reckon_123 : decode cX0_reckon 123 = .ok (.iastore, 1) := by decide +kernel
theorem dX0_reckon_124 : decode cX0_reckon 124 = .ok (.iinc 2 1, 3) := by decide +kernel
theorem dX0_reckon_127 : decode cX0_reckon 127 = .ok (.iinc 3 1, 3) := by decide +kernel
theorem dX0_reckon_130 : decode cX0_reckon 130 = .ok (.goto (-126), 3) := by decide +kernel
theorem dX0_reckon_133 : decode cX0_reckon 133 = .ok (.aload_n 0, 1) := by decide +kernel
theorem dX0_reckon_134 : decode cX0_reckon 134 = .ok (.getfield 18, 3) := by decide +kernel
theorem dX0_reckon_137 : decode cX0_reckon 137 = .ok (.iconst 0, 1) := by decide +kernel
theorem dX0_reckon_138 : decode cX0_reckon 138 = .ok (.iaload, 1) := by decide +kernel
theorem dX0_reckon_139 : decode cX0_reckon 139 = .ok (.i2l, 1) := by decide +kernel
theorem dX0_reckon_140 : decode cX0_reckon 140 = .ok (.lreturn, 1) := by decide +kernel
theorem dX0_leaf_0 : decode cX0_leaf 0 = .ok (.iload_n 0, 1) := by decide +kernel
theorem dX0_leaf_1 : decode cX0_leaf 1 = .ok (.bipush 12, 2) := by decide +kernel
theorem dX0_leaf_3 : decode cX0_leaf 3 = .ok (.if_icmp .ne 6, 3) := by decide +kernel
theorem dX0_leaf_6 : decode cX0_leaf 6 = .ok (.iload_n 1, 1) := by decide +kernel
theorem dX0_leaf_7 : decode cX0_leaf 7 = .ok (.i2l, 1) := by decide +kernel
theorem dX0_leaf_8 : decode cX0_leaf 8 = .ok (.lreturn, 1) := by decide +kernel
theorem dX0_leaf_9 : decode cX0_leaf 9 = .ok (.iload_n 1, 1) := by decide +kernel
theorem dX0_leaf_10 : decode cX0_leaf 10 = .ok (.ifCond .lt 15, 3) := by decide +kernel
theorem dX0_leaf_13 : decode cX0_leaf 13 = .ok (.iload_n 1, 1) := by decide +kernel
theorem dX0_leaf_14 : decode cX0_leaf 14 = .ok (.aload_n 2, 1) := by decide +kernel
theorem dX0_leaf_15 : decode cX0_leaf 15 = .ok (.arraylength, 1) := by decide +kernel
theorem dX0_leaf_16 : decode cX0_leaf 16 = .ok (.if_icmp .ge 9, 3) := by decide +kernel
theorem dX0_leaf_19 : decode cX0_leaf 19 = .ok (.aload_n 2, 1) := by decide +kernel
theorem dX0_leaf_20 : decode cX0_leaf 20 = .ok (.iload_n 1, 1) := by decide +kernel
theorem dX0_leaf_21 : decode cX0_leaf 21 = .ok (.laload, 1) := by decide +kernel
theorem dX0_leaf_22 : decode cX0_leaf 22 = .ok (.goto 6, 3) := by decide +kernel
theorem dX0_leaf_25 : decode cX0_leaf 25 = .ok (.ldc2_w 42, 3) := by decide +kernel
theorem dX0_leaf_28 : decode cX0_leaf 28 = .ok (.lreturn, 1) := by decide +kernel
theorem dX0_operate_0 : decode cX0_operate 0 = .ok (.iload_n 0, 1) := by decide +kernel
theorem dX0_operate_1 : decode cX0_operate 1 = .ok (.tableswitch 155 0 10 #[59, 64, 69, 74, 89, 102, 115, 126, 137, 142, 147], 59) := by decide +kernel
theorem dX0_operate_60 : decode cX0_operate 60 = .ok (.iload_n 1, 1) := by decide +kernel
theorem dX0_operate_61 : decode cX0_operate 61 = .ok (.iload_n 2, 1) := by decide +kernel
theorem dX0_operate_62 : decode cX0_operate 62 = .ok (.iadd, 1) := by decide +kernel
theorem dX0_operate_63 : decode cX0_operate 63 = .ok (.i2l, 1) := by decide +kernel
theorem dX0_operate_64 : decode cX0_operate 64 = .ok (.lreturn, 1) := by decide +kernel
theorem dX0_operate_65 : decode cX0_operate 65 = .ok (.iload_n 1, 1) := by decide +kernel
theorem dX0_operate_66 : decode cX0_operate 66 = .ok (.iload_n 2, 1) := by decide +kernel
theorem dX0_operate_67 : decode cX0_operate 67 = .ok (.isub, 1) := by decide +kernel
theorem dX0_operate_68 : decode cX0_operate 68 = .ok (.i2l, 1) := by decide +kernel
theorem dX0_operate_69 : decode cX0_operate 69 = .ok (.lreturn, 1) := by decide +kernel
theorem dX0_operate_70 : decode cX0_operate 70 = .ok (.iload_n 1, 1) := by decide +kernel
theorem dX0_operate_71 : decode cX0_operate 71 = .ok (.iload_n 2, 1) := by decide +kernel
theorem dX0_operate_72 : decode cX0_operate 72 = .ok (.imul, 1) := by decide +kernel
theorem dX0_operate_73 : decode cX0_operate 73 = .ok (.i2l, 1) := by decide +kernel
theorem dX0_operate_74 : decode cX0_operate 74 = .ok (.lreturn, 1) := by decide +kernel
theorem dX0_operate_75 : decode cX0_operate 75 = .ok (.iload_n 2, 1) := by decide +kernel
theorem dX0_operate_76 : decode cX0_operate 76 = .ok (.ifCond .ne 9, 3) := by decide +kernel
theorem dX0_operate_79 : decode cX0_operate 79 = .ok (.ldc2_w 42, 3) := by decide +kernel
theorem dX0_operate_82 : decode cX0_operate 82 = .ok (.goto 7, 3) := by decide +kernel
theorem dX0_operate_85 : decode cX0_operate 85 = .ok (.iload_n 1, 1) := by decide +kernel
theorem dX0_operate_86 : decode cX0_operate 86 = .ok (.iload_n 2, 1) := by decide +kernel
theorem dX0_operate_87 : decode cX0_operate 87 = .ok (.idiv, 1) := by decide +kernel
theorem dX0_operate_88 : decode cX0_operate 88 = .ok (.i2l, 1) := by decide +kernel
theorem dX0_operate_89 : decode cX0_operate 89 = .ok (.lreturn, 1) := by decide +kernel
theorem dX0_operate_90 : decode cX0_operate 90 = .ok (.iload_n 1, 1) := by decide +kernel
theorem dX0_operate_91 : decode cX0_operate 91 = .ok (.iload_n 2, 1) := by decide +kernel
theorem dX0_operate_92 : decode cX0_operate 92 = .ok (.if_icmp .ge 8, 3) := by decide +kernel
theorem dX0_operate_95 : decode cX0_operate 95 = .ok (.iload_n 1, 1) := by decide +kernel
theorem dX0_operate_96 : decode cX0_operate 96 = .ok (.i2l, 1) := by decide +kernel
theorem dX0_operate_97 : decode cX0_operate 97 = .ok (.goto 5, 3) := by decide +kernel
theorem dX0_operate_100 : decode cX0_operate 100 = .ok (.iload_n 2, 1) := by decide +kernel
theorem dX0_operate_101 : decode cX0_operate 101 = .ok (.i2l, 1) := by decide +kernel
theorem dX0_operate_102 : decode cX0_operate 102 = .ok (.lreturn, 1) := by decide +kernel
theorem dX0_operate_103 : decode cX0_operate 103 = .ok (.iload_n 1, 1) := by decide +kernel
theorem dX0_operate_104 : decode cX0_operate 104 = .ok (.iload_n 2, 1) := by decide +kernel
theorem dX0_operate_105 : decode cX0_operate 105 = .ok (.if_icmp .le 8, 3) := by decide +kernel
theorem dX0_operate_108 : decode cX0_operate 108 = .ok (.iload_n 1, 1) := by decide +kernel
theorem dX0_operate_109 : decode cX0_operate 109 = .ok (.i2l, 1) := by decide +kernel
theorem dX0_operate_110 : decode cX0_operate 110 = .ok (.goto 5, 3) := by decide +kernel
theorem dX0_operate_113 : decode cX0_operate 113 = .ok (.iload_n 2, 1) := by decide +kernel
theorem dX0_operate_114 : decode cX0_operate 114 = .ok (.i2l, 1) := by decide +kernel
theorem dX0_operate_115 : decode cX0_operate 115 = .ok (.lreturn, 1) := by decide +kernel
theorem dX0_operate_116 : decode cX0_operate 116 = .ok (.iload_n 1, 1) := by decide +kernel
theorem dX0_operate_117 : decode cX0_operate 117 = .ok (.iload_n 2, 1) := by decide +kernel
theorem dX0_operate_118 : decode cX0_operate 118 = .ok (.if_icmp .ge 7, 3) := by decide +kernel
theorem dX0_operate_121 : decode cX0_operate 121 = .ok (.lconst 1, 1) := by decide +kernel
theorem dX0_operate_122 : decode cX0_operate 122 = .ok (.goto 4, 3) := by decide +kernel
theorem dX0_operate_125 : decode cX0_operate 125 = .ok (.lconst 0, 1) := by decide +kernel
theorem dX0_operate_126 : decode cX0_operate 126 = .ok (.lreturn, 1) := by decide +kernel
theorem dX0_operate_127 : decode cX0_operate 127 = .ok (.iload_n 1, 1) := by decide +kernel
theorem dX0_operate_128 : decode cX0_operate 128 = .ok (.iload_n 2, 1) := by decide +kernel
theorem dX0_operate_129 : decode cX0_operate 129 = .ok (.if_icmp .ne 7, 3) := by decide +kernel
theorem dX0_operate_132 : decode cX0_operate 132 = .ok (.lconst 1, 1) := by decide +kernel
theorem dX0_operate_133 : decode cX0_operate 133 = .ok (.goto 4, 3) := by decide +kernel
theorem dX0_operate_136 : decode cX0_operate 136 = .ok (.lconst 0, 1) := by decide +kernel
theorem dX0_operate_137 : decode cX0_operate 137 = .ok (.lreturn, 1) := by decide +kernel
theorem dX0_operate_138 : decode cX0_operate 138 = .ok (.iload_n 1, 1) := by decide +kernel
theorem dX0_operate_139 : decode cX0_operate 139 = .ok (.iload_n 2, 1) := by decide +kernel
theorem dX0_operate_140 : decode cX0_operate 140 = .ok (.iand, 1) := by decide +kernel
theorem dX0_operate_141 : decode cX0_operate 141 = .ok (.i2l, 1) := by decide +kernel
theorem dX0_operate_142 : decode cX0_operate 142 = .ok (.lreturn, 1) := by decide +kernel
theorem dX0_operate_143 : decode cX0_operate 143 = .ok (.iload_n 1, 1) := by decide +kernel
theorem dX0_operate_144 : decode cX0_operate 144 = .ok (.iload_n 2, 1) := by decide +kernel
theorem dX0_operate_145 : decode cX0_operate 145 = .ok (.ior, 1) := by decide +kernel
theorem dX0_operate_146 : decode cX0_operate 146 = .ok (.i2l, 1) := by decide +kernel
theorem dX0_operate_147 : decode cX0_operate 147 = .ok (.lreturn, 1) := by decide +kernel
theorem dX0_operate_148 : decode cX0_operate 148 = .ok (.iload_n 1, 1) := by decide +kernel
theorem dX0_operate_149 : decode cX0_operate 149 = .ok (.iload_n 2, 1) := by decide +kernel
theorem dX0_operate_150 : decode cX0_operate 150 = .ok (.bipush 31, 2) := by decide +kernel
theorem dX0_operate_152 : decode cX0_operate 152 = .ok (.iand, 1) := by decide +kernel
theorem dX0_operate_153 : decode cX0_operate 153 = .ok (.ishl, 1) := by decide +kernel
theorem dX0_operate_154 : decode cX0_operate 154 = .ok (.i2l, 1) := by decide +kernel
theorem dX0_operate_155 : decode cX0_operate 155 = .ok (.lreturn, 1) := by decide +kernel
theorem dX0_operate_156 : decode cX0_operate 156 = .ok (.iload_n 1, 1) := by decide +kernel
theorem dX0_operate_157 : decode cX0_operate 157 = .ok (.iload_n 2, 1) := by decide +kernel
theorem dX0_operate_158 : decode cX0_operate 158 = .ok (.bipush 31, 2) := by decide +kernel
theorem dX0_operate_160 : decode cX0_operate 160 = .ok (.iand, 1) := by decide +kernel
theorem dX0_operate_161 : decode cX0_operate 161 = .ok (.ishr, 1) := by decide +kernel
theorem dX0_operate_162 : decode cX0_operate 162 = .ok (.i2l, 1) := by decide +kernel
theorem dX0_operate_163 : decode cX0_operate 163 = .ok (.lreturn, 1) := by decide +kernel
theorem dX1_init_0 : decode cX1_init 0 = .ok (.aload_n 0, 1) := by decide +kernel
theorem dX1_init_1 : decode cX1_init 1 = .ok (.invokespecial 3, 3) := by decide +kernel
theorem dX1_init_4 : decode cX1_init 4 = .ok (.aload_n 0, 1) := by decide +kernel
theorem dX1_init_5 : decode cX1_init 5 = .ok (.bipush 16, 2) := by decide +kernel
theorem dX1_init_7 : decode cX1_init 7 = .ok (.newarray .int, 2) := by decide +kernel
theorem dX1_init_9 : decode cX1_init 9 = .ok (.putfield 9, 3) := by decide +kernel
theorem dX1_init_12 : decode cX1_init 12 = .ok (.aload_n 0, 1) := by decide +kernel
theorem dX1_init_13 : decode cX1_init 13 = .ok (.bipush 16, 2) := by decide +kernel
theorem dX1_init_15 : decode cX1_init 15 = .ok (.newarray .int, 2) := by decide +kernel
theorem dX1_init_17 : decode cX1_init 17 = .ok (.putfield 15, 3) := by decide +kernel
theorem dX1_init_20 : decode cX1_init 20 = .ok (.aload_n 0, 1) := by decide +kernel
theorem dX1_init_21 : decode cX1_init 21 = .ok (.bipush 16, 2) := by decide +kernel
theorem dX1_init_23 : decode cX1_init 23 = .ok (.newarray .int, 2) := by decide +kernel
theorem dX1_init_25 : decode cX1_init 25 = .ok (.putfield 18, 3) := by decide +kernel
theorem dX1_init_28 : decode cX1_init 28 = .ok (.iconst 0, 1) := by decide +kernel
theorem dX1_init_29 : decode cX1_init 29 = .ok (.istore_n 1, 1) := by decide +kernel
theorem dX1_init_30 : decode cX1_init 30 = .ok (.iload_n 1, 1) := by decide +kernel
theorem dX1_init_31 : decode cX1_init 31 = .ok (.bipush 16, 2) := by decide +kernel
theorem dX1_init_33 : decode cX1_init 33 = .ok (.if_icmp .ge 16, 3) := by decide +kernel
theorem dX1_init_36 : decode cX1_init 36 = .ok (.aload_n 0, 1) := by decide +kernel
theorem dX1_init_37 : decode cX1_init 37 = .ok (.getfield 15, 3) := by decide +kernel
theorem dX1_init_40 : decode cX1_init 40 = .ok (.iload_n 1, 1) := by decide +kernel
theorem dX1_init_41 : decode cX1_init 41 = .ok (.iconst (-1), 1) := by decide +kernel
theorem dX1_init_42 : decode cX1_init 42 = .ok (.iastore, 1) := by decide +kernel
theorem dX1_init_43 : decode cX1_init 43 = .ok (.iinc 1 1, 3) := by decide +kernel
theorem dX1_init_46 : decode cX1_init 46 = .ok (.goto (-16), 3) := by decide +kernel
theorem dX1_init_49 : decode cX1_init 49 = .ok (.return_, 1) := by decide +kernel
theorem dX1_waivedCells_0 : decode cX1_waivedCells 0 = .ok (.iconst 0, 1) := by decide +kernel
theorem dX1_waivedCells_1 : decode cX1_waivedCells 1 = .ok (.istore_n 1, 1) := by decide +kernel
theorem dX1_waivedCells_2 : decode cX1_waivedCells 2 = .ok (.iconst 0, 1) := by decide +kernel
theorem dX1_waivedCells_3 : decode cX1_waivedCells 3 = .ok (.istore_n 2, 1) := by decide +kernel
theorem dX1_waivedCells_4 : decode cX1_waivedCells 4 = .ok (.iload_n 2, 1) := by decide +kernel
theorem dX1_waivedCells_5 : decode cX1_waivedCells 5 = .ok (.bipush 16, 2) := by decide +kernel
theorem dX1_waivedCells_7 : decode cX1_waivedCells 7 = .ok (.if_icmp .ge 28, 3) := by decide +kernel
theorem dX1_waivedCells_10 : decode cX1_waivedCells 10 = .ok (.aload_n 0, 1) := by decide +kernel
theorem dX1_waivedCells_11 : decode cX1_waivedCells 11 = .ok (.getfield 15, 3) := by decide +kernel
theorem dX1_waivedCells_14 : decode cX1_waivedCells 14 = .ok (.iload_n 2, 1) := by decide +kernel
theorem dX1_waivedCells_15 : decode cX1_waivedCells 15 = .ok (.iaload, 1) := by decide +kernel
theorem dX1_waivedCells_16 : decode cX1_waivedCells 16 = .ok (.aload_n 0, 1) := by decide +kernel
theorem dX1_waivedCells_17 : decode cX1_waivedCells 17 = .ok (.getfield 21, 3) := by decide +kernel
theorem dX1_waivedCells_20 : decode cX1_waivedCells 20 = .ok (.if_icmp .lt 9, 3) := by decide +kernel
theorem dX1_waivedCells_23 : decode cX1_waivedCells 23 = .ok (.iload_n 1, 1) := by decide +kernel
theorem dX1_waivedCells_24 : decode cX1_waivedCells 24 = .ok (.iconst 1, 1) := by decide +kernel
theorem dX1_waivedCells_25 : decode cX1_waivedCells 25 = .ok (.iload_n 2, 1) := by decide +kernel
theorem dX1_waivedCells_26 : decode cX1_waivedCells 26 = .ok (.ishl, 1) := by decide +kernel
theorem dX1_waivedCells_27 : decode cX1_waivedCells 27 = .ok (.ior, 1) := by decide +kernel
theorem dX1_waivedCells_28 : decode cX1_waivedCells 28 = .ok (.istore_n 1, 1) := by decide +kernel
theorem dX1_waivedCells_29 : decode cX1_waivedCells 29 = .ok (.iinc 2 1, 3) := by decide +kernel
theorem dX1_waivedCells_32 : decode cX1_waivedCells 32 = .ok (.goto (-28), 3) := by decide +kernel
theorem dX1_waivedCells_35 : decode cX1_waivedCells 35 = .ok (.iload_n 1, 1) := by decide +kernel
theorem dX1_waivedCells_36 : decode cX1_waivedCells 36 = .ok (.ireturn, 1) := by decide +kernel
theorem dX1_keepUnlocked_0 : decode cX1_keepUnlocked 0 = .ok (.aload_n 1, 1) := by decide +kernel
theorem dX1_keepUnlocked_1 : decode cX1_keepUnlocked 1 = .ok (.iload_n 2, 1) := by decide +kernel
theorem dX1_keepUnlocked_2 : decode cX1_keepUnlocked 2 = .ok (.aload_n 0, 1) := by decide +kernel
theorem dX1_keepUnlocked_3 : decode cX1_keepUnlocked 3 = .ok (.getfield 18, 3) := by decide +kernel
theorem dX1_keepUnlocked_6 : decode cX1_keepUnlocked 6 = .ok (.invokevirtual 25, 3) := by decide +kernel
theorem dX1_keepUnlocked_9 : decode cX1_keepUnlocked 9 = .ok (.istore 4, 2) := by decide +kernel
theorem dX1_keepUnlocked_11 : decode cX1_keepUnlocked 11 = .ok (.aload_n 0, 1) := by decide +kernel
theorem dX1_keepUnlocked_12 : decode cX1_keepUnlocked 12 = .ok (.iconst 0, 1) := by decide +kernel
theorem dX1_keepUnlocked_13 : decode cX1_keepUnlocked 13 = .ok (.putfield 31, 3) := by decide +kernel
theorem dX1_keepUnlocked_16 : decode cX1_keepUnlocked 16 = .ok (.iconst 0, 1) := by decide +kernel
theorem dX1_keepUnlocked_17 : decode cX1_keepUnlocked 17 = .ok (.istore 5, 2) := by decide +kernel
theorem dX1_keepUnlocked_19 : decode cX1_keepUnlocked 19 = .ok (.iload 5, 2) := by decide +kernel
theorem dX1_keepUnlocked_21 : decode cX1_keepUnlocked 21 = .ok (.iload 4, 2) := by decide +kernel
theorem dX1_keepUnlocked_23 : decode cX1_keepUnlocked 23 = .ok (.if_icmp .ge 55, 3) := by decide +kernel
theorem dX1_keepUnlocked_26 : decode cX1_keepUnlocked 26 = .ok (.iload 5, 2) := by decide +kernel
theorem dX1_keepUnlocked_28 : decode cX1_keepUnlocked 28 = .ok (.bipush 16, 2) := by decide +kernel
theorem dX1_keepUnlocked_30 : decode cX1_keepUnlocked 30 = .ok (.if_icmp .ge 48, 3) := by decide +kernel
theorem dX1_keepUnlocked_33 : decode cX1_keepUnlocked 33 = .ok (.aload_n 0, 1) := by decide +kernel
theorem dX1_keepUnlocked_34 : decode cX1_keepUnlocked 34 = .ok (.getfield 18, 3) := by decide +kernel
theorem dX1_keepUnlocked_37 : decode cX1_keepUnlocked 37 = .ok (.iload 5, 2) := by decide +kernel
theorem dX1_keepUnlocked_39 : decode cX1_keepUnlocked 39 = .ok (.iaload, 1) := by decide +kernel
theorem dX1_keepUnlocked_40 : decode cX1_keepUnlocked 40 = .ok (.istore 6, 2) := by decide +kernel
theorem dX1_keepUnlocked_42 : decode cX1_keepUnlocked 42 = .ok (.iload_n 3, 1) := by decide +kernel
theorem dX1_keepUnlocked_43 : decode cX1_keepUnlocked 43 = .ok (.iload 6, 2) := by decide +kernel
theorem dX1_keepUnlocked_45 : decode cX1_keepUnlocked 45 = .ok (.invokestatic 34, 3) := by decide +kernel
theorem dX1_keepUnlocked_48 : decode cX1_keepUnlocked 48 = .ok (.ifCond .eq 24, 3) := by decide +kernel
theorem dX1_keepUnlocked_51 : decode cX1_keepUnlocked 51 = .ok (.aload_n 0, 1) := by decide +kernel
theorem dX1_keepUnlocked_52 : decode cX1_keepUnlocked 52 = .ok (.getfield 18, 3) := by decide +kernel
theorem dX1_keepUnlocked_55 : decode cX1_keepUnlocked 55 = .ok (.aload_n 0, 1) := by decide +kernel
theorem dX1_keepUnlocked_56 : decode cX1_keepUnlocked 56 = .ok (.getfield 31, 3) := by decide +kernel
theorem dX1_keepUnlocked_59 : decode cX1_keepUnlocked 59 = .ok (.iload 6, 2) := by decide +kernel
theorem dX1_keepUnlocked_61 : decode cX1_keepUnlocked 61 = .ok (.iastore, 1) := by decide +kernel
theorem dX1_keepUnlocked_62 : decode cX1_keepUnlocked 62 = .ok (.aload_n 0, 1) := by decide +kernel
theorem dX1_keepUnlocked_63 : decode cX1_keepUnlocked 63 = .ok (.dup, 1) := by decide +kernel
theorem dX1_keepUnlocked_64 : decode cX1_keepUnlocked 64 = .ok (.getfield 31, 3) := by decide +kernel
theorem dX1_keepUnlocked_67 : decode cX1_keepUnlocked 67 = .ok (.iconst 1, 1) := by decide +kernel
theorem dX1_keepUnlocked_68 : decode cX1_keepUnlocked 68 = .ok (.iadd, 1) := by decide +kernel
theorem dX1_keepUnlocked_69 : decode cX1_keepUnlocked 69 = .ok (.putfield 31, 3) := by decide +kernel
theorem dX1_keepUnlocked_72 : decode cX1_keepUnlocked 72 = .ok (.iinc 5 1, 3) := by decide +kernel
theorem dX1_keepUnlocked_75 : decode cX1_keepUnlocked 75 = .ok (.goto (-56), 3) := by decide +kernel
theorem dX1_keepUnlocked_78 : decode cX1_keepUnlocked 78 = .ok (.return_, 1) := by decide +kernel
theorem dX2_init_0 : decode cX2_init 0 = .ok (.aload_n 0, 1) := by decide +kernel
theorem dX2_init_1 : decode cX2_init 1 = .ok (.invokespecial 3, 3) := by decide +kernel
theorem dX2_init_4 : decode cX2_init 4 = .ok (.aload_n 0, 1) := by decide +kernel
theorem dX2_init_5 : decode cX2_init 5 = .ok (.iconst 4, 1) := by decide +kernel
theorem dX2_init_6 : decode cX2_init 6 = .ok (.newarray .int, 2) := by decide +kernel
theorem dX2_init_8 : decode cX2_init 8 = .ok (.putfield 9, 3) := by decide +kernel
theorem dX2_init_11 : decode cX2_init 11 = .ok (.aload_n 0, 1) := by decide +kernel
theorem dX2_init_12 : decode cX2_init 12 = .ok (.iconst 4, 1) := by decide +kernel
theorem dX2_init_13 : decode cX2_init 13 = .ok (.newarray .int, 2) := by decide +kernel
theorem dX2_init_15 : decode cX2_init 15 = .ok (.putfield 15, 3) := by decide +kernel
theorem dX2_init_18 : decode cX2_init 18 = .ok (.return_, 1) := by decide +kernel
theorem dX2_add_0 : decode cX2_add 0 = .ok (.aload_n 0, 1) := by decide +kernel
theorem dX2_add_1 : decode cX2_add 1 = .ok (.getfield 18, 3) := by decide +kernel
theorem dX2_add_4 : decode cX2_add 4 = .ok (.iconst 4, 1) := by decide +kernel
theorem dX2_add_5 : decode cX2_add 5 = .ok (.if_icmp .lt 5, 3) := by decide +kernel
theorem dX2_add_8 : decode cX2_add 8 = .ok (.iconst 0, 1) := by decide +kernel
theorem dX2_add_9 : decode cX2_add 9 = .ok (.ireturn, 1) := by decide +kernel
theorem dX2_add_10 : decode cX2_add 10 = .ok (.aload_n 0, 1) := by decide +kernel
theorem dX2_add_11 : decode cX2_add 11 = .ok (.getfield 9, 3) := by decide +kernel
theorem dX2_add_14 : decode cX2_add 14 = .ok (.aload_n 0, 1) := by decide +kernel
theorem dX2_add_15 : decode cX2_add 15 = .ok (.getfield 18, 3) := by decide +kernel
theorem dX2_add_18 : decode cX2_add 18 = .ok (.iload_n 1, 1) := by decide +kernel
theorem dX2_add_19 : decode cX2_add 19 = .ok (.iastore, 1) := by decide +kernel
theorem dX2_add_20 : decode cX2_add 20 = .ok (.aload_n 0, 1) := by decide +kernel
theorem dX2_add_21 : decode cX2_add 21 = .ok (.getfield 15, 3) := by decide +kernel
theorem dX2_add_24 : decode cX2_add 24 = .ok (.aload_n 0, 1) := by decide +kernel
theorem dX2_add_25 : decode cX2_add 25 = .ok (.getfield 18, 3) := by decide +kernel
theorem dX2_add_28 : decode cX2_add 28 = .ok (.iload_n 2, 1) := by decide +kernel
theorem dX2_add_29 : decode cX2_add 29 = .ok (.iastore, 1) := by decide +kernel
theorem dX2_add_30 : decode cX2_add 30 = .ok (.aload_n 0, 1) := by decide +kernel
theorem dX2_add_31 : decode cX2_add 31 = .ok (.dup, 1) := by decide +kernel
theorem dX2_add_32 : decode cX2_add 32 = .ok (.getfield 18, 3) := by decide +kernel
theorem dX2_add_35 : decode cX2_add 35 = .ok (.iconst 1, 1) := by decide +kernel
theorem dX2_add_36 : decode cX2_add 36 = .ok (.iadd, 1) := by decide +kernel
theorem dX2_add_37 : decode cX2_add 37 = .ok (.putfield 18, 3) := by decide +kernel
theorem dX2_add_40 : decode cX2_add 40 = .ok (.iconst 1, 1) := by decide +kernel
theorem dX2_add_41 : decode cX2_add 41 = .ok (.ireturn, 1) := by decide +kernel
theorem dX2_firstBroken_0 : decode cX2_firstBroken 0 = .ok (.iconst 0, 1) := by decide +kernel
theorem dX2_firstBroken_1 : decode cX2_firstBroken 1 = .ok (.istore 4, 2) := by decide +kernel
theorem dX2_firstBroken_3 : decode cX2_firstBroken 3 = .ok (.iload 4, 2) := by decide +kernel
theorem dX2_firstBroken_5 : decode cX2_firstBroken 5 = .ok (.aload_n 0, 1) := by decide +kernel
theorem dX2_firstBroken_6 : decode cX2_firstBroken 6 = .ok (.getfield 18, 3) := by decide +kernel
theorem dX2_firstBroken_9 : decode cX2_firstBroken 9 = .ok (.if_icmp .ge 24, 3) := by decide +kernel
theorem dX2_firstBroken_12 : decode cX2_firstBroken 12 = .ok (.aload_n 0, 1) := by decide +kernel
theorem dX2_firstBroken_13 : decode cX2_firstBroken 13 = .ok (.iload 4, 2) := by decide +kernel
theorem dX2_firstBroken_15 : decode cX2_firstBroken 15 = .ok (.aload_n 1, 1) := by decide +kernel
theorem dX2_firstBroken_16 : decode cX2_firstBroken 16 = .ok (.iload_n 2, 1) := by decide +kernel
theorem dX2_firstBroken_17 : decode cX2_firstBroken 17 = .ok (.aload_n 3, 1) := by decide +kernel
theorem dX2_firstBroken_18 : decode cX2_firstBroken 18 = .ok (.invokevirtual 22, 3) := by decide +kernel
theorem dX2_firstBroken_21 : decode cX2_firstBroken 21 = .ok (.ifCond .ne 6, 3) := by decide +kernel
theorem dX2_firstBroken_24 : decode cX2_firstBroken 24 = .ok (.iload 4, 2) := by decide +kernel
theorem dX2_firstBroken_26 : decode cX2_firstBroken 26 = .ok (.ireturn, 1) := by decide +kernel
theorem dX2_firstBroken_27 : decode cX2_firstBroken 27 = .ok (.iinc 4 1, 3) := by decide +kernel
theorem dX2_firstBroken_30 : decode cX2_firstBroken 30 = .ok (.goto (-27), 3) := by decide +kernel
theorem dX2_firstBroken_33 : decode cX2_firstBroken 33 = .ok (.iconst (-1), 1) := by decide +kernel
theorem dX2_firstBroken_34 : decode cX2_firstBroken 34 = .ok (.ireturn, 1) := by decide +kernel
theorem dX2_holds_0 : decode cX2_holds 0 = .ok (.iload_n 1, 1) := by decide +kernel
theorem dX2_holds_1 : decode cX2_holds 1 = .ok (.ifCond .lt 16, 3) := by decide +kernel
theorem dX2_holds_4 : decode cX2_holds 4 = .ok (.iload_n 1, 1) := by decide +kernel
theorem dX2_holds_5 : decode cX2_holds 5 = .ok (.aload_n 0, 1) := by decide +kernel
theorem dX2_holds_6 : decode cX2_holds 6 = .ok (.getfield 18, 3) := by decide +kernel
theorem dX2_holds_9 : decode cX2_holds 9 = .ok (.if_icmp .ge 8, 3) := by decide +kernel
theorem dX2_holds_12 : decode cX2_holds 12 = .ok (.iload_n 1, 1) := by decide +kernel
theorem dX2_holds_13 : decode cX2_holds 13 = .ok (.iconst 4, 1) := by decide +kernel
theorem dX2_holds_14 : decode cX2_holds 14 = .ok (.if_icmp .lt 5, 3) := by decide +kernel
theorem dX2_holds_17 : decode cX2_holds 17 = .ok (.iconst 1, 1) := by decide +kernel
theorem dX2_holds_18 : decode cX2_holds 18 = .ok (.ireturn, 1) := by decide +kernel
theorem dX2_holds_19 : decode cX2_holds 19 = .ok (.aload_n 2, 1) := by decide +kernel
theorem dX2_holds_20 : decode cX2_holds 20 = .ok (.iload_n 3, 1) := by decide +kernel
theorem dX2_holds_21 : decode cX2_holds 21 = .ok (.aload 4, 2) := by decide +kernel
theorem dX2_holds_23 : decode cX2_holds 23 = .ok (.invokevirtual 26, 3) := by decide +kernel
theorem dX2_holds_26 : decode cX2_holds 26 = .ok (.lstore 5, 2) := by decide +kernel
theorem dX2_holds_28 : decode cX2_holds 28 = .ok (.lload 5, 2) := by decide +kernel
theorem dX2_holds_30 : decode cX2_holds 30 = .ok (.ldc2_w 32, 3) := by decide +kernel
theorem dX2_holds_33 : decode cX2_holds 33 = .ok (.lcmp, 1) := by decide +kernel
theorem dX2_holds_34 : decode cX2_holds 34 = .ok (.ifCond .ne 5, 3) := by decide +kernel
theorem dX2_holds_37 : decode cX2_holds 37 = .ok (.iconst 0, 1) := by decide +kernel
theorem dX2_holds_38 : decode cX2_holds 38 = .ok (.ireturn, 1) := by decide +kernel
theorem dX2_holds_39 : decode cX2_holds 39 = .ok (.aload_n 0, 1) := by decide +kernel
theorem dX2_holds_40 : decode cX2_holds 40 = .ok (.getfield 15, 3) := by decide +kernel
theorem dX2_holds_43 : decode cX2_holds 43 = .ok (.iload_n 1, 1) := by decide +kernel
theorem dX2_holds_44 : decode cX2_holds 44 = .ok (.iaload, 1) := by decide +kernel
theorem dX2_holds_45 : decode cX2_holds 45 = .ok (.istore 7, 2) := by decide +kernel
theorem dX2_holds_47 : decode cX2_holds 47 = .ok (.aload_n 0, 1) := by decide +kernel
theorem dX2_holds_48 : decode cX2_holds 48 = .ok (.getfield 9, 3) := by decide +kernel
theorem dX2_holds_51 : decode cX2_holds 51 = .ok (.iload_n 1, 1) := by decide +kernel
theorem dX2_holds_52 : decode cX2_holds 52 = .ok (.iaload, 1) := by decide +kernel
theorem dX2_holds_53 : decode cX2_holds 53 = .ok (.tableswitch 77 0 2 #[27, 42, 57], 27) := by decide +kernel
theorem dX2_holds_80 : decode cX2_holds 80 = .ok (.lload 5, 2) := by decide +kernel
theorem dX2_holds_82 : decode cX2_holds 82 = .ok (.iload 7, 2) := by decide +kernel
theorem dX2_holds_84 : decode cX2_holds 84 = .ok (.i2l, 1) := by decide +kernel
theorem dX2_holds_85 : decode cX2_holds 85 = .ok (.lcmp, 1) := by decide +kernel
theorem dX2_holds_86 : decode cX2_holds 86 = .ok (.ifCond .lt 7, 3) := by decide +kernel
theorem dX2_holds_89 : decode cX2_holds 89 = .ok (.iconst 1, 1) := by decide +kernel
theorem dX2_holds_90 : decode cX2_holds 90 = .ok (.goto 4, 3) := by decide +kernel
theorem dX2_holds_93 : decode cX2_holds 93 = .ok (.iconst 0, 1) := by decide +kernel
theorem dX2_holds_94 : decode cX2_holds 94 = .ok (.ireturn, 1) := by decide +kernel
theorem dX2_holds_95 : decode cX2_holds 95 = .ok (.lload 5, 2) := by decide +kernel
theorem dX2_holds_97 : decode cX2_holds 97 = .ok (.iload 7, 2) := by decide +kernel
theorem dX2_holds_99 : decode cX2_holds 99 = .ok (.i2l, 1) := by decide +kernel
theorem dX2_holds_100 : decode cX2_holds 100 = .ok (.lcmp, 1) := by decide +kernel
theorem dX2_holds_101 : decode cX2_holds 101 = .ok (.ifCond .gt 7, 3) := by decide +kernel
theorem dX2_holds_104 : decode cX2_holds 104 = .ok (.iconst 1, 1) := by decide +kernel
theorem dX2_holds_105 : decode cX2_holds 105 = .ok (.goto 4, 3) := by decide +kernel
theorem dX2_holds_108 : decode cX2_holds 108 = .ok (.iconst 0, 1) := by decide +kernel
theorem dX2_holds_109 : decode cX2_holds 109 = .ok (.ireturn, 1) := by decide +kernel
theorem dX2_holds_110 : decode cX2_holds 110 = .ok (.lload 5, 2) := by decide +kernel
theorem dX2_holds_112 : decode cX2_holds 112 = .ok (.aload_n 2, 1) := by decide +kernel
theorem dX2_holds_113 : decode cX2_holds 113 = .ok (.iload 7, 2) := by decide +kernel
theorem dX2_holds_115 : decode cX2_holds 115 = .ok (.aload 4, 2) := by decide +kernel
theorem dX2_holds_117 : decode cX2_holds 117 = .ok (.invokevirtual 26, 3) := by decide +kernel
theorem dX2_holds_120 : decode cX2_holds 120 = .ok (.lcmp, 1) := by decide +kernel
theorem dX2_holds_121 : decode cX2_holds 121 = .ok (.ifCond .ne 7, 3) := by decide +kernel
theorem dX2_holds_124 : decode cX2_holds 124 = .ok (.iconst 1, 1) := by decide +kernel
theorem dX2_holds_125 : decode cX2_holds 125 = .ok (.goto 4, 3) := by decide +kernel
theorem dX2_holds_128 : decode cX2_holds 128 = .ok (.iconst 0, 1) := by decide +kernel
theorem dX2_holds_129 : decode cX2_holds 129 = .ok (.ireturn, 1) := by decide +kernel
theorem dX2_holds_130 : decode cX2_holds 130 = .ok (.aload_n 2, 1) := by decide +kernel
theorem dX2_holds_131 : decode cX2_holds 131 = .ok (.iload 7, 2) := by decide +kernel
theorem dX2_holds_133 : decode cX2_holds 133 = .ok (.invokevirtual 34, 3) := by decide +kernel
theorem dX2_holds_136 : decode cX2_holds 136 = .ok (.ifCond .eq 18, 3) := by decide +kernel
theorem dX2_holds_139 : decode cX2_holds 139 = .ok (.aload 4, 2) := by decide +kernel
theorem dX2_holds_141 : decode cX2_holds 141 = .ok (.iload 7, 2) := by decide +kernel
theorem dX2_holds_143 : decode cX2_holds 143 = .ok (.iaload, 1) := by decide +kernel
theorem dX2_holds_144 : decode cX2_holds 144 = .ok (.aload_n 2, 1) := by decide +kernel
theorem dX2_holds_145 : decode cX2_holds 145 = .ok (.getfield 38, 3) := by decide +kernel
theorem dX2_holds_148 : decode cX2_holds 148 = .ok (.iload 7, 2) := by decide +kernel
theorem dX2_holds_150 : decode cX2_holds 150 = .ok (.iaload, 1) := by decide +kernel
theorem dX2_holds_151 : decode cX2_holds 151 = .ok (.if_icmp .lt 5, 3) := by decide +kernel
theorem dX2_holds_154 : decode cX2_holds 154 = .ok (.iconst 1, 1) := by decide +kernel
theorem dX2_holds_155 : decode cX2_holds 155 = .ok (.ireturn, 1) := by decide +kernel
theorem dX2_holds_156 : decode cX2_holds 156 = .ok (.aload 4, 2) := by decide +kernel
theorem dX2_holds_158 : decode cX2_holds 158 = .ok (.iload 7, 2) := by decide +kernel
theorem dX2_holds_160 : decode cX2_holds 160 = .ok (.dup2, 1) := by decide +kernel
theorem dX2_holds_161 : decode cX2_holds 161 = .ok (.iaload, 1) := by decide +kernel
theorem dX2_holds_162 : decode cX2_holds 162 = .ok (.iconst 1, 1) := by decide +kernel
theorem dX2_holds_163 : decode cX2_holds 163 = .ok (.iadd, 1) := by decide +kernel
theorem dX2_holds_164 : decode cX2_holds 164 = .ok (.iastore, 1) := by decide +kernel
theorem dX2_holds_165 : decode cX2_holds 165 = .ok (.aload_n 2, 1) := by decide +kernel
theorem dX2_holds_166 : decode cX2_holds 166 = .ok (.iload_n 3, 1) := by decide +kernel
theorem dX2_holds_167 : decode cX2_holds 167 = .ok (.aload 4, 2) := by decide +kernel
theorem dX2_holds_169 : decode cX2_holds 169 = .ok (.invokevirtual 26, 3) := by decide +kernel
theorem dX2_holds_172 : decode cX2_holds 172 = .ok (.lstore 8, 2) := by decide +kernel
theorem dX2_holds_174 : decode cX2_holds 174 = .ok (.aload 4, 2) := by decide +kernel
theorem dX2_holds_176 : decode cX2_holds 176 = .ok (.iload 7, 2) := by decide +kernel
theorem dX2_holds_178 : decode cX2_holds 178 = .ok (.dup2, 1) := by decide +kernel
theorem dX2_holds_179 : decode cX2_holds 179 = .ok (.iaload, 1) := by decide +kernel
theorem dX2_holds_180 : decode cX2_holds 180 = .ok (.iconst 1, 1) := by decide +kernel
theorem dX2_holds_181 : decode cX2_holds 181 = .ok (.isub, 1) := by decide +kernel
theorem dX2_holds_182 : decode cX2_holds 182 = .ok (.iastore, 1) := by decide +kernel
theorem dX2_holds_183 : decode cX2_holds 183 = .ok (.lload 8, 2) := by decide +kernel
theorem dX2_holds_185 : decode cX2_holds 185 = .ok (.ldc2_w 32, 3) := by decide +kernel
theorem dX2_holds_188 : decode cX2_holds 188 = .ok (.lcmp, 1) := by decide +kernel
theorem dX2_holds_189 : decode cX2_holds 189 = .ok (.ifCond .eq 15, 3) := by decide +kernel
theorem dX2_holds_192 : decode cX2_holds 192 = .ok (.lload 8, 2) := by decide +kernel
theorem dX2_holds_194 : decode cX2_holds 194 = .ok (.lload 5, 2) := by decide +kernel
theorem dX2_holds_196 : decode cX2_holds 196 = .ok (.lcmp, 1) := by decide +kernel
theorem dX2_holds_197 : decode cX2_holds 197 = .ok (.ifCond .lt 7, 3) := by decide +kernel
theorem dX2_holds_200 : decode cX2_holds 200 = .ok (.iconst 1, 1) := by decide +kernel
theorem dX2_holds_201 : decode cX2_holds 201 = .ok (.goto 4, 3) := by decide +kernel
theorem dX2_holds_204 : decode cX2_holds 204 = .ok (.iconst 0, 1) := by decide +kernel
theorem dX2_holds_205 : decode cX2_holds 205 = .ok (.ireturn, 1) := by decide +kernel
theorem dX3_init_0 : decode cX3_init 0 = .ok (.aload_n 0, 1) := by decide +kernel
theorem dX3_init_1 : decode cX3_init 1 = .ok (.invokespecial 3, 3) := by decide +kernel
theorem dX3_init_4 : decode cX3_init 4 = .ok (.aload_n 0, 1) := by decide +kernel
theorem dX3_init_5 : decode cX3_init 5 = .ok (.bipush 16, 2) := by decide +kernel
theorem dX3_init_7 : decode cX3_init 7 = .ok (.anewarray 9, 3) := by decide +kernel
theorem dX3_init_10 : decode cX3_init 10 = .ok (.putfield 11, 3) := by decide +kernel
theorem dX3_init_13 : decode cX3_init 13 = .ok (.aload_n 0, 1) := by decide +kernel
theorem dX3_init_14 : decode cX3_init 14 = .ok (.bipush 16, 2) := by decide +kernel
theorem dX3_init_16 : decode cX3_init 16 = .ok (.newarray .int, 2) := by decide +kernel
theorem dX3_init_18 : decode cX3_init 18 = .ok (.putfield 17, 3) := by decide +kernel
theorem dX3_init_21 : decode cX3_init 21 = .ok (.aload_n 0, 1) := by decide +kernel
theorem dX3_init_22 : decode cX3_init 22 = .ok (.bipush 16, 2) := by decide +kernel
theorem dX3_init_24 : decode cX3_init 24 = .ok (.newarray .int, 2) := by decide +kernel
theorem dX3_init_26 : decode cX3_init 26 = .ok (.putfield 21, 3) := by decide +kernel
theorem dX3_init_29 : decode cX3_init 29 = .ok (.aload_n 0, 1) := by decide +kernel
theorem dX3_init_30 : decode cX3_init 30 = .ok (.bipush 16, 2) := by decide +kernel
theorem dX3_init_32 : decode cX3_init 32 = .ok (.newarray .int, 2) := by decide +kernel
theorem dX3_init_34 : decode cX3_init 34 = .ok (.putfield 24, 3) := by decide +kernel
theorem dX3_init_37 : decode cX3_init 37 = .ok (.aload_n 0, 1) := by decide +kernel
theorem dX3_init_38 : decode cX3_init 38 = .ok (.bipush 16, 2) := by decide +kernel
theorem dX3_init_40 : decode cX3_init 40 = .ok (.newarray .int, 2) := by decide +kernel
theorem dX3_init_42 : decode cX3_init 42 = .ok (.putfield 27, 3) := by decide +kernel
theorem dX3_init_45 : decode cX3_init 45 = .ok (.aload_n 0, 1) := by decide +kernel
theorem dX3_init_46 : decode cX3_init 46 = .ok (.bipush 16, 2) := by decide +kernel
theorem dX3_init_48 : decode cX3_init 48 = .ok (.newarray .int, 2) := by decide +kernel
theorem dX3_init_50 : decode cX3_init 50 = .ok (.putfield 30, 3) := by decide +kernel
theorem dX3_init_53 : decode cX3_init 53 = .ok (.aload_n 0, 1) := by decide +kernel
theorem dX3_init_54 : decode cX3_init 54 = .ok (.bipush 16, 2) := by decide +kernel
theorem dX3_init_56 : decode cX3_init 56 = .ok (.newarray .int, 2) := by decide +kernel
theorem dX3_init_58 : decode cX3_init 58 = .ok (.putfield 33, 3) := by decide +kernel
theorem dX3_init_61 : decode cX3_init 61 = .ok (.aload_n 0, 1) := by decide +kernel
theorem dX3_init_62 : decode cX3_init 62 = .ok (.bipush 16, 2) := by decide +kernel
theorem dX3_init_64 : decode cX3_init 64 = .ok (.newarray .long, 2) := by decide +kernel
theorem dX3_init_66 : decode cX3_init 66 = .ok (.putfield 36, 3) := by decide +kernel
theorem dX3_init_69 : decode cX3_init 69 = .ok (.aload_n 0, 1) := by decide +kernel
theorem dX3_init_70 : decode cX3_init 70 = .ok (.ldc 40, 2) := by decide +kernel
theorem dX3_init_72 : decode cX3_init 72 = .ok (.putfield 41, 3) := by decide +kernel
theorem dX3_init_75 : decode cX3_init 75 = .ok (.iconst 0, 1) := by decide +kernel
theorem dX3_init_76 : decode cX3_init 76 = .ok (.istore_n 1, 1) := by decide +kernel
theorem dX3_init_77 : decode cX3_init 77 = .ok (.iload_n 1, 1) := by decide +kernel
theorem dX3_init_78 : decode cX3_init 78 = .ok (.bipush 16, 2) := by decide +kernel
theorem dX3_init_80 : decode cX3_init 80 = .ok (.if_icmp .ge 29, 3) := by decide +kernel
theorem dX3_init_83 : decode cX3_init 83 = .ok (.aload_n 0, 1) := by decide +kernel
theorem dX3_init_84 : decode cX3_init 84 = .ok (.getfield 11, 3) := by decide +kernel
theorem dX3_init_87 : decode cX3_init 87 = .ok (.iload_n 1, 1) := by decide +kernel
theorem dX3_init_88 : decode cX3_init 88 = .ok (.new 9, 3) := by decide +kernel
theorem dX3_init_91 : decode cX3_init 91 = .ok (.dup, 1) := by decide +kernel
theorem dX3_init_92 : decode cX3_init 92 = .ok (.invokespecial 45, 3) := by decide +kernel
theorem dX3_init_95 : decode cX3_init 95 = .ok (.aastore, 1) := by decide +kernel
theorem dX3_init_96 : decode cX3_init 96 = .ok (.aload_n 0, 1) := by decide +kernel
theorem dX3_init_97 : decode cX3_init 97 = .ok (.getfield 33, 3) := by decide +kernel
theorem dX3_init_100 : decode cX3_init 100 = .ok (.iload_n 1, 1) := by decide +kernel
theorem dX3_init_101 : decode cX3_init 101 = .ok (.iload_n 1, 1) := by decide +kernel
theorem dX3_init_102 : decode cX3_init 102 = .ok (.iastore, 1) := by decide +kernel
theorem dX3_init_103 : decode cX3_init 103 = .ok (.iinc 1 1, 3) := by decide +kernel
theorem dX3_init_106 : decode cX3_init 106 = .ok (.goto (-29), 3) := by decide +kernel
theorem dX3_init_109 : decode cX3_init 109 = .ok (.return_, 1) := by decide +kernel
theorem dX3_isInput_0 : decode cX3_isInput 0 = .ok (.aload_n 0, 1) := by decide +kernel
theorem dX3_isInput_1 : decode cX3_isInput 1 = .ok (.getfield 41, 3) := by decide +kernel
theorem dX3_isInput_4 : decode cX3_isInput 4 = .ok (.iload_n 1, 1) := by decide +kernel
theorem dX3_isInput_5 : decode cX3_isInput 5 = .ok (.invokestatic 46, 3) := by decide +kernel
theorem dX3_isInput_8 : decode cX3_isInput 8 = .ok (.ireturn, 1) := by decide +kernel
theorem dX3_makeInput_0 : decode cX3_makeInput 0 = .ok (.aload_n 0, 1) := by decide +kernel
theorem dX3_makeInput_1 : decode cX3_makeInput 1 = .ok (.dup, 1) := by decide +kernel
theorem dX3_makeInput_2 : decode cX3_makeInput 2 = .ok (.getfield 41, 3) := by decide +kernel
theorem dX3_makeInput_5 : decode cX3_makeInput 5 = .ok (.iconst 1, 1) := by decide +kernel
theorem dX3_makeInput_6 : decode cX3_makeInput 6 = .ok (.iload_n 1, 1) := by decide +kernel
theorem dX3_makeInput_7 : decode cX3_makeInput 7 = .ok (.ishl, 1) := by decide +kernel
theorem dX3_makeInput_8 : decode cX3_makeInput 8 = .ok (.ior, 1) := by decide +kernel
theorem dX3_makeInput_9 : decode cX3_makeInput 9 = .ok (.putfield 41, 3) := by decide +kernel
theorem dX3_makeInput_12 : decode cX3_makeInput 12 = .ok (.aload_n 0, 1) := by decide +kernel
theorem dX3_makeInput_13 : decode cX3_makeInput 13 = .ok (.getfield 17, 3) := by decide +kernel
theorem dX3_makeInput_16 : decode cX3_makeInput 16 = .ok (.iload_n 1, 1) := by decide +kernel
theorem dX3_makeInput_17 : decode cX3_makeInput 17 = .ok (.iload_n 2, 1) := by decide +kernel
theorem dX3_makeInput_18 : decode cX3_makeInput 18 = .ok (.iastore, 1) := by decide +kernel
theorem dX3_makeInput_19 : decode cX3_makeInput 19 = .ok (.aload_n 0, 1) := by decide +kernel
theorem dX3_makeInput_20 : decode cX3_makeInput 20 = .ok (.getfield 21, 3) := by decide +kernel
theorem dX3_makeInput_23 : decode cX3_makeInput 23 = .ok (.iload_n 1, 1) := by decide +kernel
theorem dX3_makeInput_24 : decode cX3_makeInput 24 = .ok (.iload_n 3, 1) := by decide +kernel
theorem dX3_makeInput_25 : decode cX3_makeInput 25 = .ok (.iastore, 1) := by decide +kernel
theorem dX3_makeInput_26 : decode cX3_makeInput 26 = .ok (.aload_n 0, 1) := by decide +kernel
theorem dX3_makeInput_27 : decode cX3_makeInput 27 = .ok (.getfield 24, 3) := by decide +kernel
theorem dX3_makeInput_30 : decode cX3_makeInput 30 = .ok (.iload_n 1, 1) := by decide +kernel
theorem dX3_makeInput_31 : decode cX3_makeInput 31 = .ok (.iload_n 2, 1) := by decide +kernel
theorem dX3_makeInput_32 : decode cX3_makeInput 32 = .ok (.iastore, 1) := by decide +kernel
theorem dX3_makeInput_33 : decode cX3_makeInput 33 = .ok (.aload_n 0, 1) := by decide +kernel
theorem dX3_makeInput_34 : decode cX3_makeInput 34 = .ok (.getfield 27, 3) := by decide +kernel
theorem dX3_makeInput_37 : decode cX3_makeInput 37 = .ok (.iload_n 1, 1) := by decide +kernel
theorem dX3_makeInput_38 : decode cX3_makeInput 38 = .ok (.iconst 0, 1) := by decide +kernel
theorem dX3_makeInput_39 : decode cX3_makeInput 39 = .ok (.iastore, 1) := by decide +kernel
theorem dX3_makeInput_40 : decode cX3_makeInput 40 = .ok (.aload_n 0, 1) := by decide +kernel
theorem dX3_makeInput_41 : decode cX3_makeInput 41 = .ok (.invokevirtual 50, 3) := by decide +kernel
theorem dX3_makeInput_44 : decode cX3_makeInput 44 = .ok (.return_, 1) := by decide +kernel
theorem dX3_makeFormula_0 : decode cX3_makeFormula 0 = .ok (.aload_n 0, 1) := by decide +kernel
theorem dX3_makeFormula_1 : decode cX3_makeFormula 1 = .ok (.dup, 1) := by decide +kernel
theorem dX3_makeFormula_2 : decode cX3_makeFormula 2 = .ok (.getfield 41, 3) := by decide +kernel
theorem dX3_makeFormula_5 : decode cX3_makeFormula 5 = .ok (.iconst 1, 1) := by decide +kernel
theorem dX3_makeFormula_6 : decode cX3_makeFormula 6 = .ok (.iload_n 1, 1) := by decide +kernel
theorem dX3_makeFormula_7 : decode cX3_makeFormula 7 = .ok (.ishl, 1) := by decide +kernel
theorem dX3_makeFormula_8 : decode cX3_makeFormula 8 = .ok (.iconst (-1), 1) := by decide +kernel
theorem dX3_makeFormula_9 : decode cX3_makeFormula 9 = .ok (.ixor, 1) := by decide +kernel
theorem dX3_makeFormula_10 : decode cX3_makeFormula 10 = .ok (.iand, 1) := by decide +kernel
theorem dX3_makeFormula_11 : decode cX3_makeFormula 11 = .ok (.putfield 41, 3) := by decide +kernel
theorem dX3_makeFormula_14 : decode cX3_makeFormula 14 = .ok (.aload_n 0, 1) := by decide +kernel
theorem dX3_makeFormula_15 : decode cX3_makeFormula 15 = .ok (.getfield 11, 3) := by decide +kernel
theorem dX3_makeFormula_18 : decode cX3_makeFormula 18 = .ok (.iload_n 1, 1) := by decide +kernel
theorem dX3_makeFormula_19 : decode cX3_makeFormula 19 = .ok (.aaload, 1) := by decide +kernel
theorem dX3_makeFormula_20 : decode cX3_makeFormula 20 = .ok (.aload_n 2, 1) := by decide +kernel
theorem dX3_makeFormula_21 : decode cX3_makeFormula 21 = .ok (.invokevirtual 53, 3) := by decide +kernel
theorem dX3_makeFormula_24 : decode cX3_makeFormula 24 = .ok (.aload_n 0, 1) := by decide +kernel
theorem dX3_makeFormula_25 : decode cX3_makeFormula 25 = .ok (.getfield 27, 3) := by decide +kernel
theorem dX3_makeFormula_28 : decode cX3_makeFormula 28 = .ok (.iload_n 1, 1) := by decide +kernel
theorem dX3_makeFormula_29 : decode cX3_makeFormula 29 = .ok (.aload_n 2, 1) := by decide +kernel
theorem dX3_makeFormula_30 : decode cX3_makeFormula 30 = .ok (.invokevirtual 57, 3) := by decide +kernel
theorem dX3_makeFormula_33 : decode cX3_makeFormula 33 = .ok (.iastore, 1) := by decide +kernel
theorem dX3_makeFormula_34 : decode cX3_makeFormula 34 = .ok (.aload_n 0, 1) := by decide +kernel
theorem dX3_makeFormula_35 : decode cX3_makeFormula 35 = .ok (.invokevirtual 50, 3) := by decide +kernel
theorem dX3_makeFormula_38 : decode cX3_makeFormula 38 = .ok (.return_, 1) := by decide +kernel
theorem dX3_wouldRestOnItself_0 : decode cX3_wouldRestOnItself 0 = .ok (.aload_n 0, 1) := by decide +kernel
theorem dX3_wouldRestOnItself_1 : decode cX3_wouldRestOnItself 1 = .ok (.aload_n 2, 1) := by decide +kernel
theorem dX3_wouldRestOnItself_2 : decode cX3_wouldRestOnItself 2 = .ok (.invokevirtual 57, 3) := by decide +kernel
theorem dX3_wouldRestOnItself_5 : decode cX3_wouldRestOnItself 5 = .ok (.invokevirtual 61, 3) := by decide +kernel
theorem dX3_wouldRestOnItself_8 : decode cX3_wouldRestOnItself 8 = .ok (.iload_n 1, 1) := by decide +kernel
theorem dX3_wouldRestOnItself_9 : decode cX3_wouldRestOnItself 9 = .ok (.invokestatic 46, 3) := by decide +kernel
theorem dX3_wouldRestOnItself_12 : decode cX3_wouldRestOnItself 12 = .ok (.ireturn, 1) := by decide +kernel
theorem dX3_restedOnThrough_0 : decode cX3_restedOnThrough 0 = .ok (.iload_n 1, 1) := by decide +kernel
theorem dX3_restedOnThrough_1 : decode cX3_restedOnThrough 1 = .ok (.istore_n 2, 1) := by decide +kernel
theorem dX3_restedOnThrough_2 : decode cX3_restedOnThrough 2 = .ok (.iconst 0, 1) := by decide +kernel
theorem dX3_restedOnThrough_3 : decode cX3_restedOnThrough 3 = .ok (.istore_n 3, 1) := by decide +kernel
theorem dX3_restedOnThrough_4 : decode cX3_restedOnThrough 4 = .ok (.iload_n 3, 1) := by decide +kernel
theorem dX3_restedOnThrough_5 : decode cX3_restedOnThrough 5 = .ok (.bipush 16, 2) := by decide +kernel
theorem dX3_restedOnThrough_7 : decode cX3_restedOnThrough 7 = .ok (.if_icmp .ge 26, 3) := by decide +kernel
theorem dX3_restedOnThrough_10 : decode cX3_restedOnThrough 10 = .ok (.iload_n 1, 1) := by decide +kernel
theorem dX3_restedOnThrough_11 : decode cX3_restedOnThrough 11 = .ok (.iload_n 3, 1) := by decide +kernel
theorem dX3_restedOnThrough_12 : decode cX3_restedOnThrough 12 = .ok (.invokestatic 46, 3) := by decide +kernel
theorem dX3_restedOnThrough_15 : decode cX3_restedOnThrough 15 = .ok (.ifCond .eq 12, 3) := by decide +kernel
theorem dX3_restedOnThrough_18 : decode cX3_restedOnThrough 18 = .ok (.iload_n 2, 1) := by decide +kernel
theorem dX3_restedOnThrough_19 : decode cX3_restedOnThrough 19 = .ok (.aload_n 0, 1) := by decide +kernel
theorem dX3_restedOnThrough_20 : decode cX3_restedOnThrough 20 = .ok (.getfield 30, 3) := by decide +kernel
theorem dX3_restedOnThrough_23 : decode cX3_restedOnThrough 23 = .ok (.iload_n 3, 1) := by decide +kernel
theorem dX3_restedOnThrough_24 : decode cX3_restedOnThrough 24 = .ok (.iaload, 1) := by decide +kernel
theorem dX3_restedOnThrough_25 : decode cX3_restedOnThrough 25 = .ok (.ior, 1) := by decide +kernel
theorem dX3_restedOnThrough_26 : decode cX3_restedOnThrough 26 = .ok (.istore_n 2, 1) := by decide +kernel
theorem dX3_restedOnThrough_27 : decode cX3_restedOnThrough 27 = .ok (.iinc 3 1, 3) := by decide +kernel
theorem dX3_restedOnThrough_30 : decode cX3_restedOnThrough 30 = .ok (.goto (-26), 3) := by decide +kernel
theorem dX3_restedOnThrough_33 : decode cX3_restedOnThrough 33 = .ok (.iload_n 2, 1) := by decide +kernel
theorem dX3_restedOnThrough_34 : decode cX3_restedOnThrough 34 = .ok (.ireturn, 1) := by decide +kernel
theorem dX3_arrange_0 : decode cX3_arrange 0 = .ok (.iconst 0, 1) := by decide +kernel
theorem dX3_arrange_1 : decode cX3_arrange 1 = .ok (.istore_n 1, 1) := by decide +kernel
theorem dX3_arrange_2 : decode cX3_arrange 2 = .ok (.iconst 0, 1) := by decide +kernel
theorem dX3_arrange_3 : decode cX3_arrange 3 = .ok (.istore_n 2, 1) := by decide +kernel
theorem dX3_arrange_4 : decode cX3_arrange 4 = .ok (.iconst 0, 1) := by decide +kernel
theorem dX3_arrange_5 : decode cX3_arrange 5 = .ok (.istore_n 3, 1) := by decide +kernel
theorem dX3_arrange_6 : decode cX3_arrange 6 = .ok (.iload_n 3, 1) := by decide +kernel
theorem dX3_arrange_7 : decode cX3_arrange 7 = .ok (.bipush 16, 2) := by decide +kernel
theorem dX3_arrange_9 : decode cX3_arrange 9 = .ok (.if_icmp .ge 96, 3) := by decide +kernel
theorem dX3_arrange_12 : decode cX3_arrange 12 = .ok (.iload_n 2, 1) := by decide +kernel
theorem dX3_arrange_13 : decode cX3_arrange 13 = .ok (.bipush 16, 2) := by decide +kernel
theorem dX3_arrange_15 : decode cX3_arrange 15 = .ok (.if_icmp .ge 90, 3) := by decide +kernel
theorem dX3_arrange_18 : decode cX3_arrange 18 = .ok (.iconst 0, 1) := by decide +kernel
theorem dX3_arrange_19 : decode cX3_arrange 19 = .ok (.istore 4, 2) := by decide +kernel
theorem dX3_arrange_21 : decode cX3_arrange 21 = .ok (.iload 4, 2) := by decide +kernel
theorem dX3_arrange_23 : decode cX3_arrange 23 = .ok (.bipush 16, 2) := by decide +kernel
theorem dX3_arrange_25 : decode cX3_arrange 25 = .ok (.if_icmp .ge 74, 3) := by decide +kernel
theorem dX3_arrange_28 : decode cX3_arrange 28 = .ok (.iload_n 2, 1) := by decide +kernel
theorem dX3_arrange_29 : decode cX3_arrange 29 = .ok (.bipush 16, 2) := by decide +kernel
theorem dX3_arrange_31 : decode cX3_arrange 31 = .ok (.if_icmp .ge 62, 3) := by decide +kernel
theorem dX3_arrange_34 : decode cX3_arrange 34 = .ok (.iload_n 1, 1) := by decide +kernel
theorem dX3_arrange_35 : decode cX3_arrange 35 = .ok (.iload 4, 2) := by decide +kernel
theorem dX3_arrange_37 : decode cX3_arrange 37 = .ok (.invokestatic 46, 3) := by decide +kernel
theorem dX3_arrange_40 : decode cX3_arrange 40 = .ok (.ifCond .ne 53, 3) := by decide +kernel
theorem dX3_arrange_43 : decode cX3_arrange 43 = .ok (.aload_n 0, 1) := by decide +kernel
theorem dX3_arrange_44 : decode cX3_arrange 44 = .ok (.getfield 27, 3) := by decide +kernel
theorem dX3_arrange_47 : decode cX3_arrange 47 = .ok (.iload 4, 2) := by decide +kernel
theorem dX3_arrange_49 : decode cX3_arrange 49 = .ok (.iaload, 1) := by decide +kernel
theorem dX3_arrange_50 : decode cX3_arrange 50 = .ok (.iload_n 1, 1) := by decide +kernel
theorem dX3_arrange_51 : decode cX3_arrange 51 = .ok (.iconst (-1), 1) := by decide +kernel
theorem dX3_arrange_52 : decode cX3_arrange 52 = .ok (.ixor, 1) := by decide +kernel
theorem dX3_arrange_53 : decode cX3_arrange 53 = .ok (.iand, 1) := by decide +kernel
theorem dX3_arrange_54 : decode cX3_arrange 54 = .ok (.ifCond .ne 39, 3) := by decide +kernel
theorem dX3_arrange_57 : decode cX3_arrange 57 = .ok (.aload_n 0, 1) := by decide +kernel
theorem dX3_arrange_58 : decode cX3_arrange 58 = .ok (.getfield 33, 3) := by decide +kernel
theorem dX3_arrange_61 : decode cX3_arrange 61 = .ok (.iload_n 2, 1) := by decide +kernel
theorem dX3_arrange_62 : decode cX3_arrange 62 = .ok (.iload 4, 2) := by decide +kernel
theorem dX3_arrange_64 : decode cX3_arrange 64 = .ok (.iastore, 1) := by decide +kernel
theorem dX3_arrange_65 : decode cX3_arrange 65 = .ok (.iinc 2 1, 3) := by decide +kernel
theorem dX3_arrange_68 : decode cX3_arrange 68 = .ok (.iload_n 1, 1) := by decide +kernel
theorem dX3_arrange_69 : decode cX3_arrange 69 = .ok (.iconst 1, 1) := by decide +kernel
theorem dX3_arrange_70 : decode cX3_arrange 70 = .ok (.iload 4, 2) := by decide +kernel
theorem dX3_arrange_72 : decode cX3_arrange 72 = .ok (.ishl, 1) := by decide +kernel
theorem dX3_arrange_73 : decode cX3_arrange 73 = .ok (.ior, 1) := by decide +kernel
theorem dX3_arrange_74 : decode cX3_arrange 74 = .ok (.istore_n 1, 1) := by decide +kernel
theorem dX3_arrange_75 : decode cX3_arrange 75 = .ok (.aload_n 0, 1) := by decide +kernel
theorem dX3_arrange_76 : decode cX3_arrange 76 = .ok (.getfield 30, 3) := by decide +kernel
theorem dX3_arrange_79 : decode cX3_arrange 79 = .ok (.iload 4, 2) := by decide +kernel
theorem dX3_arrange_81 : decode cX3_arrange 81 = .ok (.aload_n 0, 1) := by decide +kernel
theorem dX3_arrange_82 : decode cX3_arrange 82 = .ok (.aload_n 0, 1) := by decide +kernel
theorem dX3_arrange_83 : decode cX3_arrange 83 = .ok (.getfield 27, 3) := by decide +kernel
theorem dX3_arrange_86 : decode cX3_arrange 86 = .ok (.iload 4, 2) := by decide +kernel
theorem dX3_arrange_88 : decode cX3_arrange 88 = .ok (.iaload, 1) := by decide +kernel
theorem dX3_arrange_89 : decode cX3_arrange 89 = .ok (.invokevirtual 61, 3) := by decide +kernel
theorem dX3_arrange_92 : decode cX3_arrange 92 = .ok (.iastore, 1) := by decide +kernel
theorem dX3_arrange_93 : decode cX3_arrange 93 = .ok (.iinc 4 1, 3) := by decide +kernel
theorem dX3_arrange_96 : decode cX3_arrange 96 = .ok (.goto (-75), 3) := by decide +kernel
theorem dX3_arrange_99 : decode cX3_arrange 99 = .ok (.iinc 3 1, 3) := by decide +kernel
theorem dX3_arrange_102 : decode cX3_arrange 102 = .ok (.goto (-96), 3) := by decide +kernel
theorem dX3_arrange_105 : decode cX3_arrange 105 = .ok (.return_, 1) := by decide +kernel
theorem dX3_cellsRestingOn_0 : decode cX3_cellsRestingOn 0 = .ok (.iconst 0, 1) := by decide +kernel
theorem dX3_cellsRestingOn_1 : decode cX3_cellsRestingOn 1 = .ok (.istore_n 2, 1) := by decide +kernel
theorem dX3_cellsRestingOn_2 : decode cX3_cellsRestingOn 2 = .ok (.iconst 0, 1) := by decide +kernel
theorem dX3_cellsRestingOn_3 : decode cX3_cellsRestingOn 3 = .ok (.istore_n 3, 1) := by decide +kernel
theorem dX3_cellsRestingOn_4 : decode cX3_cellsRestingOn 4 = .ok (.iload_n 3, 1) := by decide +kernel
theorem dX3_cellsRestingOn_5 : decode cX3_cellsRestingOn 5 = .ok (.bipush 16, 2) := by decide +kernel
theorem dX3_cellsRestingOn_7 : decode cX3_cellsRestingOn 7 = .ok (.if_icmp .ge 28, 3) := by decide +kernel
theorem dX3_cellsRestingOn_10 : decode cX3_cellsRestingOn 10 = .ok (.aload_n 0, 1) := by decide +kernel
theorem dX3_cellsRestingOn_11 : decode cX3_cellsRestingOn 11 = .ok (.getfield 30, 3) := by decide +kernel
theorem dX3_cellsRestingOn_14 : decode cX3_cellsRestingOn 14 = .ok (.iload_n 3, 1) := by decide +kernel
theorem dX3_cellsRestingOn_15 : decode cX3_cellsRestingOn 15 = .ok (.iaload, 1) := by decide +kernel
theorem dX3_cellsRestingOn_16 : decode cX3_cellsRestingOn 16 = .ok (.iload_n 1, 1) := by decide +kernel
theorem dX3_cellsRestingOn_17 : decode cX3_cellsRestingOn 17 = .ok (.invokestatic 46, 3) := by decide +kernel
theorem dX3_cellsRestingOn_20 : decode cX3_cellsRestingOn 20 = .ok (.ifCond .eq 9, 3) := by decide +kernel
theorem dX3_cellsRestingOn_23 : decode cX3_cellsRestingOn 23 = .ok (.iload_n 2, 1) := by decide +kernel
theorem dX3_cellsRestingOn_24 : decode cX3_cellsRestingOn 24 = .ok (.iconst 1, 1) := by decide +kernel
theorem dX3_cellsRestingOn_25 : decode cX3_cellsRestingOn 25 = .ok (.iload_n 3, 1) := by decide +kernel
theorem dX3_cellsRestingOn_26 : decode cX3_cellsRestingOn 26 = .ok (.ishl, 1) := by decide +kernel
theorem dX3_cellsRestingOn_27 : decode cX3_cellsRestingOn 27 = .ok (.ior, 1) := by decide +kernel
theorem dX3_cellsRestingOn_28 : decode cX3_cellsRestingOn 28 = .ok (.istore_n 2, 1) := by decide +kernel
theorem dX3_cellsRestingOn_29 : decode cX3_cellsRestingOn 29 = .ok (.iinc 3 1, 3) := by decide +kernel
theorem dX3_cellsRestingOn_32 : decode cX3_cellsRestingOn 32 = .ok (.goto (-28), 3) := by decide +kernel
theorem dX3_cellsRestingOn_35 : decode cX3_cellsRestingOn 35 = .ok (.iload_n 2, 1) := by decide +kernel
theorem dX3_cellsRestingOn_36 : decode cX3_cellsRestingOn 36 = .ok (.ireturn, 1) := by decide +kernel
theorem dX3_reckon_0 : decode cX3_reckon 0 = .ok (.iload_n 1, 1) := by decide +kernel
theorem dX3_reckon_1 : decode cX3_reckon 1 = .ok (.ifCond .lt 9, 3) := by decide +kernel
theorem dX3_reckon_4 : decode cX3_reckon 4 = .ok (.iload_n 1, 1) := by decide +kernel
theorem dX3_reckon_5 : decode cX3_reckon 5 = .ok (.bipush 16, 2) := by decide +kernel
theorem dX3_reckon_7 : decode cX3_reckon 7 = .ok (.if_icmp .lt 7, 3) := by decide +kernel
theorem dX3_reckon_10 : decode cX3_reckon 10 = .ok (.ldc2_w 65, 3) := by decide +kernel
theorem dX3_reckon_13 : decode cX3_reckon 13 = .ok (.lreturn, 1) := by decide +kernel
theorem dX3_reckon_14 : decode cX3_reckon 14 = .ok (.aload_n 0, 1) := by decide +kernel
theorem dX3_reckon_15 : decode cX3_reckon 15 = .ok (.getfield 30, 3) := by decide +kernel
theorem dX3_reckon_18 : decode cX3_reckon 18 = .ok (.iload_n 1, 1) := by decide +kernel
theorem dX3_reckon_19 : decode cX3_reckon 19 = .ok (.iaload, 1) := by decide +kernel
theorem dX3_reckon_20 : decode cX3_reckon 20 = .ok (.iconst 1, 1) := by decide +kernel
theorem dX3_reckon_21 : decode cX3_reckon 21 = .ok (.iload_n 1, 1) := by decide +kernel
theorem dX3_reckon_22 : decode cX3_reckon 22 = .ok (.ishl, 1) := by decide +kernel
theorem dX3_reckon_23 : decode cX3_reckon 23 = .ok (.ior, 1) := by decide +kernel
theorem dX3_reckon_24 : decode cX3_reckon 24 = .ok (.istore_n 3, 1) := by decide +kernel
theorem dX3_reckon_25 : decode cX3_reckon 25 = .ok (.iconst 0, 1) := by decide +kernel
theorem dX3_reckon_26 : decode cX3_reckon 26 = .ok (.istore 4, 2) := by decide +kernel
theorem dX3_reckon_28 : decode cX3_reckon 28 = .ok (.iload 4, 2) := by decide +kernel
theorem dX3_reckon_30 : decode cX3_reckon 30 = .ok (.bipush 16, 2) := by decide +kernel
theorem dX3_reckon_32 : decode cX3_reckon 32 = .ok (.if_icmp .ge 65, 3) := by decide +kernel
theorem dX3_reckon_35 : decode cX3_reckon 35 = .ok (.aload_n 0, 1) := by decide +kernel
theorem dX3_reckon_36 : decode cX3_reckon 36 = .ok (.getfield 33, 3) := by decide +kernel
theorem dX3_reckon_39 : decode cX3_reckon 39 = .ok (.iload 4, 2) := by decide +kernel
theorem dX3_reckon_41 : decode cX3_reckon 41 = .ok (.iaload, 1) := by decide +kernel
theorem dX3_reckon_42 : decode cX3_reckon 42 = .ok (.istore 5, 2) := by decide +kernel
theorem dX3_reckon_44 : decode cX3_reckon 44 = .ok (.iload_n 3, 1) := by decide +kernel
theorem dX3_reckon_45 : decode cX3_reckon 45 = .ok (.iload 5, 2) := by decide +kernel
theorem dX3_reckon_47 : decode cX3_reckon 47 = .ok (.invokestatic 46, 3) := by decide +kernel
theorem dX3_reckon_50 : decode cX3_reckon 50 = .ok (.ifCond .eq 41, 3) := by decide +kernel
theorem dX3_reckon_53 : decode cX3_reckon 53 = .ok (.aload_n 0, 1) := by decide +kernel
theorem dX3_reckon_54 : decode cX3_reckon 54 = .ok (.getfield 36, 3) := by decide +kernel
theorem dX3_reckon_57 : decode cX3_reckon 57 = .ok (.iload 5, 2) := by decide +kernel
theorem dX3_reckon_59 : decode cX3_reckon 59 = .ok (.aload_n 0, 1) := by decide +kernel
theorem dX3_reckon_60 : decode cX3_reckon 60 = .ok (.iload 5, 2) := by decide +kernel
theorem dX3_reckon_62 : decode cX3_reckon 62 = .ok (.invokevirtual 67, 3) := by decide +kernel
theorem dX3_reckon_65 : decode cX3_reckon 65 = .ok (.ifCond .eq 11, 3) := by decide +kernel
theorem dX3_reckon_68 : decode cX3_reckon 68 = .ok (.aload_n 2, 1) := by decide +kernel
theorem dX3_reckon_69 : decode cX3_reckon 69 = .ok (.iload 5, 2) := by decide +kernel
theorem dX3_reckon_71 : decode cX3_reckon 71 = .ok (.iaload, 1) := by decide +kernel
theorem dX3_reckon_72 : decode cX3_reckon 72 = .ok (.i2l, 1) := by decide +kernel
theorem dX3_reckon_73 : decode cX3_reckon 73 = .ok (.goto 17, 3) := by decide +kernel
theorem dX3_reckon_76 : decode cX3_reckon 76 = .ok (.aload_n 0, 1) := by decide +kernel
theorem dX3_reckon_77 : decode cX3_reckon 77 = .ok (.getfield 11, 3) := by decide +kernel
theorem dX3_reckon_80 : decode cX3_reckon 80 = .ok (.iload 5, 2) := by decide +kernel
theorem dX3_reckon_82 : decode cX3_reckon 82 = .ok (.aaload, 1) := by decide +kernel
theorem dX3_reckon_83 : decode cX3_reckon 83 = .ok (.aload_n 0, 1) := by decide +kernel
theorem dX3_reckon_84 : decode cX3_reckon 84 = .ok (.getfield 36, 3) := by decide +kernel
theorem dX3_reckon_87 : decode cX3_reckon 87 = .ok (.invokevirtual 71, 3) := by decide +kernel
theorem dX3_reckon_90 : decode cX3_reckon 90 = .ok (.lastore, 1) := by decide +kernel
theorem dX3_reckon_91 : decode cX3_reckon 91 = .ok (.iinc 4 1, 3) := by decide +kernel
theorem dX3_reckon_94 : decode cX3_reckon 94 = .ok (.goto (-66), 3) := by decide +kernel
theorem dX3_reckon_97 : decode cX3_reckon 97 = .ok (.aload_n 0, 1) := by decide +kernel
theorem dX3_reckon_98 : decode cX3_reckon 98 = .ok (.getfield 36, 3) := by decide +kernel
theorem dX3_reckon_101 : decode cX3_reckon 101 = .ok (.iload_n 1, 1) := by decide +kernel
theorem dX3_reckon_102 : decode cX3_reckon 102 = .ok (.laload, 1) := by decide +kernel
theorem dX3_reckon_103 : decode cX3_reckon 103 = .ok (.lreturn, 1) := by decide +kernel
theorem dX3_lockedCells_0 : decode cX3_lockedCells 0 = .ok (.iconst 0, 1) := by decide +kernel
theorem dX3_lockedCells_1 : decode cX3_lockedCells 1 = .ok (.istore_n 3, 1) := by decide +kernel
theorem dX3_lockedCells_2 : decode cX3_lockedCells 2 = .ok (.iconst 0, 1) := by decide +kernel
theorem dX3_lockedCells_3 : decode cX3_lockedCells 3 = .ok (.istore 4, 2) := by decide +kernel
theorem dX3_lockedCells_5 : decode cX3_lockedCells 5 = .ok (.iload 4, 2) := by decide +kernel
theorem dX3_lockedCells_7 : decode cX3_lockedCells 7 = .ok (.bipush 16, 2) := by decide +kernel
theorem dX3_lockedCells_9 : decode cX3_lockedCells 9 = .ok (.if_icmp .ge 57, 3) := by decide +kernel
theorem dX3_lockedCells_12 : decode cX3_lockedCells 12 = .ok (.aload_n 0, 1) := by decide +kernel
theorem dX3_lockedCells_13 : decode cX3_lockedCells 13 = .ok (.getfield 33, 3) := by decide +kernel
theorem dX3_lockedCells_16 : decode cX3_lockedCells 16 = .ok (.iload 4, 2) := by decide +kernel
theorem dX3_lockedCells_18 : decode cX3_lockedCells 18 = .ok (.iaload, 1) := by decide +kernel
theorem dX3_lockedCells_19 : decode cX3_lockedCells 19 = .ok (.istore 5, 2) := by decide +kernel
theorem dX3_lockedCells_21 : decode cX3_lockedCells 21 = .ok (.iload_n 2, 1) := by decide +kernel
theorem dX3_lockedCells_22 : decode cX3_lockedCells 22 = .ok (.iconst (-1), 1) := by decide +kernel
theorem dX3_lockedCells_23 : decode cX3_lockedCells 23 = .ok (.ixor, 1) := by decide +kernel
theorem dX3_lockedCells_24 : decode cX3_lockedCells 24 = .ok (.iload 5, 2) := by decide +kernel
theorem dX3_lockedCells_26 : decode cX3_lockedCells 26 = .ok (.invokestatic 46, 3) := by decide +kernel
theorem dX3_lockedCells_29 : decode cX3_lockedCells 29 = .ok (.ifCond .eq 31, 3) := by decide +kernel
theorem dX3_lockedCells_32 : decode cX3_lockedCells 32 = .ok (.iload_n 1, 1) := by decide +kernel
theorem dX3_lockedCells_33 : decode cX3_lockedCells 33 = .ok (.iload 5, 2) := by decide +kernel
theorem dX3_lockedCells_35 : decode cX3_lockedCells 35 = .ok (.invokestatic 46, 3) := by decide +kernel
theorem dX3_lockedCells_38 : decode cX3_lockedCells 38 = .ok (.ifCond .ne 15, 3) := by decide +kernel
theorem dX3_lockedCells_41 : decode cX3_lockedCells 41 = .ok (.aload_n 0, 1) := by decide +kernel
theorem dX3_lockedCells_42 : decode cX3_lockedCells 42 = .ok (.getfield 27, 3) := by decide +kernel
theorem dX3_lockedCells_45 : decode cX3_lockedCells 45 = .ok (.iload 5, 2) := by decide +kernel
theorem dX3_lockedCells_47 : decode cX3_lockedCells 47 = .ok (.iaload, 1) := by decide +kernel
theorem dX3_lockedCells_48 : decode cX3_lockedCells 48 = .ok (.iload_n 3, 1) := by decide +kernel
theorem dX3_lockedCells_49 : decode cX3_lockedCells 49 = .ok (.iand, 1) := by decide +kernel
theorem dX3_lockedCells_50 : decode cX3_lockedCells 50 = .ok (.ifCond .eq 10, 3) := by decide +kernel
theorem dX3_lockedCells_53 : decode cX3_lockedCells 53 = .ok (.iload_n 3, 1) := by decide +kernel
theorem dX3_lockedCells_54 : decode cX3_lockedCells 54 = .ok (.iconst 1, 1) := by decide +kernel
theorem dX3_lockedCells_55 : decode cX3_lockedCells 55 = .ok (.iload 5, 2) := by decide +kernel
theorem dX3_lockedCells_57 : decode cX3_lockedCells 57 = .ok (.ishl, 1) := by decide +kernel
theorem dX3_lockedCells_58 : decode cX3_lockedCells 58 = .ok (.ior, 1) := by decide +kernel
theorem dX3_lockedCells_59 : decode cX3_lockedCells 59 = .ok (.istore_n 3, 1) := by decide +kernel
theorem dX3_lockedCells_60 : decode cX3_lockedCells 60 = .ok (.iinc 4 1, 3) := by decide +kernel
theorem dX3_lockedCells_63 : decode cX3_lockedCells 63 = .ok (.goto (-58), 3) := by decide +kernel
theorem dX3_lockedCells_66 : decode cX3_lockedCells 66 = .ok (.iload_n 3, 1) := by decide +kernel
theorem dX3_lockedCells_67 : decode cX3_lockedCells 67 = .ok (.ireturn, 1) := by decide +kernel
theorem dX3_reachedFrom_0 : decode cX3_reachedFrom 0 = .ok (.iconst 1, 1) := by decide +kernel
theorem dX3_reachedFrom_1 : decode cX3_reachedFrom 1 = .ok (.iload_n 1, 1) := by decide +kernel
theorem dX3_reachedFrom_2 : decode cX3_reachedFrom 2 = .ok (.ishl, 1) := by decide +kernel
theorem dX3_reachedFrom_3 : decode cX3_reachedFrom 3 = .ok (.iload_n 2, 1) := by decide +kernel
theorem dX3_reachedFrom_4 : decode cX3_reachedFrom 4 = .ok (.iconst (-1), 1) := by decide +kernel
theorem dX3_reachedFrom_5 : decode cX3_reachedFrom 5 = .ok (.ixor, 1) := by decide +kernel
theorem dX3_reachedFrom_6 : decode cX3_reachedFrom 6 = .ok (.iand, 1) := by decide +kernel
theorem dX3_reachedFrom_7 : decode cX3_reachedFrom 7 = .ok (.istore_n 3, 1) := by decide +kernel
theorem dX3_reachedFrom_8 : decode cX3_reachedFrom 8 = .ok (.iconst 0, 1) := by decide +kernel
theorem dX3_reachedFrom_9 : decode cX3_reachedFrom 9 = .ok (.istore 4, 2) := by decide +kernel
theorem dX3_reachedFrom_11 : decode cX3_reachedFrom 11 = .ok (.iload 4, 2) := by decide +kernel
theorem dX3_reachedFrom_13 : decode cX3_reachedFrom 13 = .ok (.bipush 16, 2) := by decide +kernel
theorem dX3_reachedFrom_15 : decode cX3_reachedFrom 15 = .ok (.if_icmp .ge 48, 3) := by decide +kernel
theorem dX3_reachedFrom_18 : decode cX3_reachedFrom 18 = .ok (.iconst 0, 1) := by decide +kernel
theorem dX3_reachedFrom_19 : decode cX3_reachedFrom 19 = .ok (.istore 5, 2) := by decide +kernel
theorem dX3_reachedFrom_21 : decode cX3_reachedFrom 21 = .ok (.iload 5, 2) := by decide +kernel
theorem dX3_reachedFrom_23 : decode cX3_reachedFrom 23 = .ok (.bipush 16, 2) := by decide +kernel
theorem dX3_reachedFrom_25 : decode cX3_reachedFrom 25 = .ok (.if_icmp .ge 32, 3) := by decide +kernel
theorem dX3_reachedFrom_28 : decode cX3_reachedFrom 28 = .ok (.iload_n 3, 1) := by decide +kernel
theorem dX3_reachedFrom_29 : decode cX3_reachedFrom 29 = .ok (.iload 5, 2) := by decide +kernel
theorem dX3_reachedFrom_31 : decode cX3_reachedFrom 31 = .ok (.invokestatic 46, 3) := by decide +kernel
theorem dX3_reachedFrom_34 : decode cX3_reachedFrom 34 = .ok (.ifCond .eq 17, 3) := by decide +kernel
theorem dX3_reachedFrom_37 : decode cX3_reachedFrom 37 = .ok (.iload_n 3, 1) := by decide +kernel
theorem dX3_reachedFrom_38 : decode cX3_reachedFrom 38 = .ok (.aload_n 0, 1) := by decide +kernel
theorem dX3_reachedFrom_39 : decode cX3_reachedFrom 39 = .ok (.getfield 27, 3) := by decide +kernel
theorem dX3_reachedFrom_42 : decode cX3_reachedFrom 42 = .ok (.iload 5, 2) := by decide +kernel
theorem dX3_reachedFrom_44 : decode cX3_reachedFrom 44 = .ok (.iaload, 1) := by decide +kernel
theorem dX3_reachedFrom_45 : decode cX3_reachedFrom 45 = .ok (.iload_n 2, 1) := by decide +kernel
theorem dX3_reachedFrom_46 : decode cX3_reachedFrom 46 = .ok (.iconst (-1), 1) := by decide +kernel
theorem dX3_reachedFrom_47 : decode cX3_reachedFrom 47 = .ok (.ixor, 1) := by decide +kernel
theorem dX3_reachedFrom_48 : decode cX3_reachedFrom 48 = .ok (.iand, 1) := by decide +kernel
theorem dX3_reachedFrom_49 : decode cX3_reachedFrom 49 = .ok (.ior, 1) := by decide +kernel
theorem dX3_reachedFrom_50 : decode cX3_reachedFrom 50 = .ok (.istore_n 3, 1) := by decide +kernel
theorem dX3_reachedFrom_51 : decode cX3_reachedFrom 51 = .ok (.iinc 5 1, 3) := by decide +kernel
theorem dX3_reachedFrom_54 : decode cX3_reachedFrom 54 = .ok (.goto (-33), 3) := by decide +kernel
theorem dX3_reachedFrom_57 : decode cX3_reachedFrom 57 = .ok (.iinc 4 1, 3) := by decide +kernel
theorem dX3_reachedFrom_60 : decode cX3_reachedFrom 60 = .ok (.goto (-49), 3) := by decide +kernel
theorem dX3_reachedFrom_63 : decode cX3_reachedFrom 63 = .ok (.iload_n 3, 1) := by decide +kernel
theorem dX3_reachedFrom_64 : decode cX3_reachedFrom 64 = .ok (.ireturn, 1) := by decide +kernel
theorem dX3_lineUpReaders_0 : decode cX3_lineUpReaders 0 = .ok (.aload_n 2, 1) := by decide +kernel
theorem dX3_lineUpReaders_1 : decode cX3_lineUpReaders 1 = .ok (.iconst 0, 1) := by decide +kernel
theorem dX3_lineUpReaders_2 : decode cX3_lineUpReaders 2 = .ok (.iload_n 1, 1) := by decide +kernel
theorem dX3_lineUpReaders_3 : decode cX3_lineUpReaders 3 = .ok (.iastore, 1) := by decide +kernel
theorem dX3_lineUpReaders_4 : decode cX3_lineUpReaders 4 = .ok (.iconst 1, 1) := by decide +kernel
theorem dX3_lineUpReaders_5 : decode cX3_lineUpReaders 5 = .ok (.istore_n 3, 1) := by decide +kernel
theorem dX3_lineUpReaders_6 : decode cX3_lineUpReaders 6 = .ok (.iconst 1, 1) := by decide +kernel
theorem dX3_lineUpReaders_7 : decode cX3_lineUpReaders 7 = .ok (.iload_n 1, 1) := by decide +kernel
theorem dX3_lineUpReaders_8 : decode cX3_lineUpReaders 8 = .ok (.ishl, 1) := by decide +kernel
theorem dX3_lineUpReaders_9 : decode cX3_lineUpReaders 9 = .ok (.istore 4, 2) := by decide +kernel
theorem dX3_lineUpReaders_11 : decode cX3_lineUpReaders 11 = .ok (.iconst 0, 1) := by decide +kernel
theorem dX3_lineUpReaders_12 : decode cX3_lineUpReaders 12 = .ok (.istore 5, 2) := by decide +kernel
theorem dX3_lineUpReaders_14 : decode cX3_lineUpReaders 14 = .ok (.iload 5, 2) := by decide +kernel
theorem dX3_lineUpReaders_16 : decode cX3_lineUpReaders 16 = .ok (.iload_n 3, 1) := by decide +kernel
theorem dX3_lineUpReaders_17 : decode cX3_lineUpReaders 17 = .ok (.if_icmp .ge 82, 3) := by decide +kernel
theorem dX3_lineUpReaders_20 : decode cX3_lineUpReaders 20 = .ok (.iload 5, 2) := by decide +kernel
theorem dX3_lineUpReaders_22 : decode cX3_lineUpReaders 22 = .ok (.bipush 16, 2) := by decide +kernel
theorem dX3_lineUpReaders_24 : decode cX3_lineUpReaders 24 = .ok (.if_icmp .ge 75, 3) := by decide +kernel
theorem dX3_lineUpReaders_27 : decode cX3_lineUpReaders 27 = .ok (.iconst 0, 1) := by decide +kernel
theorem dX3_lineUpReaders_28 : decode cX3_lineUpReaders 28 = .ok (.istore 6, 2) := by decide +kernel
theorem dX3_lineUpReaders_30 : decode cX3_lineUpReaders 30 = .ok (.iload 6, 2) := by decide +kernel
theorem dX3_lineUpReaders_32 : decode cX3_lineUpReaders 32 = .ok (.bipush 16, 2) := by decide +kernel
theorem dX3_lineUpReaders_34 : decode cX3_lineUpReaders 34 = .ok (.if_icmp .ge 59, 3) := by decide +kernel
theorem dX3_lineUpReaders_37 : decode cX3_lineUpReaders 37 = .ok (.iload_n 3, 1) := by decide +kernel
theorem dX3_lineUpReaders_38 : decode cX3_lineUpReaders 38 = .ok (.bipush 16, 2) := by decide +kernel
theorem dX3_lineUpReaders_40 : decode cX3_lineUpReaders 40 = .ok (.if_icmp .ge 47, 3) := by decide +kernel
theorem dX3_lineUpReaders_43 : decode cX3_lineUpReaders 43 = .ok (.aload_n 0, 1) := by decide +kernel
theorem dX3_lineUpReaders_44 : decode cX3_lineUpReaders 44 = .ok (.getfield 27, 3) := by decide +kernel
theorem dX3_lineUpReaders_47 : decode cX3_lineUpReaders 47 = .ok (.iload 6, 2) := by decide +kernel
theorem dX3_lineUpReaders_49 : decode cX3_lineUpReaders 49 = .ok (.iaload, 1) := by decide +kernel
theorem dX3_lineUpReaders_50 : decode cX3_lineUpReaders 50 = .ok (.aload_n 2, 1) := by decide +kernel
theorem dX3_lineUpReaders_51 : decode cX3_lineUpReaders 51 = .ok (.iload 5, 2) := by decide +kernel
theorem dX3_lineUpReaders_53 : decode cX3_lineUpReaders 53 = .ok (.iaload, 1) := by decide +kernel
theorem dX3_lineUpReaders_54 : decode cX3_lineUpReaders 54 = .ok (.invokestatic 46, 3) := by decide +kernel
theorem dX3_lineUpReaders_57 : decode cX3_lineUpReaders 57 = .ok (.ifCond .eq 30, 3) := by decide +kernel
theorem dX3_lineUpReaders_60 : decode cX3_lineUpReaders 60 = .ok (.iload 4, 2) := by decide +kernel
theorem dX3_lineUpReaders_62 : decode cX3_lineUpReaders 62 = .ok (.iload 6, 2) := by decide +kernel
theorem dX3_lineUpReaders_64 : decode cX3_lineUpReaders 64 = .ok (.invokestatic 46, 3) := by decide +kernel
theorem dX3_lineUpReaders_67 : decode cX3_lineUpReaders 67 = .ok (.ifCond .ne 20, 3) := by decide +kernel
theorem dX3_lineUpReaders_70 : decode cX3_lineUpReaders 70 = .ok (.aload_n 2, 1) := by decide +kernel
theorem dX3_lineUpReaders_71 : decode cX3_lineUpReaders 71 = .ok (.iload_n 3, 1) := by decide +kernel
theorem dX3_lineUpReaders_72 : decode cX3_lineUpReaders 72 = .ok (.iload 6, 2) := by decide +kernel
theorem dX3_lineUpReaders_74 : decode cX3_lineUpReaders 74 = .ok (.iastore, 1) := by decide +kernel
theorem dX3_lineUpReaders_75 : decode cX3_lineUpReaders 75 = .ok (.iinc 3 1, 3) := by decide +kernel
theorem dX3_lineUpReaders_78 : decode cX3_lineUpReaders 78 = .ok (.iload 4, 2) := by decide +kernel
theorem dX3_lineUpReaders_80 : decode cX3_lineUpReaders 80 = .ok (.iconst 1, 1) := by decide +kernel
theorem dX3_lineUpReaders_81 : decode cX3_lineUpReaders 81 = .ok (.iload 6, 2) := by decide +kernel
theorem dX3_lineUpReaders_83 : decode cX3_lineUpReaders 83 = .ok (.ishl, 1) := by decide +kernel
theorem dX3_lineUpReaders_84 : decode cX3_lineUpReaders 84 = .ok (.ior, 1) := by decide +kernel
theorem dX3_lineUpReaders_85 : decode cX3_lineUpReaders 85 = .ok (.istore 4, 2) := by decide +kernel
theorem dX3_lineUpReaders_87 : decode cX3_lineUpReaders 87 = .ok (.iinc 6 1, 3) := by decide +kernel
theorem dX3_lineUpReaders_90 : decode cX3_lineUpReaders 90 = .ok (.goto (-60), 3) := by decide +kernel
theorem dX3_lineUpReaders_93 : decode cX3_lineUpReaders 93 = .ok (.iinc 5 1, 3) := by decide +kernel
theorem dX3_lineUpReaders_96 : decode cX3_lineUpReaders 96 = .ok (.goto (-82), 3) := by decide +kernel
theorem dX3_lineUpReaders_99 : decode cX3_lineUpReaders 99 = .ok (.iload_n 3, 1) := by decide +kernel
theorem dX3_lineUpReaders_100 : decode cX3_lineUpReaders 100 = .ok (.ireturn, 1) := by decide +kernel
theorem dX4_init_0 : decode cX4_init 0 = .ok (.aload_n 0, 1) := by decide +kernel
theorem dX4_init_1 : decode cX4_init 1 = .ok (.invokespecial 3, 3) := by decide +kernel
theorem dX4_init_4 : decode cX4_init 4 = .ok (.aload_n 0, 1) := by decide +kernel
theorem dX4_init_5 : decode cX4_init 5 = .ok (.bipush 16, 2) := by decide +kernel
theorem dX4_init_7 : decode cX4_init 7 = .ok (.newarray .int, 2) := by decide +kernel
theorem dX4_init_9 : decode cX4_init 9 = .ok (.putfield 9, 3) := by decide +kernel
theorem dX4_init_12 : decode cX4_init 12 = .ok (.aload_n 0, 1) := by decide +kernel
theorem dX4_init_13 : decode cX4_init 13 = .ok (.bipush 16, 2) := by decide +kernel
theorem dX4_init_15 : decode cX4_init 15 = .ok (.newarray .int, 2) := by decide +kernel
theorem dX4_init_17 : decode cX4_init 17 = .ok (.putfield 15, 3) := by decide +kernel
theorem dX4_init_20 : decode cX4_init 20 = .ok (.aload_n 0, 1) := by decide +kernel
theorem dX4_init_21 : decode cX4_init 21 = .ok (.bipush 16, 2) := by decide +kernel
theorem dX4_init_23 : decode cX4_init 23 = .ok (.newarray .int, 2) := by decide +kernel
theorem dX4_init_25 : decode cX4_init 25 = .ok (.putfield 18, 3) := by decide +kernel
theorem dX4_init_28 : decode cX4_init 28 = .ok (.aload_n 0, 1) := by decide +kernel
theorem dX4_init_29 : decode cX4_init 29 = .ok (.bipush 16, 2) := by decide +kernel
theorem dX4_init_31 : decode cX4_init 31 = .ok (.newarray .int, 2) := by decide +kernel
theorem dX4_init_33 : decode cX4_init 33 = .ok (.putfield 21, 3) := by decide +kernel
theorem dX4_init_36 : decode cX4_init 36 = .ok (.aload_n 0, 1) := by decide +kernel
theorem dX4_init_37 : decode cX4_init 37 = .ok (.bipush 16, 2) := by decide +kernel
theorem dX4_init_39 : decode cX4_init 39 = .ok (.bipush 16, 2) := by decide +kernel
theorem dX4_init_41 : decode cX4_init 41 = .ok (.multianewarray 24 2, 4) := by decide +kernel
theorem dX4_init_45 : decode cX4_init 45 = .ok (.putfield 26, 3) := by decide +kernel
theorem dX4_init_48 : decode cX4_init 48 = .ok (.return_, 1) := by decide +kernel
theorem dX4_untry_0 : decode cX4_untry 0 = .ok (.aload_n 0, 1) := by decide +kernel
theorem dX4_untry_1 : decode cX4_untry 1 = .ok (.getfield 29, 3) := by decide +kernel
theorem dX4_untry_4 : decode cX4_untry 4 = .ok (.iload_n 1, 1) := by decide +kernel
theorem dX4_untry_5 : decode cX4_untry 5 = .ok (.iand, 1) := by decide +kernel
theorem dX4_untry_6 : decode cX4_untry 6 = .ok (.istore_n 2, 1) := by decide +kernel
theorem dX4_untry_7 : decode cX4_untry 7 = .ok (.aload_n 0, 1) := by decide +kernel
theorem dX4_untry_8 : decode cX4_untry 8 = .ok (.dup, 1) := by decide +kernel
theorem dX4_untry_9 : decode cX4_untry 9 = .ok (.getfield 29, 3) := by decide +kernel
theorem dX4_untry_12 : decode cX4_untry 12 = .ok (.iload_n 1, 1) := by decide +kernel
theorem dX4_untry_13 : decode cX4_untry 13 = .ok (.iconst (-1), 1) := by decide +kernel
theorem dX4_untry_14 : decode cX4_untry 14 = .ok (.ixor, 1) := by decide +kernel
theorem dX4_untry_15 : decode cX4_untry 15 = .ok (.iand, 1) := by decide +kernel
theorem dX4_untry_16 : decode cX4_untry 16 = .ok (.putfield 29, 3) := by decide +kernel
theorem dX4_untry_19 : decode cX4_untry 19 = .ok (.iload_n 2, 1) := by decide +kernel
theorem dX4_untry_20 : decode cX4_untry 20 = .ok (.invokestatic 33, 3) := by decide +kernel
theorem dX4_untry_23 : decode cX4_untry 23 = .ok (.ireturn, 1) := by decide +kernel
theorem dX4_findFailedRow_0 : decode cX4_findFailedRow 0 = .ok (.aload_n 0, 1) := by decide +kernel
theorem dX4_findFailedRow_1 : decode cX4_findFailedRow 1 = .ok (.iload 4, 2) := by decide +kernel
theorem dX4_findFailedRow_3 : decode cX4_findFailedRow 3 = .ok (.putfield 39, 3) := by decide +kernel
theorem dX4_findFailedRow_6 : decode cX4_findFailedRow 6 = .ok (.iconst 0, 1) := by decide +kernel
theorem dX4_findFailedRow_7 : decode cX4_findFailedRow 7 = .ok (.istore 6, 2) := by decide +kernel
theorem dX4_findFailedRow_9 : decode cX4_findFailedRow 9 = .ok (.iload 6, 2) := by decide +kernel
theorem dX4_findFailedRow_11 : decode cX4_findFailedRow 11 = .ok (.iload 5, 2) := by decide +kernel
theorem dX4_findFailedRow_13 : decode cX4_findFailedRow 13 = .ok (.if_icmp .ge 41, 3) := by decide +kernel
theorem dX4_findFailedRow_16 : decode cX4_findFailedRow 16 = .ok (.aload_n 0, 1) := by decide +kernel
theorem dX4_findFailedRow_17 : decode cX4_findFailedRow 17 = .ok (.iload 6, 2) := by decide +kernel
theorem dX4_findFailedRow_19 : decode cX4_findFailedRow 19 = .ok (.aload_n 1, 1) := by decide +kernel
theorem dX4_findFailedRow_20 : decode cX4_findFailedRow 20 = .ok (.invokevirtual 42, 3) := by decide +kernel
theorem dX4_findFailedRow_23 : decode cX4_findFailedRow 23 = .ok (.aload_n 0, 1) := by decide +kernel
theorem dX4_findFailedRow_24 : decode cX4_findFailedRow 24 = .ok (.aload_n 2, 1) := by decide +kernel
theorem dX4_findFailedRow_25 : decode cX4_findFailedRow 25 = .ok (.aload_n 1, 1) := by decide +kernel
theorem dX4_findFailedRow_26 : decode cX4_findFailedRow 26 = .ok (.iload_n 3, 1) := by decide +kernel
theorem dX4_findFailedRow_27 : decode cX4_findFailedRow 27 = .ok (.aload_n 0, 1) := by decide +kernel
theorem dX4_findFailedRow_28 : decode cX4_findFailedRow 28 = .ok (.getfield 9, 3) := by decide +kernel
theorem dX4_findFailedRow_31 : decode cX4_findFailedRow 31 = .ok (.invokevirtual 46, 3) := by decide +kernel
theorem dX4_findFailedRow_34 : decode cX4_findFailedRow 34 = .ok (.putfield 52, 3) := by decide +kernel
theorem dX4_findFailedRow_37 : decode cX4_findFailedRow 37 = .ok (.aload_n 0, 1) := by decide +kernel
theorem dX4_findFailedRow_38 : decode cX4_findFailedRow 38 = .ok (.getfield 52, 3) := by decide +kernel
theorem dX4_findFailedRow_41 : decode cX4_findFailedRow 41 = .ok (.iconst (-1), 1) := by decide +kernel
theorem dX4_findFailedRow_42 : decode cX4_findFailedRow 42 = .ok (.if_icmp .eq 6, 3) := by decide +kernel
theorem dX4_findFailedRow_45 : decode cX4_findFailedRow 45 = .ok (.iload 6, 2) := by decide +kernel
theorem dX4_findFailedRow_47 : decode cX4_findFailedRow 47 = .ok (.ireturn, 1) := by decide +kernel
theorem dX4_findFailedRow_48 : decode cX4_findFailedRow 48 = .ok (.iinc 6 1, 3) := by decide +kernel
theorem dX4_findFailedRow_51 : decode cX4_findFailedRow 51 = .ok (.goto (-42), 3) := by decide +kernel
theorem dX4_findFailedRow_54 : decode cX4_findFailedRow 54 = .ok (.iconst (-1), 1) := by decide +kernel
theorem dX4_findFailedRow_55 : decode cX4_findFailedRow 55 = .ok (.ireturn, 1) := by decide +kernel
theorem dX4_keepPassed_0 : decode cX4_keepPassed 0 = .ok (.aload_n 0, 1) := by decide +kernel
theorem dX4_keepPassed_1 : decode cX4_keepPassed 1 = .ok (.dup, 1) := by decide +kernel
theorem dX4_keepPassed_2 : decode cX4_keepPassed 2 = .ok (.getfield 55, 3) := by decide +kernel
theorem dX4_keepPassed_5 : decode cX4_keepPassed 5 = .ok (.iconst 1, 1) := by decide +kernel
theorem dX4_keepPassed_6 : decode cX4_keepPassed 6 = .ok (.iload_n 1, 1) := by decide +kernel
theorem dX4_keepPassed_7 : decode cX4_keepPassed 7 = .ok (.ishl, 1) := by decide +kernel
theorem dX4_keepPassed_8 : decode cX4_keepPassed 8 = .ok (.iconst (-1), 1) := by decide +kernel
theorem dX4_keepPassed_9 : decode cX4_keepPassed 9 = .ok (.ixor, 1) := by decide +kernel
theorem dX4_keepPassed_10 : decode cX4_keepPassed 10 = .ok (.iand, 1) := by decide +kernel
theorem dX4_keepPassed_11 : decode cX4_keepPassed 11 = .ok (.putfield 55, 3) := by decide +kernel
theorem dX4_keepPassed_14 : decode cX4_keepPassed 14 = .ok (.aload_n 0, 1) := by decide +kernel
theorem dX4_keepPassed_15 : decode cX4_keepPassed 15 = .ok (.dup, 1) := by decide +kernel
theorem dX4_keepPassed_16 : decode cX4_keepPassed 16 = .ok (.getfield 29, 3) := by decide +kernel
theorem dX4_keepPassed_19 : decode cX4_keepPassed 19 = .ok (.iconst 1, 1) := by decide +kernel
theorem dX4_keepPassed_20 : decode cX4_keepPassed 20 = .ok (.iload_n 1, 1) := by decide +kernel
theorem dX4_keepPassed_21 : decode cX4_keepPassed 21 = .ok (.ishl, 1) := by decide +kernel
theorem dX4_keepPassed_22 : decode cX4_keepPassed 22 = .ok (.ior, 1) := by decide +kernel
theorem dX4_keepPassed_23 : decode cX4_keepPassed 23 = .ok (.putfield 29, 3) := by decide +kernel
theorem dX4_keepPassed_26 : decode cX4_keepPassed 26 = .ok (.return_, 1) := by decide +kernel
theorem dX4_keepFailed_0 : decode cX4_keepFailed 0 = .ok (.aload_n 0, 1) := by decide +kernel
theorem dX4_keepFailed_1 : decode cX4_keepFailed 1 = .ok (.dup, 1) := by decide +kernel
theorem dX4_keepFailed_2 : decode cX4_keepFailed 2 = .ok (.getfield 29, 3) := by decide +kernel
theorem dX4_keepFailed_5 : decode cX4_keepFailed 5 = .ok (.iconst 1, 1) := by decide +kernel
theorem dX4_keepFailed_6 : decode cX4_keepFailed 6 = .ok (.iload_n 1, 1) := by decide +kernel
theorem dX4_keepFailed_7 : decode cX4_keepFailed 7 = .ok (.ishl, 1) := by decide +kernel
theorem dX4_keepFailed_8 : decode cX4_keepFailed 8 = .ok (.iconst (-1), 1) := by decide +kernel
theorem dX4_keepFailed_9 : decode cX4_keepFailed 9 = .ok (.ixor, 1) := by decide +kernel
theorem dX4_keepFailed_10 : decode cX4_keepFailed 10 = .ok (.iand, 1) := by decide +kernel
theorem dX4_keepFailed_11 : decode cX4_keepFailed 11 = .ok (.putfield 29, 3) := by decide +kernel
theorem dX4_keepFailed_14 : decode cX4_keepFailed 14 = .ok (.aload_n 0, 1) := by decide +kernel
theorem dX4_keepFailed_15 : decode cX4_keepFailed 15 = .ok (.dup, 1) := by decide +kernel
theorem dX4_keepFailed_16 : decode cX4_keepFailed 16 = .ok (.getfield 55, 3) := by decide +kernel
theorem dX4_keepFailed_19 : decode cX4_keepFailed 19 = .ok (.iconst 1, 1) := by decide +kernel
theorem dX4_keepFailed_20 : decode cX4_keepFailed 20 = .ok (.iload_n 1, 1) := by decide +kernel
theorem dX4_keepFailed_21 : decode cX4_keepFailed 21 = .ok (.ishl, 1) := by decide +kernel
theorem dX4_keepFailed_22 : decode cX4_keepFailed 22 = .ok (.ior, 1) := by decide +kernel
theorem dX4_keepFailed_23 : decode cX4_keepFailed 23 = .ok (.putfield 55, 3) := by decide +kernel
theorem dX4_keepFailed_26 : decode cX4_keepFailed 26 = .ok (.aload_n 0, 1) := by decide +kernel
theorem dX4_keepFailed_27 : decode cX4_keepFailed 27 = .ok (.getfield 15, 3) := by decide +kernel
theorem dX4_keepFailed_30 : decode cX4_keepFailed 30 = .ok (.iload_n 1, 1) := by decide +kernel
theorem dX4_keepFailed_31 : decode cX4_keepFailed 31 = .ok (.aload_n 0, 1) := by decide +kernel
theorem dX4_keepFailed_32 : decode cX4_keepFailed 32 = .ok (.getfield 52, 3) := by decide +kernel
theorem dX4_keepFailed_35 : decode cX4_keepFailed 35 = .ok (.iastore, 1) := by decide +kernel
theorem dX4_keepFailed_36 : decode cX4_keepFailed 36 = .ok (.aload_n 0, 1) := by decide +kernel
theorem dX4_keepFailed_37 : decode cX4_keepFailed 37 = .ok (.getfield 18, 3) := by decide +kernel
theorem dX4_keepFailed_40 : decode cX4_keepFailed 40 = .ok (.iload_n 1, 1) := by decide +kernel
theorem dX4_keepFailed_41 : decode cX4_keepFailed 41 = .ok (.iload_n 2, 1) := by decide +kernel
theorem dX4_keepFailed_42 : decode cX4_keepFailed 42 = .ok (.iastore, 1) := by decide +kernel
theorem dX4_keepFailed_43 : decode cX4_keepFailed 43 = .ok (.aload_n 0, 1) := by decide +kernel
theorem dX4_keepFailed_44 : decode cX4_keepFailed 44 = .ok (.getfield 21, 3) := by decide +kernel
theorem dX4_keepFailed_47 : decode cX4_keepFailed 47 = .ok (.iload_n 1, 1) := by decide +kernel
theorem dX4_keepFailed_48 : decode cX4_keepFailed 48 = .ok (.iload_n 3, 1) := by decide +kernel
theorem dX4_keepFailed_49 : decode cX4_keepFailed 49 = .ok (.iastore, 1) := by decide +kernel
theorem dX4_keepFailed_50 : decode cX4_keepFailed 50 = .ok (.aload_n 0, 1) := by decide +kernel
theorem dX4_keepFailed_51 : decode cX4_keepFailed 51 = .ok (.getfield 9, 3) := by decide +kernel
theorem dX4_keepFailed_54 : decode cX4_keepFailed 54 = .ok (.iconst 0, 1) := by decide +kernel
theorem dX4_keepFailed_55 : decode cX4_keepFailed 55 = .ok (.aload_n 0, 1) := by decide +kernel
theorem dX4_keepFailed_56 : decode cX4_keepFailed 56 = .ok (.getfield 26, 3) := by decide +kernel
theorem dX4_keepFailed_59 : decode cX4_keepFailed 59 = .ok (.iload_n 1, 1) := by decide +kernel
theorem dX4_keepFailed_60 : decode cX4_keepFailed 60 = .ok (.aaload, 1) := by decide +kernel
theorem dX4_keepFailed_61 : decode cX4_keepFailed 61 = .ok (.iconst 0, 1) := by decide +kernel
theorem dX4_keepFailed_62 : decode cX4_keepFailed 62 = .ok (.bipush 16, 2) := by decide +kernel
theorem dX4_keepFailed_64 : decode cX4_keepFailed 64 = .ok (.invokestatic 58, 3) := by decide +kernel
theorem dX4_keepFailed_67 : decode cX4_keepFailed 67 = .ok (.return_, 1) := by decide +kernel
theorem dX4_fillRow_0 : decode cX4_fillRow 0 = .ok (.iconst 0, 1) := by decide +kernel
theorem dX4_fillRow_1 : decode cX4_fillRow 1 = .ok (.istore_n 3, 1) := by decide +kernel
theorem dX4_fillRow_2 : decode cX4_fillRow 2 = .ok (.iload_n 3, 1) := by decide +kernel
theorem dX4_fillRow_3 : decode cX4_fillRow 3 = .ok (.bipush 16, 2) := by decide +kernel
theorem dX4_fillRow_5 : decode cX4_fillRow 5 = .ok (.if_icmp .ge 40, 3) := by decide +kernel
theorem dX4_fillRow_8 : decode cX4_fillRow 8 = .ok (.aload_n 2, 1) := by decide +kernel
theorem dX4_fillRow_9 : decode cX4_fillRow 9 = .ok (.iload_n 3, 1) := by decide +kernel
theorem dX4_fillRow_10 : decode cX4_fillRow 10 = .ok (.invokevirtual 64, 3) := by decide +kernel
theorem dX4_fillRow_13 : decode cX4_fillRow 13 = .ok (.ifCond .eq 26, 3) := by decide +kernel
theorem dX4_fillRow_16 : decode cX4_fillRow 16 = .ok (.aload_n 0, 1) := by decide +kernel
theorem dX4_fillRow_17 : decode cX4_fillRow 17 = .ok (.getfield 9, 3) := by decide +kernel
theorem dX4_fillRow_20 : decode cX4_fillRow 20 = .ok (.iload_n 3, 1) := by decide +kernel
theorem dX4_fillRow_21 : decode cX4_fillRow 21 = .ok (.aload_n 0, 1) := by decide +kernel
theorem dX4_fillRow_22 : decode cX4_fillRow 22 = .ok (.iload_n 1, 1) := by decide +kernel
theorem dX4_fillRow_23 : decode cX4_fillRow 23 = .ok (.aload_n 2, 1) := by decide +kernel
theorem dX4_fillRow_24 : decode cX4_fillRow 24 = .ok (.getfield 70, 3) := by decide +kernel
theorem dX4_fillRow_27 : decode cX4_fillRow 27 = .ok (.iload_n 3, 1) := by decide +kernel
theorem dX4_fillRow_28 : decode cX4_fillRow 28 = .ok (.iaload, 1) := by decide +kernel
theorem dX4_fillRow_29 : decode cX4_fillRow 29 = .ok (.aload_n 2, 1) := by decide +kernel
theorem dX4_fillRow_30 : decode cX4_fillRow 30 = .ok (.getfield 73, 3) := by decide +kernel
theorem dX4_fillRow_33 : decode cX4_fillRow 33 = .ok (.iload_n 3, 1) := by decide +kernel
theorem dX4_fillRow_34 : decode cX4_fillRow 34 = .ok (.iaload, 1) := by decide +kernel
theorem dX4_fillRow_35 : decode cX4_fillRow 35 = .ok (.invokevirtual 76, 3) := by decide +kernel
theorem dX4_fillRow_38 : decode cX4_fillRow 38 = .ok (.iastore, 1) := by decide +kernel
theorem dX4_fillRow_39 : decode cX4_fillRow 39 = .ok (.iinc 3 1, 3) := by decide +kernel
theorem dX4_fillRow_42 : decode cX4_fillRow 42 = .ok (.goto (-40), 3) := by decide +kernel
theorem dX4_fillRow_45 : decode cX4_fillRow 45 = .ok (.return_, 1) := by decide +kernel
theorem dX4_rowValue_0 : decode cX4_rowValue 0 = .ok (.iload_n 1, 1) := by decide +kernel
theorem dX4_rowValue_1 : decode cX4_rowValue 1 = .ok (.ifCond .ne 5, 3) := by decide +kernel
theorem dX4_rowValue_4 : decode cX4_rowValue 4 = .ok (.iload_n 2, 1) := by decide +kernel
theorem dX4_rowValue_5 : decode cX4_rowValue 5 = .ok (.ireturn, 1) := by decide +kernel
theorem dX4_rowValue_6 : decode cX4_rowValue 6 = .ok (.iload_n 1, 1) := by decide +kernel
theorem dX4_rowValue_7 : decode cX4_rowValue 7 = .ok (.iconst 1, 1) := by decide +kernel
theorem dX4_rowValue_8 : decode cX4_rowValue 8 = .ok (.if_icmp .ne 5, 3) := by decide +kernel
theorem dX4_rowValue_11 : decode cX4_rowValue 11 = .ok (.iload_n 3, 1) := by decide +kernel
theorem dX4_rowValue_12 : decode cX4_rowValue 12 = .ok (.ireturn, 1) := by decide +kernel
theorem dX4_rowValue_13 : decode cX4_rowValue 13 = .ok (.aload_n 0, 1) := by decide +kernel
theorem dX4_rowValue_14 : decode cX4_rowValue 14 = .ok (.sipush 421, 3) := by decide +kernel
theorem dX4_rowValue_17 : decode cX4_rowValue 17 = .ok (.aload_n 0, 1) := by decide +kernel
theorem dX4_rowValue_18 : decode cX4_rowValue 18 = .ok (.getfield 39, 3) := by decide +kernel
theorem dX4_rowValue_21 : decode cX4_rowValue 21 = .ok (.imul, 1) := by decide +kernel
theorem dX4_rowValue_22 : decode cX4_rowValue 22 = .ok (.sipush 1663, 3) := by decide +kernel
theorem dX4_rowValue_25 : decode cX4_rowValue 25 = .ok (.iadd, 1) := by decide +kernel
theorem dX4_rowValue_26 : decode cX4_rowValue 26 = .ok (.sipush 7875, 3) := by decide +kernel
theorem dX4_rowValue_29 : decode cX4_rowValue 29 = .ok (.invokestatic 80, 3) := by decide +kernel
theorem dX4_rowValue_32 : decode cX4_rowValue 32 = .ok (.putfield 39, 3) := by decide +kernel
theorem dX4_rowValue_35 : decode cX4_rowValue 35 = .ok (.iload_n 3, 1) := by decide +kernel
theorem dX4_rowValue_36 : decode cX4_rowValue 36 = .ok (.iload_n 2, 1) := by decide +kernel
theorem dX4_rowValue_37 : decode cX4_rowValue 37 = .ok (.isub, 1) := by decide +kernel
theorem dX4_rowValue_38 : decode cX4_rowValue 38 = .ok (.iconst 1, 1) := by decide +kernel
theorem dX4_rowValue_39 : decode cX4_rowValue 39 = .ok (.iadd, 1) := by decide +kernel
theorem dX4_rowValue_40 : decode cX4_rowValue 40 = .ok (.istore 4, 2) := by decide +kernel
theorem dX4_rowValue_42 : decode cX4_rowValue 42 = .ok (.iload 4, 2) := by decide +kernel
theorem dX4_rowValue_44 : decode cX4_rowValue 44 = .ok (.iconst 1, 1) := by decide +kernel
theorem dX4_rowValue_45 : decode cX4_rowValue 45 = .ok (.if_icmp .ge 7, 3) := by decide +kernel
theorem dX4_rowValue_48 : decode cX4_rowValue 48 = .ok (.iload_n 2, 1) := by decide +kernel
theorem dX4_rowValue_49 : decode cX4_rowValue 49 = .ok (.goto 12, 3) := by decide +kernel
theorem dX4_rowValue_52 : decode cX4_rowValue 52 = .ok (.iload_n 2, 1) := by decide +kernel
theorem dX4_rowValue_53 : decode cX4_rowValue 53 = .ok (.aload_n 0, 1) := by decide +kernel
theorem dX4_rowValue_54 : decode cX4_rowValue 54 = .ok (.getfield 39, 3) := by decide +kernel
theorem dX4_rowValue_57 : decode cX4_rowValue 57 = .ok (.iload 4, 2) := by decide +kernel
theorem dX4_rowValue_59 : decode cX4_rowValue 59 = .ok (.irem, 1) := by decide +kernel
theorem dX4_rowValue_60 : decode cX4_rowValue 60 = .ok (.iadd, 1) := by decide +kernel
theorem dX4_rowValue_61 : decode cX4_rowValue 61 = .ok (.ireturn, 1) := by decide +kernel
theorem dX4_makeSmaller_0 : decode cX4_makeSmaller 0 = .ok (.iconst 0, 1) := by decide +kernel
theorem dX4_makeSmaller_1 : decode cX4_makeSmaller 1 = .ok (.istore 4, 2) := by decide +kernel
theorem dX4_makeSmaller_3 : decode cX4_makeSmaller 3 = .ok (.iload 4, 2) := by decide +kernel
theorem dX4_makeSmaller_5 : decode cX4_makeSmaller 5 = .ok (.bipush 60, 2) := by decide +kernel
theorem dX4_makeSmaller_7 : decode cX4_makeSmaller 7 = .ok (.if_icmp .ge 22, 3) := by decide +kernel
theorem dX4_makeSmaller_10 : decode cX4_makeSmaller 10 = .ok (.aload_n 0, 1) := by decide +kernel
theorem dX4_makeSmaller_11 : decode cX4_makeSmaller 11 = .ok (.aload_n 1, 1) := by decide +kernel
theorem dX4_makeSmaller_12 : decode cX4_makeSmaller 12 = .ok (.aload_n 2, 1) := by decide +kernel
theorem dX4_makeSmaller_13 : decode cX4_makeSmaller 13 = .ok (.iload_n 3, 1) := by decide +kernel
theorem dX4_makeSmaller_14 : decode cX4_makeSmaller 14 = .ok (.invokevirtual 86, 3) := by decide +kernel
theorem dX4_makeSmaller_17 : decode cX4_makeSmaller 17 = .ok (.ifCond .ne 6, 3) := by decide +kernel
theorem dX4_makeSmaller_20 : decode cX4_makeSmaller 20 = .ok (.iload 4, 2) := by decide +kernel
theorem dX4_makeSmaller_22 : decode cX4_makeSmaller 22 = .ok (.ireturn, 1) := by decide +kernel
theorem dX4_makeSmaller_23 : decode cX4_makeSmaller 23 = .ok (.iinc 4 1, 3) := by decide +kernel
theorem dX4_makeSmaller_26 : decode cX4_makeSmaller 26 = .ok (.goto (-23), 3) := by decide +kernel
theorem dX4_makeSmaller_29 : decode cX4_makeSmaller 29 = .ok (.bipush 60, 2) := by decide +kernel
theorem dX4_makeSmaller_31 : decode cX4_makeSmaller 31 = .ok (.ireturn, 1) := by decide +kernel
theorem dX4_stepSmaller_0 : decode cX4_stepSmaller 0 = .ok (.iconst 0, 1) := by decide +kernel
theorem dX4_stepSmaller_1 : decode cX4_stepSmaller 1 = .ok (.istore 4, 2) := by decide +kernel
theorem dX4_stepSmaller_3 : decode cX4_stepSmaller 3 = .ok (.iload 4, 2) := by decide +kernel
theorem dX4_stepSmaller_5 : decode cX4_stepSmaller 5 = .ok (.bipush 16, 2) := by decide +kernel
theorem dX4_stepSmaller_7 : decode cX4_stepSmaller 7 = .ok (.if_icmp .ge 95, 3) := by decide +kernel
theorem dX4_stepSmaller_10 : decode cX4_stepSmaller 10 = .ok (.aload_n 1, 1) := by decide +kernel
theorem dX4_stepSmaller_11 : decode cX4_stepSmaller 11 = .ok (.iload 4, 2) := by decide +kernel
theorem dX4_stepSmaller_13 : decode cX4_stepSmaller 13 = .ok (.invokevirtual 64, 3) := by decide +kernel
theorem dX4_stepSmaller_16 : decode cX4_stepSmaller 16 = .ok (.ifCond .ne 6, 3) := by decide +kernel
theorem dX4_stepSmaller_19 : decode cX4_stepSmaller 19 = .ok (.goto 77, 3) := by decide +kernel
theorem dX4_stepSmaller_22 : decode cX4_stepSmaller 22 = .ok (.aload_n 0, 1) := by decide +kernel
theorem dX4_stepSmaller_23 : decode cX4_stepSmaller 23 = .ok (.getfield 9, 3) := by decide +kernel
theorem dX4_stepSmaller_26 : decode cX4_stepSmaller 26 = .ok (.iload 4, 2) := by decide +kernel
theorem dX4_stepSmaller_28 : decode cX4_stepSmaller 28 = .ok (.iaload, 1) := by decide +kernel
theorem dX4_stepSmaller_29 : decode cX4_stepSmaller 29 = .ok (.aload_n 1, 1) := by decide +kernel
theorem dX4_stepSmaller_30 : decode cX4_stepSmaller 30 = .ok (.getfield 70, 3) := by decide +kernel
theorem dX4_stepSmaller_33 : decode cX4_stepSmaller 33 = .ok (.iload 4, 2) := by decide +kernel
theorem dX4_stepSmaller_35 : decode cX4_stepSmaller 35 = .ok (.iaload, 1) := by decide +kernel
theorem dX4_stepSmaller_36 : decode cX4_stepSmaller 36 = .ok (.isub, 1) := by decide +kernel
theorem dX4_stepSmaller_37 : decode cX4_stepSmaller 37 = .ok (.istore 5, 2) := by decide +kernel
theorem dX4_stepSmaller_39 : decode cX4_stepSmaller 39 = .ok (.iload 5, 2) := by decide +kernel
theorem dX4_stepSmaller_41 : decode cX4_stepSmaller 41 = .ok (.ifCond .le 55, 3) := by decide +kernel
theorem dX4_stepSmaller_44 : decode cX4_stepSmaller 44 = .ok (.aload_n 0, 1) := by decide +kernel
theorem dX4_stepSmaller_45 : decode cX4_stepSmaller 45 = .ok (.getfield 9, 3) := by decide +kernel
theorem dX4_stepSmaller_48 : decode cX4_stepSmaller 48 = .ok (.iload 4, 2) := by decide +kernel
theorem dX4_stepSmaller_50 : decode cX4_stepSmaller 50 = .ok (.dup2, 1) := by decide +kernel
theorem dX4_stepSmaller_51 : decode cX4_stepSmaller 51 = .ok (.iaload, 1) := by decide +kernel
theorem dX4_stepSmaller_52 : decode cX4_stepSmaller 52 = .ok (.iload 5, 2) := by decide +kernel
theorem dX4_stepSmaller_54 : decode cX4_stepSmaller 54 = .ok (.isub, 1) := by decide +kernel
theorem dX4_stepSmaller_55 : decode cX4_stepSmaller 55 = .ok (.iastore, 1) := by decide +kernel
theorem dX4_stepSmaller_56 : decode cX4_stepSmaller 56 = .ok (.aload_n 2, 1) := by decide +kernel
theorem dX4_stepSmaller_57 : decode cX4_stepSmaller 57 = .ok (.aload_n 0, 1) := by decide +kernel
theorem dX4_stepSmaller_58 : decode cX4_stepSmaller 58 = .ok (.getfield 52, 3) := by decide +kernel
theorem dX4_stepSmaller_61 : decode cX4_stepSmaller 61 = .ok (.aload_n 1, 1) := by decide +kernel
theorem dX4_stepSmaller_62 : decode cX4_stepSmaller 62 = .ok (.iload_n 3, 1) := by decide +kernel
theorem dX4_stepSmaller_63 : decode cX4_stepSmaller 63 = .ok (.aload_n 0, 1) := by decide +kernel
theorem dX4_stepSmaller_64 : decode cX4_stepSmaller 64 = .ok (.getfield 9, 3) := by decide +kernel
theorem dX4_stepSmaller_67 : decode cX4_stepSmaller 67 = .ok (.invokevirtual 90, 3) := by decide +kernel
theorem dX4_stepSmaller_70 : decode cX4_stepSmaller 70 = .ok (.ifCond .ne 5, 3) := by decide +kernel
theorem dX4_stepSmaller_73 : decode cX4_stepSmaller 73 = .ok (.iconst 1, 1) := by decide +kernel
theorem dX4_stepSmaller_74 : decode cX4_stepSmaller 74 = .ok (.ireturn, 1) := by decide +kernel
theorem dX4_stepSmaller_75 : decode cX4_stepSmaller 75 = .ok (.aload_n 0, 1) := by decide +kernel
theorem dX4_stepSmaller_76 : decode cX4_stepSmaller 76 = .ok (.getfield 9, 3) := by decide +kernel
theorem dX4_stepSmaller_79 : decode cX4_stepSmaller 79 = .ok (.iload 4, 2) := by decide +kernel
theorem dX4_stepSmaller_81 : decode cX4_stepSmaller 81 = .ok (.dup2, 1) := by decide +kernel
theorem dX4_stepSmaller_82 : decode cX4_stepSmaller 82 = .ok (.iaload, 1) := by decide +kernel
theorem dX4_stepSmaller_83 : decode cX4_stepSmaller 83 = .ok (.iload 5, 2) := by decide +kernel
theorem dX4_stepSmaller_85 : decode cX4_stepSmaller 85 = .ok (.iadd, 1) := by decide +kernel
theorem dX4_stepSmaller_86 : decode cX4_stepSmaller 86 = .ok (.iastore, 1) := by decide +kernel
theorem dX4_stepSmaller_87 : decode cX4_stepSmaller 87 = .ok (.iload 5, 2) := by decide +kernel
theorem dX4_stepSmaller_89 : decode cX4_stepSmaller 89 = .ok (.iconst 2, 1) := by decide +kernel
theorem dX4_stepSmaller_90 : decode cX4_stepSmaller 90 = .ok (.idiv, 1) := by decide +kernel
theorem dX4_stepSmaller_91 : decode cX4_stepSmaller 91 = .ok (.istore 5, 2) := by decide +kernel
theorem dX4_stepSmaller_93 : decode cX4_stepSmaller 93 = .ok (.goto (-54), 3) := by decide +kernel
theorem dX4_stepSmaller_96 : decode cX4_stepSmaller 96 = .ok (.iinc 4 1, 3) := by decide +kernel
theorem dX4_stepSmaller_99 : decode cX4_stepSmaller 99 = .ok (.goto (-96), 3) := by decide +kernel
theorem dX4_stepSmaller_102 : decode cX4_stepSmaller 102 = .ok (.iconst 0, 1) := by decide +kernel
theorem dX4_stepSmaller_103 : decode cX4_stepSmaller 103 = .ok (.ireturn, 1) := by decide +kernel
theorem dX5_init_0 : decode cX5_init 0 = .ok (.aload_n 0, 1) := by decide +kernel
theorem dX5_init_1 : decode cX5_init 1 = .ok (.invokespecial 1, 3) := by decide +kernel
theorem dX5_init_4 : decode cX5_init 4 = .ok (.aload_n 0, 1) := by decide +kernel
theorem dX5_init_5 : decode cX5_init 5 = .ok (.new 7, 3) := by decide +kernel
theorem dX5_init_8 : decode cX5_init 8 = .ok (.dup, 1) := by decide +kernel
theorem dX5_init_9 : decode cX5_init 9 = .ok (.invokespecial 9, 3) := by decide +kernel
theorem dX5_init_12 : decode cX5_init 12 = .ok (.putfield 10, 3) := by decide +kernel
theorem dX5_init_15 : decode cX5_init 15 = .ok (.aload_n 0, 1) := by decide +kernel
theorem dX5_init_16 : decode cX5_init 16 = .ok (.new 16, 3) := by decide +kernel
theorem dX5_init_19 : decode cX5_init 19 = .ok (.dup, 1) := by decide +kernel
theorem dX5_init_20 : decode cX5_init 20 = .ok (.invokespecial 18, 3) := by decide +kernel
theorem dX5_init_23 : decode cX5_init 23 = .ok (.putfield 19, 3) := by decide +kernel
theorem dX5_init_26 : decode cX5_init 26 = .ok (.aload_n 0, 1) := by decide +kernel
theorem dX5_init_27 : decode cX5_init 27 = .ok (.bipush 16, 2) := by decide +kernel
theorem dX5_init_29 : decode cX5_init 29 = .ok (.anewarray 23, 3) := by decide +kernel
theorem dX5_init_32 : decode cX5_init 32 = .ok (.putfield 25, 3) := by decide +kernel
theorem dX5_init_35 : decode cX5_init 35 = .ok (.iconst 0, 1) := by decide +kernel
theorem dX5_init_36 : decode cX5_init 36 = .ok (.istore_n 1, 1) := by decide +kernel
theorem dX5_init_37 : decode cX5_init 37 = .ok (.iload_n 1, 1) := by decide +kernel
theorem dX5_init_38 : decode cX5_init 38 = .ok (.bipush 16, 2) := by decide +kernel
theorem dX5_init_40 : decode cX5_init 40 = .ok (.if_icmp .ge 22, 3) := by decide +kernel
theorem dX5_init_43 : decode cX5_init 43 = .ok (.aload_n 0, 1) := by decide +kernel
theorem dX5_init_44 : decode cX5_init 44 = .ok (.getfield 25, 3) := by decide +kernel
theorem dX5_init_47 : decode cX5_init 47 = .ok (.iload_n 1, 1) := by decide +kernel
theorem dX5_init_48 : decode cX5_init 48 = .ok (.new 23, 3) := by decide +kernel
theorem dX5_init_51 : decode cX5_init 51 = .ok (.dup, 1) := by decide +kernel
theorem dX5_init_52 : decode cX5_init 52 = .ok (.invokespecial 29, 3) := by decide +kernel
theorem dX5_init_55 : decode cX5_init 55 = .ok (.aastore, 1) := by decide +kernel
theorem dX5_init_56 : decode cX5_init 56 = .ok (.iinc 1 1, 3) := by decide +kernel
theorem dX5_init_59 : decode cX5_init 59 = .ok (.goto (-22), 3) := by decide +kernel
theorem dX5_init_62 : decode cX5_init 62 = .ok (.aload_n 0, 1) := by decide +kernel
theorem dX5_init_63 : decode cX5_init 63 = .ok (.new 30, 3) := by decide +kernel
theorem dX5_init_66 : decode cX5_init 66 = .ok (.dup, 1) := by decide +kernel
theorem dX5_init_67 : decode cX5_init 67 = .ok (.invokespecial 32, 3) := by decide +kernel
theorem dX5_init_70 : decode cX5_init 70 = .ok (.putfield 33, 3) := by decide +kernel
theorem dX5_init_73 : decode cX5_init 73 = .ok (.aload_n 0, 1) := by decide +kernel
theorem dX5_init_74 : decode cX5_init 74 = .ok (.new 37, 3) := by decide +kernel
theorem dX5_init_77 : decode cX5_init 77 = .ok (.dup, 1) := by decide +kernel
theorem dX5_init_78 : decode cX5_init 78 = .ok (.invokespecial 39, 3) := by decide +kernel
theorem dX5_init_81 : decode cX5_init 81 = .ok (.putfield 40, 3) := by decide +kernel
theorem dX5_init_84 : decode cX5_init 84 = .ok (.return_, 1) := by decide +kernel
theorem dX5_number_0 : decode cX5_number 0 = .ok (.aload_n 0, 1) := by decide +kernel
theorem dX5_number_1 : decode cX5_number 1 = .ok (.getfield 10, 3) := by decide +kernel
theorem dX5_number_4 : decode cX5_number 4 = .ok (.bipush 12, 2) := by decide +kernel
theorem dX5_number_6 : decode cX5_number 6 = .ok (.iload_n 1, 1) := by decide +kernel
theorem dX5_number_7 : decode cX5_number 7 = .ok (.invokevirtual 44, 3) := by decide +kernel
theorem dX5_number_10 : decode cX5_number 10 = .ok (.ifCond .ne 13, 3) := by decide +kernel
theorem dX5_number_13 : decode cX5_number 13 = .ok (.new 48, 3) := by decide +kernel
theorem dX5_number_16 : decode cX5_number 16 = .ok (.dup, 1) := by decide +kernel
theorem dX5_number_17 : decode cX5_number 17 = .ok (.ldc 50, 2) := by decide +kernel
theorem dX5_number_19 : decode cX5_number 19 = .ok (.invokespecial 52, 3) := by decide +kernel
theorem dX5_number_22 : decode cX5_number 22 = .ok (.athrow, 1) := by decide +kernel
theorem dX5_number_23 : decode cX5_number 23 = .ok (.aload_n 0, 1) := by decide +kernel
theorem dX5_number_24 : decode cX5_number 24 = .ok (.getfield 10, 3) := by decide +kernel
theorem dX5_number_27 : decode cX5_number 27 = .ok (.getfield 55, 3) := by decide +kernel
theorem dX5_number_30 : decode cX5_number 30 = .ok (.ireturn, 1) := by decide +kernel
theorem dX5_cell_0 : decode cX5_cell 0 = .ok (.iload_n 1, 1) := by decide +kernel
theorem dX5_cell_1 : decode cX5_cell 1 = .ok (.invokestatic 59, 3) := by decide +kernel
theorem dX5_cell_4 : decode cX5_cell 4 = .ok (.aload_n 0, 1) := by decide +kernel
theorem dX5_cell_5 : decode cX5_cell 5 = .ok (.getfield 10, 3) := by decide +kernel
theorem dX5_cell_8 : decode cX5_cell 8 = .ok (.bipush 13, 2) := by decide +kernel
theorem dX5_cell_10 : decode cX5_cell 10 = .ok (.iload_n 1, 1) := by decide +kernel
theorem dX5_cell_11 : decode cX5_cell 11 = .ok (.invokevirtual 44, 3) := by decide +kernel
theorem dX5_cell_14 : decode cX5_cell 14 = .ok (.ifCond .ne 13, 3) := by decide +kernel
theorem dX5_cell_17 : decode cX5_cell 17 = .ok (.new 48, 3) := by decide +kernel
theorem dX5_cell_20 : decode cX5_cell 20 = .ok (.dup, 1) := by decide +kernel
theorem dX5_cell_21 : decode cX5_cell 21 = .ok (.ldc 50, 2) := by decide +kernel
theorem dX5_cell_23 : decode cX5_cell 23 = .ok (.invokespecial 52, 3) := by decide +kernel
theorem dX5_cell_26 : decode cX5_cell 26 = .ok (.athrow, 1) := by decide +kernel
theorem dX5_cell_27 : decode cX5_cell 27 = .ok (.aload_n 0, 1) := by decide +kernel
theorem dX5_cell_28 : decode cX5_cell 28 = .ok (.getfield 10, 3) := by decide +kernel
theorem dX5_cell_31 : decode cX5_cell 31 = .ok (.getfield 55, 3) := by decide +kernel
theorem dX5_cell_34 : decode cX5_cell 34 = .ok (.ireturn, 1) := by decide +kernel
theorem dX5_apply_0 : decode cX5_apply 0 = .ok (.iload_n 1, 1) := by decide +kernel
theorem dX5_apply_1 : decode cX5_apply 1 = .ok (.ifCond .lt 9, 3) := by decide +kernel
theorem dX5_apply_4 : decode cX5_apply 4 = .ok (.iload_n 1, 1) := by decide +kernel
theorem dX5_apply_5 : decode cX5_apply 5 = .ok (.bipush 12, 2) := by decide +kernel
theorem dX5_apply_7 : decode cX5_apply 7 = .ok (.if_icmp .lt 13, 3) := by decide +kernel
theorem dX5_apply_10 : decode cX5_apply 10 = .ok (.new 63, 3) := by decide +kernel
theorem dX5_apply_13 : decode cX5_apply 13 = .ok (.dup, 1) := by decide +kernel
theorem dX5_apply_14 : decode cX5_apply 14 = .ok (.ldc 65, 2) := by decide +kernel
theorem dX5_apply_16 : decode cX5_apply 16 = .ok (.invokespecial 67, 3) := by decide +kernel
theorem dX5_apply_19 : decode cX5_apply 19 = .ok (.athrow, 1) := by decide +kernel
theorem dX5_apply_20 : decode cX5_apply 20 = .ok (.aload_n 0, 1) := by decide +kernel
theorem dX5_apply_21 : decode cX5_apply 21 = .ok (.getfield 10, 3) := by decide +kernel
theorem dX5_apply_24 : decode cX5_apply 24 = .ok (.iload_n 1, 1) := by decide +kernel
theorem dX5_apply_25 : decode cX5_apply 25 = .ok (.iconst 0, 1) := by decide +kernel
theorem dX5_apply_26 : decode cX5_apply 26 = .ok (.invokevirtual 44, 3) := by decide +kernel
theorem dX5_apply_29 : decode cX5_apply 29 = .ok (.ifCond .ne 13, 3) := by decide +kernel
theorem dX5_apply_32 : decode cX5_apply 32 = .ok (.new 48, 3) := by decide +kernel
theorem dX5_apply_35 : decode cX5_apply 35 = .ok (.dup, 1) := by decide +kernel
theorem dX5_apply_36 : decode cX5_apply 36 = .ok (.ldc 68, 2) := by decide +kernel
theorem dX5_apply_38 : decode cX5_apply 38 = .ok (.invokespecial 52, 3) := by decide +kernel
theorem dX5_apply_41 : decode cX5_apply 41 = .ok (.athrow, 1) := by decide +kernel
theorem dX5_apply_42 : decode cX5_apply 42 = .ok (.aload_n 0, 1) := by decide +kernel
theorem dX5_apply_43 : decode cX5_apply 43 = .ok (.getfield 10, 3) := by decide +kernel
theorem dX5_apply_46 : decode cX5_apply 46 = .ok (.getfield 55, 3) := by decide +kernel
theorem dX5_apply_49 : decode cX5_apply 49 = .ok (.ireturn, 1) := by decide +kernel
theorem dX5_wipe_0 : decode cX5_wipe 0 = .ok (.aload_n 0, 1) := by decide +kernel
theorem dX5_wipe_1 : decode cX5_wipe 1 = .ok (.getfield 10, 3) := by decide +kernel
theorem dX5_wipe_4 : decode cX5_wipe 4 = .ok (.getfield 70, 3) := by decide +kernel
theorem dX5_wipe_7 : decode cX5_wipe 7 = .ok (.istore_n 1, 1) := by decide +kernel
theorem dX5_wipe_8 : decode cX5_wipe 8 = .ok (.aload_n 0, 1) := by decide +kernel
theorem dX5_wipe_9 : decode cX5_wipe 9 = .ok (.getfield 10, 3) := by decide +kernel
theorem dX5_wipe_12 : decode cX5_wipe 12 = .ok (.invokevirtual 73, 3) := by decide +kernel
theorem dX5_wipe_15 : decode cX5_wipe 15 = .ok (.iload_n 1, 1) := by decide +kernel
theorem dX5_wipe_16 : decode cX5_wipe 16 = .ok (.ireturn, 1) := by decide +kernel
theorem dX5_enter_0 : decode cX5_enter 0 = .ok (.iload_n 1, 1) := by decide +kernel
theorem dX5_enter_1 : decode cX5_enter 1 = .ok (.invokestatic 59, 3) := by decide +kernel
theorem dX5_enter_4 : decode cX5_enter 4 = .ok (.aload_n 0, 1) := by decide +kernel
theorem dX5_enter_5 : decode cX5_enter 5 = .ok (.getfield 10, 3) := by decide +kernel
theorem dX5_enter_8 : decode cX5_enter 8 = .ok (.getfield 55, 3) := by decide +kernel
theorem dX5_enter_11 : decode cX5_enter 11 = .ok (.iconst 1, 1) := by decide +kernel
theorem dX5_enter_12 : decode cX5_enter 12 = .ok (.if_icmp .eq 13, 3) := by decide +kernel
theorem dX5_enter_15 : decode cX5_enter 15 = .ok (.new 48, 3) := by decide +kernel
theorem dX5_enter_18 : decode cX5_enter 18 = .ok (.dup, 1) := by decide +kernel
theorem dX5_enter_19 : decode cX5_enter 19 = .ok (.ldc 76, 2) := by decide +kernel
theorem dX5_enter_21 : decode cX5_enter 21 = .ok (.invokespecial 52, 3) := by decide +kernel
theorem dX5_enter_24 : decode cX5_enter 24 = .ok (.athrow, 1) := by decide +kernel
theorem dX5_enter_25 : decode cX5_enter 25 = .ok (.aload_n 0, 1) := by decide +kernel
theorem dX5_enter_26 : decode cX5_enter 26 = .ok (.getfield 19, 3) := by decide +kernel
theorem dX5_enter_29 : decode cX5_enter 29 = .ok (.iload_n 1, 1) := by decide +kernel
theorem dX5_enter_30 : decode cX5_enter 30 = .ok (.aload_n 0, 1) := by decide +kernel
theorem dX5_enter_31 : decode cX5_enter 31 = .ok (.getfield 10, 3) := by decide +kernel
theorem dX5_enter_34 : decode cX5_enter 34 = .ok (.invokevirtual 78, 3) := by decide +kernel
theorem dX5_enter_37 : decode cX5_enter 37 = .ok (.ifCond .eq 13, 3) := by decide +kernel
theorem dX5_enter_40 : decode cX5_enter 40 = .ok (.new 48, 3) := by decide +kernel
theorem dX5_enter_43 : decode cX5_enter 43 = .ok (.dup, 1) := by decide +kernel
theorem dX5_enter_44 : decode cX5_enter 44 = .ok (.ldc 82, 2) := by decide +kernel
theorem dX5_enter_46 : decode cX5_enter 46 = .ok (.invokespecial 52, 3) := by decide +kernel
theorem dX5_enter_49 : decode cX5_enter 49 = .ok (.athrow, 1) := by decide +kernel
theorem dX5_enter_50 : decode cX5_enter 50 = .ok (.aload_n 0, 1) := by decide +kernel
theorem dX5_enter_51 : decode cX5_enter 51 = .ok (.getfield 19, 3) := by decide +kernel
theorem dX5_enter_54 : decode cX5_enter 54 = .ok (.iload_n 1, 1) := by decide +kernel
theorem dX5_enter_55 : decode cX5_enter 55 = .ok (.aload_n 0, 1) := by decide +kernel
theorem dX5_enter_56 : decode cX5_enter 56 = .ok (.getfield 10, 3) := by decide +kernel
theorem dX5_enter_59 : decode cX5_enter 59 = .ok (.invokevirtual 84, 3) := by decide +kernel
theorem dX5_enter_62 : decode cX5_enter 62 = .ok (.aload_n 0, 1) := by decide +kernel
theorem dX5_enter_63 : decode cX5_enter 63 = .ok (.getfield 10, 3) := by decide +kernel
theorem dX5_enter_66 : decode cX5_enter 66 = .ok (.invokevirtual 73, 3) := by decide +kernel
theorem dX5_enter_69 : decode cX5_enter 69 = .ok (.aload_n 0, 1) := by decide +kernel
theorem dX5_enter_70 : decode cX5_enter 70 = .ok (.iload_n 1, 1) := by decide +kernel
theorem dX5_enter_71 : decode cX5_enter 71 = .ok (.invokevirtual 88, 3) := by decide +kernel
theorem dX5_enter_74 : decode cX5_enter 74 = .ok (.ireturn, 1) := by decide +kernel
theorem dX5_input_0 : decode cX5_input 0 = .ok (.iload_n 1, 1) := by decide +kernel
theorem dX5_input_1 : decode cX5_input 1 = .ok (.invokestatic 59, 3) := by decide +kernel
theorem dX5_input_4 : decode cX5_input 4 = .ok (.iload_n 2, 1) := by decide +kernel
theorem dX5_input_5 : decode cX5_input 5 = .ok (.ldc 92, 2) := by decide +kernel
theorem dX5_input_7 : decode cX5_input 7 = .ok (.if_icmp .lt 20, 3) := by decide +kernel
theorem dX5_input_10 : decode cX5_input 10 = .ok (.iload_n 2, 1) := by decide +kernel
theorem dX5_input_11 : decode cX5_input 11 = .ok (.ldc 93, 2) := by decide +kernel
theorem dX5_input_13 : decode cX5_input 13 = .ok (.if_icmp .gt 14, 3) := by decide +kernel
theorem dX5_input_16 : decode cX5_input 16 = .ok (.iload_n 3, 1) := by decide +kernel
theorem dX5_input_17 : decode cX5_input 17 = .ok (.iload_n 2, 1) := by decide +kernel
theorem dX5_input_18 : decode cX5_input 18 = .ok (.if_icmp .lt 9, 3) := by decide +kernel
theorem dX5_input_21 : decode cX5_input 21 = .ok (.iload_n 3, 1) := by decide +kernel
theorem dX5_input_22 : decode cX5_input 22 = .ok (.ldc 93, 2) := by decide +kernel
theorem dX5_input_24 : decode cX5_input 24 = .ok (.if_icmp .le 13, 3) := by decide +kernel
theorem dX5_input_27 : decode cX5_input 27 = .ok (.new 63, 3) := by decide +kernel
theorem dX5_input_30 : decode cX5_input 30 = .ok (.dup, 1) := by decide +kernel
theorem dX5_input_31 : decode cX5_input 31 = .ok (.ldc 94, 2) := by decide +kernel
theorem dX5_input_33 : decode cX5_input 33 = .ok (.invokespecial 67, 3) := by decide +kernel
theorem dX5_input_36 : decode cX5_input 36 = .ok (.athrow, 1) := by decide +kernel
theorem dX5_input_37 : decode cX5_input 37 = .ok (.aload_n 0, 1) := by decide +kernel
theorem dX5_input_38 : decode cX5_input 38 = .ok (.getfield 19, 3) := by decide +kernel
theorem dX5_input_41 : decode cX5_input 41 = .ok (.iload_n 1, 1) := by decide +kernel
theorem dX5_input_42 : decode cX5_input 42 = .ok (.iload_n 2, 1) := by decide +kernel
theorem dX5_input_43 : decode cX5_input 43 = .ok (.iload_n 3, 1) := by decide +kernel
theorem dX5_input_44 : decode cX5_input 44 = .ok (.invokevirtual 96, 3) := by decide +kernel
theorem dX5_input_47 : decode cX5_input 47 = .ok (.aload_n 0, 1) := by decide +kernel
theorem dX5_input_48 : decode cX5_input 48 = .ok (.iload_n 1, 1) := by decide +kernel
theorem dX5_input_49 : decode cX5_input 49 = .ok (.invokevirtual 88, 3) := by decide +kernel
theorem dX5_input_52 : decode cX5_input 52 = .ok (.ireturn, 1) := by decide +kernel
theorem dX5_set_0 : decode cX5_set 0 = .ok (.iload_n 1, 1) := by decide +kernel
theorem dX5_set_1 : decode cX5_set 1 = .ok (.invokestatic 59, 3) := by decide +kernel
theorem dX5_set_4 : decode cX5_set 4 = .ok (.aload_n 0, 1) := by decide +kernel
theorem dX5_set_5 : decode cX5_set 5 = .ok (.getfield 19, 3) := by decide +kernel
theorem dX5_set_8 : decode cX5_set 8 = .ok (.iload_n 1, 1) := by decide +kernel
theorem dX5_set_9 : decode cX5_set 9 = .ok (.invokevirtual 100, 3) := by decide +kernel
theorem dX5_set_12 : decode cX5_set 12 = .ok (.ifCond .ne 13, 3) := by decide +kernel
theorem dX5_set_15 : decode cX5_set 15 = .ok (.new 48, 3) := by decide +kernel
theorem dX5_set_18 : decode cX5_set 18 = .ok (.dup, 1) := by decide +kernel
theorem dX5_set_19 : decode cX5_set 19 = .ok (.ldc 104, 2) := by decide +kernel
theorem dX5_set_21 : decode cX5_set 21 = .ok (.invokespecial 52, 3) := by decide +kernel
theorem dX5_set_24 : decode cX5_set 24 = .ok (.athrow, 1) := by decide +kernel
theorem dX5_set_25 : decode cX5_set 25 = .ok (.iload_n 2, 1) := by decide +kernel
theorem dX5_set_26 : decode cX5_set 26 = .ok (.aload_n 0, 1) := by decide +kernel
theorem dX5_set_27 : decode cX5_set 27 = .ok (.getfield 19, 3) := by decide +kernel
theorem dX5_set_30 : decode cX5_set 30 = .ok (.getfield 106, 3) := by decide +kernel
theorem dX5_set_33 : decode cX5_set 33 = .ok (.iload_n 1, 1) := by decide +kernel
theorem dX5_set_34 : decode cX5_set 34 = .ok (.iaload, 1) := by decide +kernel
theorem dX5_set_35 : decode cX5_set 35 = .ok (.if_icmp .lt 16, 3) := by decide +kernel
theorem dX5_set_38 : decode cX5_set 38 = .ok (.iload_n 2, 1) := by decide +kernel
theorem dX5_set_39 : decode cX5_set 39 = .ok (.aload_n 0, 1) := by decide +kernel
theorem dX5_set_40 : decode cX5_set 40 = .ok (.getfield 19, 3) := by decide +kernel
theorem dX5_set_43 : decode cX5_set 43 = .ok (.getfield 110, 3) := by decide +kernel
theorem dX5_set_46 : decode cX5_set 46 = .ok (.iload_n 1, 1) := by decide +kernel
theorem dX5_set_47 : decode cX5_set 47 = .ok (.iaload, 1) := by decide +kernel
theorem dX5_set_48 : decode cX5_set 48 = .ok (.if_icmp .le 13, 3) := by decide +kernel
theorem dX5_set_51 : decode cX5_set 51 = .ok (.new 63, 3) := by decide +kernel
theorem dX5_set_54 : decode cX5_set 54 = .ok (.dup, 1) := by decide +kernel
theorem dX5_set_55 : decode cX5_set 55 = .ok (.ldc 113, 2) := by decide +kernel
theorem dX5_set_57 : decode cX5_set 57 = .ok (.invokespecial 67, 3) := by decide +kernel
theorem dX5_set_60 : decode cX5_set 60 = .ok (.athrow, 1) := by decide +kernel
theorem dX5_set_61 : decode cX5_set 61 = .ok (.aload_n 0, 1) := by decide +kernel
theorem dX5_set_62 : decode cX5_set 62 = .ok (.getfield 19, 3) := by decide +kernel
theorem dX5_set_65 : decode cX5_set 65 = .ok (.getfield 115, 3) := by decide +kernel
theorem dX5_set_68 : decode cX5_set 68 = .ok (.iload_n 1, 1) := by decide +kernel
theorem dX5_set_69 : decode cX5_set 69 = .ok (.iaload, 1) := by decide +kernel
theorem dX5_set_70 : decode cX5_set 70 = .ok (.istore_n 3, 1) := by decide +kernel
theorem dX5_set_71 : decode cX5_set 71 = .ok (.aload_n 0, 1) := by decide +kernel
theorem dX5_set_72 : decode cX5_set 72 = .ok (.getfield 19, 3) := by decide +kernel
theorem dX5_set_75 : decode cX5_set 75 = .ok (.getfield 115, 3) := by decide +kernel
theorem dX5_set_78 : decode cX5_set 78 = .ok (.iload_n 1, 1) := by decide +kernel
theorem dX5_set_79 : decode cX5_set 79 = .ok (.iload_n 2, 1) := by decide +kernel
theorem dX5_set_80 : decode cX5_set 80 = .ok (.iastore, 1) := by decide +kernel
theorem dX5_set_81 : decode cX5_set 81 = .ok (.iload_n 3, 1) := by decide +kernel
theorem dX5_set_82 : decode cX5_set 82 = .ok (.ireturn, 1) := by decide +kernel
theorem dX5_tell_0 : decode cX5_tell 0 = .ok (.iload_n 1, 1) := by decide +kernel
theorem dX5_tell_1 : decode cX5_tell 1 = .ok (.invokestatic 59, 3) := by decide +kernel
theorem dX5_tell_4 : decode cX5_tell 4 = .ok (.iload_n 2, 1) := by decide +kernel
theorem dX5_tell_5 : decode cX5_tell 5 = .ok (.iconst 2, 1) := by decide +kernel
theorem dX5_tell_6 : decode cX5_tell 6 = .ok (.if_icmp .eq 8, 3) := by decide +kernel
theorem dX5_tell_9 : decode cX5_tell 9 = .ok (.iload_n 2, 1) := by decide +kernel
theorem dX5_tell_10 : decode cX5_tell 10 = .ok (.iconst 3, 1) := by decide +kernel
theorem dX5_tell_11 : decode cX5_tell 11 = .ok (.if_icmp .ne 7, 3) := by decide +kernel
theorem dX5_tell_14 : decode cX5_tell 14 = .ok (.iload_n 3, 1) := by decide +kernel
theorem dX5_tell_15 : decode cX5_tell 15 = .ok (.invokestatic 59, 3) := by decide +kernel
theorem dX5_tell_18 : decode cX5_tell 18 = .ok (.iload_n 2, 1) := by decide +kernel
theorem dX5_tell_19 : decode cX5_tell 19 = .ok (.ifCond .lt 8, 3) := by decide +kernel
theorem dX5_tell_22 : decode cX5_tell 22 = .ok (.iload_n 2, 1) := by decide +kernel
theorem dX5_tell_23 : decode cX5_tell 23 = .ok (.iconst 3, 1) := by decide +kernel
theorem dX5_tell_24 : decode cX5_tell 24 = .ok (.if_icmp .le 13, 3) := by decide +kernel
theorem dX5_tell_27 : decode cX5_tell 27 = .ok (.new 63, 3) := by decide +kernel
theorem dX5_tell_30 : decode cX5_tell 30 = .ok (.dup, 1) := by decide +kernel
theorem dX5_tell_31 : decode cX5_tell 31 = .ok (.ldc 118, 2) := by decide +kernel
theorem dX5_tell_33 : decode cX5_tell 33 = .ok (.invokespecial 67, 3) := by decide +kernel
theorem dX5_tell_36 : decode cX5_tell 36 = .ok (.athrow, 1) := by decide +kernel
theorem dX5_tell_37 : decode cX5_tell 37 = .ok (.aload_n 0, 1) := by decide +kernel
theorem dX5_tell_38 : decode cX5_tell 38 = .ok (.getfield 25, 3) := by decide +kernel
theorem dX5_tell_41 : decode cX5_tell 41 = .ok (.iload_n 1, 1) := by decide +kernel
theorem dX5_tell_42 : decode cX5_tell 42 = .ok (.aaload, 1) := by decide +kernel
theorem dX5_tell_43 : decode cX5_tell 43 = .ok (.iload_n 2, 1) := by decide +kernel
theorem dX5_tell_44 : decode cX5_tell 44 = .ok (.iload_n 3, 1) := by decide +kernel
theorem dX5_tell_45 : decode cX5_tell 45 = .ok (.invokevirtual 120, 3) := by decide +kernel
theorem dX5_tell_48 : decode cX5_tell 48 = .ok (.ifCond .ne 13, 3) := by decide +kernel
theorem dX5_tell_51 : decode cX5_tell 51 = .ok (.new 48, 3) := by decide +kernel
theorem dX5_tell_54 : decode cX5_tell 54 = .ok (.dup, 1) := by decide +kernel
theorem dX5_tell_55 : decode cX5_tell 55 = .ok (.ldc 123, 2) := by decide +kernel
theorem dX5_tell_57 : decode cX5_tell 57 = .ok (.invokespecial 52, 3) := by decide +kernel
theorem dX5_tell_60 : decode cX5_tell 60 = .ok (.athrow, 1) := by decide +kernel
theorem dX5_tell_61 : decode cX5_tell 61 = .ok (.aload_n 0, 1) := by decide +kernel
theorem dX5_tell_62 : decode cX5_tell 62 = .ok (.getfield 33, 3) := by decide +kernel
theorem dX5_tell_65 : decode cX5_tell 65 = .ok (.iconst 1, 1) := by decide +kernel
theorem dX5_tell_66 : decode cX5_tell 66 = .ok (.iload_n 1, 1) := by decide +kernel
theorem dX5_tell_67 : decode cX5_tell 67 = .ok (.ishl, 1) := by decide +kernel
theorem dX5_tell_68 : decode cX5_tell 68 = .ok (.invokevirtual 125, 3) := by decide +kernel
theorem dX5_tell_71 : decode cX5_tell 71 = .ok (.pop, 1) := by decide +kernel
theorem dX5_tell_72 : decode cX5_tell 72 = .ok (.aload_n 0, 1) := by decide +kernel
theorem dX5_tell_73 : decode cX5_tell 73 = .ok (.getfield 25, 3) := by decide +kernel
theorem dX5_tell_76 : decode cX5_tell 76 = .ok (.iload_n 1, 1) := by decide +kernel
theorem dX5_tell_77 : decode cX5_tell 77 = .ok (.aaload, 1) := by decide +kernel
theorem dX5_tell_78 : decode cX5_tell 78 = .ok (.getfield 128, 3) := by decide +kernel
theorem dX5_tell_81 : decode cX5_tell 81 = .ok (.ireturn, 1) := by decide +kernel
theorem dX5_drop_0 : decode cX5_drop 0 = .ok (.iload_n 1, 1) := by decide +kernel
theorem dX5_drop_1 : decode cX5_drop 1 = .ok (.invokestatic 59, 3) := by decide +kernel
theorem dX5_drop_4 : decode cX5_drop 4 = .ok (.aload_n 0, 1) := by decide +kernel
theorem dX5_drop_5 : decode cX5_drop 5 = .ok (.getfield 25, 3) := by decide +kernel
theorem dX5_drop_8 : decode cX5_drop 8 = .ok (.iload_n 1, 1) := by decide +kernel
theorem dX5_drop_9 : decode cX5_drop 9 = .ok (.aaload, 1) := by decide +kernel
theorem dX5_drop_10 : decode cX5_drop 10 = .ok (.getfield 128, 3) := by decide +kernel
theorem dX5_drop_13 : decode cX5_drop 13 = .ok (.istore_n 2, 1) := by decide +kernel
theorem dX5_drop_14 : decode cX5_drop 14 = .ok (.aload_n 0, 1) := by decide +kernel
theorem dX5_drop_15 : decode cX5_drop 15 = .ok (.getfield 25, 3) := by decide +kernel
theorem dX5_drop_18 : decode cX5_drop 18 = .ok (.iload_n 1, 1) := by decide +kernel
theorem dX5_drop_19 : decode cX5_drop 19 = .ok (.aaload, 1) := by decide +kernel
theorem dX5_drop_20 : decode cX5_drop 20 = .ok (.iconst 0, 1) := by decide +kernel
theorem dX5_drop_21 : decode cX5_drop 21 = .ok (.putfield 128, 3) := by decide +kernel
theorem dX5_drop_24 : decode cX5_drop 24 = .ok (.iload_n 2, 1) := by decide +kernel
theorem dX5_drop_25 : decode cX5_drop 25 = .ok (.ireturn, 1) := by decide +kernel
theorem dX5_own_0 : decode cX5_own 0 = .ok (.iload_n 1, 1) := by decide +kernel
theorem dX5_own_1 : decode cX5_own 1 = .ok (.invokestatic 59, 3) := by decide +kernel
theorem dX5_own_4 : decode cX5_own 4 = .ok (.iload_n 2, 1) := by decide +kernel
theorem dX5_own_5 : decode cX5_own 5 = .ok (.ifCond .lt 9, 3) := by decide +kernel
theorem dX5_own_8 : decode cX5_own 8 = .ok (.iload_n 2, 1) := by decide +kernel
theorem dX5_own_9 : decode cX5_own 9 = .ok (.bipush 6, 2) := by decide +kernel
theorem dX5_own_11 : decode cX5_own 11 = .ok (.if_icmp .lt 13, 3) := by decide +kernel
theorem dX5_own_14 : decode cX5_own 14 = .ok (.new 63, 3) := by decide +kernel
theorem dX5_own_17 : decode cX5_own 17 = .ok (.dup, 1) := by decide +kernel
theorem dX5_own_18 : decode cX5_own 18 = .ok (.ldc 131, 2) := by decide +kernel
theorem dX5_own_20 : decode cX5_own 20 = .ok (.invokespecial 67, 3) := by decide +kernel
theorem dX5_own_23 : decode cX5_own 23 = .ok (.athrow, 1) := by decide +kernel
theorem dX5_own_24 : decode cX5_own 24 = .ok (.aload_n 0, 1) := by decide +kernel
theorem dX5_own_25 : decode cX5_own 25 = .ok (.getfield 40, 3) := by decide +kernel
theorem dX5_own_28 : decode cX5_own 28 = .ok (.getfield 133, 3) := by decide +kernel
theorem dX5_own_31 : decode cX5_own 31 = .ok (.iload_n 1, 1) := by decide +kernel
theorem dX5_own_32 : decode cX5_own 32 = .ok (.iaload, 1) := by decide +kernel
theorem dX5_own_33 : decode cX5_own 33 = .ok (.istore_n 3, 1) := by decide +kernel
theorem dX5_own_34 : decode cX5_own 34 = .ok (.aload_n 0, 1) := by decide +kernel
theorem dX5_own_35 : decode cX5_own 35 = .ok (.getfield 40, 3) := by decide +kernel
theorem dX5_own_38 : decode cX5_own 38 = .ok (.getfield 133, 3) := by decide +kernel
theorem dX5_own_41 : decode cX5_own 41 = .ok (.iload_n 1, 1) := by decide +kernel
theorem dX5_own_42 : decode cX5_own 42 = .ok (.iload_n 2, 1) := by decide +kernel
theorem dX5_own_43 : decode cX5_own 43 = .ok (.iastore, 1) := by decide +kernel
theorem dX5_own_44 : decode cX5_own 44 = .ok (.iload_n 3, 1) := by decide +kernel
theorem dX5_own_45 : decode cX5_own 45 = .ok (.ireturn, 1) := by decide +kernel
theorem dX5_attempt_0 : decode cX5_attempt 0 = .ok (.iload_n 1, 1) := by decide +kernel
theorem dX5_attempt_1 : decode cX5_attempt 1 = .ok (.invokestatic 59, 3) := by decide +kernel
theorem dX5_attempt_4 : decode cX5_attempt 4 = .ok (.iload_n 2, 1) := by decide +kernel
theorem dX5_attempt_5 : decode cX5_attempt 5 = .ok (.ifCond .lt 21, 3) := by decide +kernel
theorem dX5_attempt_8 : decode cX5_attempt 8 = .ok (.iload_n 2, 1) := by decide +kernel
theorem dX5_attempt_9 : decode cX5_attempt 9 = .ok (.sipush 7875, 3) := by decide +kernel
theorem dX5_attempt_12 : decode cX5_attempt 12 = .ok (.if_icmp .ge 14, 3) := by decide +kernel
theorem dX5_attempt_15 : decode cX5_attempt 15 = .ok (.iload_n 3, 1) := by decide +kernel
theorem dX5_attempt_16 : decode cX5_attempt 16 = .ok (.iconst 1, 1) := by decide +kernel
theorem dX5_attempt_17 : decode cX5_attempt 17 = .ok (.if_icmp .lt 9, 3) := by decide +kernel
theorem dX5_attempt_20 : decode cX5_attempt 20 = .ok (.iload_n 3, 1) := by decide +kernel
theorem dX5_attempt_21 : decode cX5_attempt 21 = .ok (.bipush 20, 2) := by decide +kernel
theorem dX5_attempt_23 : decode cX5_attempt 23 = .ok (.if_icmp .le 13, 3) := by decide +kernel
theorem dX5_attempt_26 : decode cX5_attempt 26 = .ok (.new 63, 3) := by decide +kernel
theorem dX5_attempt_29 : decode cX5_attempt 29 = .ok (.dup, 1) := by decide +kernel
theorem dX5_attempt_30 : decode cX5_attempt 30 = .ok (.ldc 136, 2) := by decide +kernel
theorem dX5_attempt_32 : decode cX5_attempt 32 = .ok (.invokespecial 67, 3) := by decide +kernel
theorem dX5_attempt_35 : decode cX5_attempt 35 = .ok (.athrow, 1) := by decide +kernel
theorem dX5_attempt_36 : decode cX5_attempt 36 = .ok (.aload_n 0, 1) := by decide +kernel
theorem dX5_attempt_37 : decode cX5_attempt 37 = .ok (.getfield 33, 3) := by decide +kernel
theorem dX5_attempt_40 : decode cX5_attempt 40 = .ok (.getfield 138, 3) := by decide +kernel
theorem dX5_attempt_43 : decode cX5_attempt 43 = .ok (.iload_n 1, 1) := by decide +kernel
theorem dX5_attempt_44 : decode cX5_attempt 44 = .ok (.invokestatic 141, 3) := by decide +kernel
theorem dX5_attempt_47 : decode cX5_attempt 47 = .ok (.istore 4, 2) := by decide +kernel
theorem dX5_attempt_49 : decode cX5_attempt 49 = .ok (.aload_n 0, 1) := by decide +kernel
theorem dX5_attempt_50 : decode cX5_attempt 50 = .ok (.invokevirtual 144, 3) := by decide +kernel
theorem dX5_attempt_53 : decode cX5_attempt 53 = .ok (.istore 5, 2) := by decide +kernel
theorem dX5_attempt_55 : decode cX5_attempt 55 = .ok (.aload_n 0, 1) := by decide +kernel
theorem dX5_attempt_56 : decode cX5_attempt 56 = .ok (.getfield 33, 3) := by decide +kernel
theorem dX5_attempt_59 : decode cX5_attempt 59 = .ok (.aload_n 0, 1) := by decide +kernel
theorem dX5_attempt_60 : decode cX5_attempt 60 = .ok (.getfield 19, 3) := by decide +kernel
theorem dX5_attempt_63 : decode cX5_attempt 63 = .ok (.aload_n 0, 1) := by decide +kernel
theorem dX5_attempt_64 : decode cX5_attempt 64 = .ok (.getfield 25, 3) := by decide +kernel
theorem dX5_attempt_67 : decode cX5_attempt 67 = .ok (.iload_n 1, 1) := by decide +kernel
theorem dX5_attempt_68 : decode cX5_attempt 68 = .ok (.aaload, 1) := by decide +kernel
theorem dX5_attempt_69 : decode cX5_attempt 69 = .ok (.iload_n 1, 1) := by decide +kernel
theorem dX5_attempt_70 : decode cX5_attempt 70 = .ok (.iload_n 2, 1) := by decide +kernel
theorem dX5_attempt_71 : decode cX5_attempt 71 = .ok (.iload_n 3, 1) := by decide +kernel
theorem dX5_attempt_72 : decode cX5_attempt 72 = .ok (.invokevirtual 148, 3) := by decide +kernel
theorem dX5_attempt_75 : decode cX5_attempt 75 = .ok (.istore 6, 2) := by decide +kernel
theorem dX5_attempt_77 : decode cX5_attempt 77 = .ok (.iload 6, 2) := by decide +kernel
theorem dX5_attempt_79 : decode cX5_attempt 79 = .ok (.iconst (-1), 1) := by decide +kernel
theorem dX5_attempt_80 : decode cX5_attempt 80 = .ok (.if_icmp .eq 43, 3) := by decide +kernel
theorem dX5_attempt_83 : decode cX5_attempt 83 = .ok (.aload_n 0, 1) := by decide +kernel
theorem dX5_attempt_84 : decode cX5_attempt 84 = .ok (.getfield 33, 3) := by decide +kernel
theorem dX5_attempt_87 : decode cX5_attempt 87 = .ok (.aload_n 0, 1) := by decide +kernel
theorem dX5_attempt_88 : decode cX5_attempt 88 = .ok (.getfield 19, 3) := by decide +kernel
theorem dX5_attempt_91 : decode cX5_attempt 91 = .ok (.aload_n 0, 1) := by decide +kernel
theorem dX5_attempt_92 : decode cX5_attempt 92 = .ok (.getfield 25, 3) := by decide +kernel
theorem dX5_attempt_95 : decode cX5_attempt 95 = .ok (.iload_n 1, 1) := by decide +kernel
theorem dX5_attempt_96 : decode cX5_attempt 96 = .ok (.aaload, 1) := by decide +kernel
theorem dX5_attempt_97 : decode cX5_attempt 97 = .ok (.iload_n 1, 1) := by decide +kernel
theorem dX5_attempt_98 : decode cX5_attempt 98 = .ok (.invokevirtual 152, 3) := by decide +kernel
theorem dX5_attempt_101 : decode cX5_attempt 101 = .ok (.istore 7, 2) := by decide +kernel
theorem dX5_attempt_103 : decode cX5_attempt 103 = .ok (.aload_n 0, 1) := by decide +kernel
theorem dX5_attempt_104 : decode cX5_attempt 104 = .ok (.getfield 33, 3) := by decide +kernel
theorem dX5_attempt_107 : decode cX5_attempt 107 = .ok (.iload_n 1, 1) := by decide +kernel
theorem dX5_attempt_108 : decode cX5_attempt 108 = .ok (.iload 7, 2) := by decide +kernel
theorem dX5_attempt_110 : decode cX5_attempt 110 = .ok (.aload_n 0, 1) := by decide +kernel
theorem dX5_attempt_111 : decode cX5_attempt 111 = .ok (.getfield 19, 3) := by decide +kernel
theorem dX5_attempt_114 : decode cX5_attempt 114 = .ok (.getfield 156, 3) := by decide +kernel
theorem dX5_attempt_117 : decode cX5_attempt 117 = .ok (.invokevirtual 159, 3) := by decide +kernel
theorem dX5_attempt_120 : decode cX5_attempt 120 = .ok (.iload 6, 2) := by decide +kernel
theorem dX5_attempt_122 : decode cX5_attempt 122 = .ok (.ireturn, 1) := by decide +kernel
theorem dX5_attempt_123 : decode cX5_attempt 123 = .ok (.aload_n 0, 1) := by decide +kernel
theorem dX5_attempt_124 : decode cX5_attempt 124 = .ok (.getfield 33, 3) := by decide +kernel
theorem dX5_attempt_127 : decode cX5_attempt 127 = .ok (.iload_n 1, 1) := by decide +kernel
theorem dX5_attempt_128 : decode cX5_attempt 128 = .ok (.invokevirtual 162, 3) := by decide +kernel
theorem dX5_attempt_131 : decode cX5_attempt 131 = .ok (.iload 4, 2) := by decide +kernel
theorem dX5_attempt_133 : decode cX5_attempt 133 = .ok (.ifCond .eq 24, 3) := by decide +kernel
theorem dX5_attempt_136 : decode cX5_attempt 136 = .ok (.aload_n 0, 1) := by decide +kernel
theorem dX5_attempt_137 : decode cX5_attempt 137 = .ok (.getfield 40, 3) := by decide +kernel
theorem dX5_attempt_140 : decode cX5_attempt 140 = .ok (.aload_n 0, 1) := by decide +kernel
theorem dX5_attempt_141 : decode cX5_attempt 141 = .ok (.getfield 19, 3) := by decide +kernel
theorem dX5_attempt_144 : decode cX5_attempt 144 = .ok (.iload_n 1, 1) := by decide +kernel
theorem dX5_attempt_145 : decode cX5_attempt 145 = .ok (.iload 5, 2) := by decide +kernel
theorem dX5_attempt_147 : decode cX5_attempt 147 = .ok (.aload_n 0, 1) := by decide +kernel
theorem dX5_attempt_148 : decode cX5_attempt 148 = .ok (.invokevirtual 144, 3) := by decide +kernel
theorem dX5_attempt_151 : decode cX5_attempt 151 = .ok (.iconst (-1), 1) := by decide +kernel
theorem dX5_attempt_152 : decode cX5_attempt 152 = .ok (.ixor, 1) := by decide +kernel
theorem dX5_attempt_153 : decode cX5_attempt 153 = .ok (.iand, 1) := by decide +kernel
theorem dX5_attempt_154 : decode cX5_attempt 154 = .ok (.invokevirtual 165, 3) := by decide +kernel
theorem dX5_attempt_157 : decode cX5_attempt 157 = .ok (.iconst (-1), 1) := by decide +kernel
theorem dX5_attempt_158 : decode cX5_attempt 158 = .ok (.ireturn, 1) := by decide +kernel
theorem dX5_waive_0 : decode cX5_waive 0 = .ok (.iload_n 1, 1) := by decide +kernel
theorem dX5_waive_1 : decode cX5_waive 1 = .ok (.invokestatic 59, 3) := by decide +kernel
theorem dX5_waive_4 : decode cX5_waive 4 = .ok (.iload_n 2, 1) := by decide +kernel
theorem dX5_waive_5 : decode cX5_waive 5 = .ok (.aload_n 0, 1) := by decide +kernel
theorem dX5_waive_6 : decode cX5_waive 6 = .ok (.getfield 40, 3) := by decide +kernel
theorem dX5_waive_9 : decode cX5_waive 9 = .ok (.getfield 133, 3) := by decide +kernel
theorem dX5_waive_12 : decode cX5_waive 12 = .ok (.iload_n 1, 1) := by decide +kernel
theorem dX5_waive_13 : decode cX5_waive 13 = .ok (.iaload, 1) := by decide +kernel
theorem dX5_waive_14 : decode cX5_waive 14 = .ok (.if_icmp .ne 13, 3) := by decide +kernel
theorem dX5_waive_17 : decode cX5_waive 17 = .ok (.iload_n 3, 1) := by decide +kernel
theorem dX5_waive_18 : decode cX5_waive 18 = .ok (.ifCond .lt 9, 3) := by decide +kernel
theorem dX5_waive_21 : decode cX5_waive 21 = .ok (.iload_n 3, 1) := by decide +kernel
theorem dX5_waive_22 : decode cX5_waive 22 = .ok (.bipush 30, 2) := by decide +kernel
theorem dX5_waive_24 : decode cX5_waive 24 = .ok (.if_icmp .le 13, 3) := by decide +kernel
theorem dX5_waive_27 : decode cX5_waive 27 = .ok (.new 63, 3) := by decide +kernel
theorem dX5_waive_30 : decode cX5_waive 30 = .ok (.dup, 1) := by decide +kernel
theorem dX5_waive_31 : decode cX5_waive 31 = .ok (.ldc 169, 2) := by decide +kernel
theorem dX5_waive_33 : decode cX5_waive 33 = .ok (.invokespecial 67, 3) := by decide +kernel
theorem dX5_waive_36 : decode cX5_waive 36 = .ok (.athrow, 1) := by decide +kernel
theorem dX5_waive_37 : decode cX5_waive 37 = .ok (.aload_n 0, 1) := by decide +kernel
theorem dX5_waive_38 : decode cX5_waive 38 = .ok (.invokevirtual 144, 3) := by decide +kernel
theorem dX5_waive_41 : decode cX5_waive 41 = .ok (.iload_n 1, 1) := by decide +kernel
theorem dX5_waive_42 : decode cX5_waive 42 = .ok (.invokestatic 141, 3) := by decide +kernel
theorem dX5_waive_45 : decode cX5_waive 45 = .ok (.ifCond .ne 13, 3) := by decide +kernel
theorem dX5_waive_48 : decode cX5_waive 48 = .ok (.new 48, 3) := by decide +kernel
theorem dX5_waive_51 : decode cX5_waive 51 = .ok (.dup, 1) := by decide +kernel
theorem dX5_waive_52 : decode cX5_waive 52 = .ok (.ldc 171, 2) := by decide +kernel
theorem dX5_waive_54 : decode cX5_waive 54 = .ok (.invokespecial 52, 3) := by decide +kernel
theorem dX5_waive_57 : decode cX5_waive 57 = .ok (.athrow, 1) := by decide +kernel
theorem dX5_waive_58 : decode cX5_waive 58 = .ok (.aload_n 0, 1) := by decide +kernel
theorem dX5_waive_59 : decode cX5_waive 59 = .ok (.getfield 40, 3) := by decide +kernel
theorem dX5_waive_62 : decode cX5_waive 62 = .ok (.getfield 173, 3) := by decide +kernel
theorem dX5_waive_65 : decode cX5_waive 65 = .ok (.iload_n 1, 1) := by decide +kernel
theorem dX5_waive_66 : decode cX5_waive 66 = .ok (.aload_n 0, 1) := by decide +kernel
theorem dX5_waive_67 : decode cX5_waive 67 = .ok (.getfield 40, 3) := by decide +kernel
theorem dX5_waive_70 : decode cX5_waive 70 = .ok (.getfield 176, 3) := by decide +kernel
theorem dX5_waive_73 : decode cX5_waive 73 = .ok (.iload_n 3, 1) := by decide +kernel
theorem dX5_waive_74 : decode cX5_waive 74 = .ok (.iadd, 1) := by decide +kernel
theorem dX5_waive_75 : decode cX5_waive 75 = .ok (.iastore, 1) := by decide +kernel
theorem dX5_waive_76 : decode cX5_waive 76 = .ok (.aload_n 0, 1) := by decide +kernel
theorem dX5_waive_77 : decode cX5_waive 77 = .ok (.invokevirtual 144, 3) := by decide +kernel
theorem dX5_waive_80 : decode cX5_waive 80 = .ok (.invokestatic 179, 3) := by decide +kernel
theorem dX5_waive_83 : decode cX5_waive 83 = .ok (.ireturn, 1) := by decide +kernel
theorem dX5_pass_0 : decode cX5_pass 0 = .ok (.iload_n 1, 1) := by decide +kernel
theorem dX5_pass_1 : decode cX5_pass 1 = .ok (.iconst 1, 1) := by decide +kernel
theorem dX5_pass_2 : decode cX5_pass 2 = .ok (.if_icmp .lt 9, 3) := by decide +kernel
theorem dX5_pass_5 : decode cX5_pass 5 = .ok (.iload_n 1, 1) := by decide +kernel
theorem dX5_pass_6 : decode cX5_pass 6 = .ok (.bipush 100, 2) := by decide +kernel
theorem dX5_pass_8 : decode cX5_pass 8 = .ok (.if_icmp .le 13, 3) := by decide +kernel
theorem dX5_pass_11 : decode cX5_pass 11 = .ok (.new 63, 3) := by decide +kernel
theorem dX5_pass_14 : decode cX5_pass 14 = .ok (.dup, 1) := by decide +kernel
theorem dX5_pass_15 : decode cX5_pass 15 = .ok (.ldc 184, 2) := by decide +kernel
theorem dX5_pass_17 : decode cX5_pass 17 = .ok (.invokespecial 67, 3) := by decide +kernel
theorem dX5_pass_20 : decode cX5_pass 20 = .ok (.athrow, 1) := by decide +kernel
theorem dX5_pass_21 : decode cX5_pass 21 = .ok (.aload_n 0, 1) := by decide +kernel
theorem dX5_pass_22 : decode cX5_pass 22 = .ok (.getfield 40, 3) := by decide +kernel
theorem dX5_pass_25 : decode cX5_pass 25 = .ok (.getfield 176, 3) := by decide +kernel
theorem dX5_pass_28 : decode cX5_pass 28 = .ok (.iload_n 1, 1) := by decide +kernel
theorem dX5_pass_29 : decode cX5_pass 29 = .ok (.iadd, 1) := by decide +kernel
theorem dX5_pass_30 : decode cX5_pass 30 = .ok (.sipush 10000, 3) := by decide +kernel
theorem dX5_pass_33 : decode cX5_pass 33 = .ok (.if_icmp .le 13, 3) := by decide +kernel
theorem dX5_pass_36 : decode cX5_pass 36 = .ok (.new 48, 3) := by decide +kernel
theorem dX5_pass_39 : decode cX5_pass 39 = .ok (.dup, 1) := by decide +kernel
theorem dX5_pass_40 : decode cX5_pass 40 = .ok (.ldc 186, 2) := by decide +kernel
theorem dX5_pass_42 : decode cX5_pass 42 = .ok (.invokespecial 52, 3) := by decide +kernel
theorem dX5_pass_45 : decode cX5_pass 45 = .ok (.athrow, 1) := by decide +kernel
theorem dX5_pass_46 : decode cX5_pass 46 = .ok (.aload_n 0, 1) := by decide +kernel
theorem dX5_pass_47 : decode cX5_pass 47 = .ok (.getfield 40, 3) := by decide +kernel
theorem dX5_pass_50 : decode cX5_pass 50 = .ok (.dup, 1) := by decide +kernel
theorem dX5_pass_51 : decode cX5_pass 51 = .ok (.getfield 176, 3) := by decide +kernel
theorem dX5_pass_54 : decode cX5_pass 54 = .ok (.iload_n 1, 1) := by decide +kernel
theorem dX5_pass_55 : decode cX5_pass 55 = .ok (.iadd, 1) := by decide +kernel
theorem dX5_pass_56 : decode cX5_pass 56 = .ok (.putfield 176, 3) := by decide +kernel
theorem dX5_pass_59 : decode cX5_pass 59 = .ok (.aload_n 0, 1) := by decide +kernel
theorem dX5_pass_60 : decode cX5_pass 60 = .ok (.invokevirtual 144, 3) := by decide +kernel
theorem dX5_pass_63 : decode cX5_pass 63 = .ok (.invokestatic 179, 3) := by decide +kernel
theorem dX5_pass_66 : decode cX5_pass 66 = .ok (.ireturn, 1) := by decide +kernel
theorem dX5_drafted_0 : decode cX5_drafted 0 = .ok (.aload_n 0, 1) := by decide +kernel
theorem dX5_drafted_1 : decode cX5_drafted 1 = .ok (.getfield 10, 3) := by decide +kernel
theorem dX5_drafted_4 : decode cX5_drafted 4 = .ok (.getfield 70, 3) := by decide +kernel
theorem dX5_drafted_7 : decode cX5_drafted 7 = .ok (.ireturn, 1) := by decide +kernel
theorem dX5_reads_0 : decode cX5_reads 0 = .ok (.iload_n 1, 1) := by decide +kernel
theorem dX5_reads_1 : decode cX5_reads 1 = .ok (.invokestatic 59, 3) := by decide +kernel
theorem dX5_reads_4 : decode cX5_reads 4 = .ok (.aload_n 0, 1) := by decide +kernel
theorem dX5_reads_5 : decode cX5_reads 5 = .ok (.getfield 19, 3) := by decide +kernel
theorem dX5_reads_8 : decode cX5_reads 8 = .ok (.getfield 188, 3) := by decide +kernel
theorem dX5_reads_11 : decode cX5_reads 11 = .ok (.iload_n 1, 1) := by decide +kernel
theorem dX5_reads_12 : decode cX5_reads 12 = .ok (.iaload, 1) := by decide +kernel
theorem dX5_reads_13 : decode cX5_reads 13 = .ok (.ireturn, 1) := by decide +kernel
theorem dX5_rests_0 : decode cX5_rests 0 = .ok (.iload_n 1, 1) := by decide +kernel
theorem dX5_rests_1 : decode cX5_rests 1 = .ok (.invokestatic 59, 3) := by decide +kernel
theorem dX5_rests_4 : decode cX5_rests 4 = .ok (.aload_n 0, 1) := by decide +kernel
theorem dX5_rests_5 : decode cX5_rests 5 = .ok (.getfield 19, 3) := by decide +kernel
theorem dX5_rests_8 : decode cX5_rests 8 = .ok (.getfield 191, 3) := by decide +kernel
theorem dX5_rests_11 : decode cX5_rests 11 = .ok (.iload_n 1, 1) := by decide +kernel
theorem dX5_rests_12 : decode cX5_rests 12 = .ok (.iaload, 1) := by decide +kernel
theorem dX5_rests_13 : decode cX5_rests 13 = .ok (.ireturn, 1) := by decide +kernel
theorem dX5_show_0 : decode cX5_show 0 = .ok (.iload_n 1, 1) := by decide +kernel
theorem dX5_show_1 : decode cX5_show 1 = .ok (.invokestatic 59, 3) := by decide +kernel
theorem dX5_show_4 : decode cX5_show 4 = .ok (.aload_n 0, 1) := by decide +kernel
theorem dX5_show_5 : decode cX5_show 5 = .ok (.invokevirtual 144, 3) := by decide +kernel
theorem dX5_show_8 : decode cX5_show 8 = .ok (.iload_n 1, 1) := by decide +kernel
theorem dX5_show_9 : decode cX5_show 9 = .ok (.invokestatic 141, 3) := by decide +kernel
theorem dX5_show_12 : decode cX5_show 12 = .ok (.ifCond .eq 13, 3) := by decide +kernel
theorem dX5_show_15 : decode cX5_show 15 = .ok (.new 48, 3) := by decide +kernel
theorem dX5_show_18 : decode cX5_show 18 = .ok (.dup, 1) := by decide +kernel
theorem dX5_show_19 : decode cX5_show 19 = .ok (.ldc 194, 2) := by decide +kernel
theorem dX5_show_21 : decode cX5_show 21 = .ok (.invokespecial 52, 3) := by decide +kernel
theorem dX5_show_24 : decode cX5_show 24 = .ok (.athrow, 1) := by decide +kernel
theorem dX5_show_25 : decode cX5_show 25 = .ok (.aload_n 0, 1) := by decide +kernel
theorem dX5_show_26 : decode cX5_show 26 = .ok (.getfield 19, 3) := by decide +kernel
theorem dX5_show_29 : decode cX5_show 29 = .ok (.iload_n 1, 1) := by decide +kernel
theorem dX5_show_30 : decode cX5_show 30 = .ok (.aload_n 0, 1) := by decide +kernel
theorem dX5_show_31 : decode cX5_show 31 = .ok (.getfield 19, 3) := by decide +kernel
theorem dX5_show_34 : decode cX5_show 34 = .ok (.getfield 115, 3) := by decide +kernel
theorem dX5_show_37 : decode cX5_show 37 = .ok (.invokevirtual 196, 3) := by decide +kernel
theorem dX5_show_40 : decode cX5_show 40 = .ok (.lstore_n 2, 1) := by decide +kernel
theorem dX5_show_41 : decode cX5_show 41 = .ok (.lload_n 2, 1) := by decide +kernel
theorem dX5_show_42 : decode cX5_show 42 = .ok (.ldc2_w 200, 3) := by decide +kernel
theorem dX5_show_45 : decode cX5_show 45 = .ok (.lcmp, 1) := by decide +kernel
theorem dX5_show_46 : decode cX5_show 46 = .ok (.ifCond .ne 13, 3) := by decide +kernel
theorem dX5_show_49 : decode cX5_show 49 = .ok (.new 202, 3) := by decide +kernel
theorem dX5_show_52 : decode cX5_show 52 = .ok (.dup, 1) := by decide +kernel
theorem dX5_show_53 : decode cX5_show 53 = .ok (.ldc 204, 2) := by decide +kernel
theorem dX5_show_55 : decode cX5_show 55 = .ok (.invokespecial 206, 3) := by decide +kernel
theorem dX5_show_58 : decode cX5_show 58 = .ok (.athrow, 1) := by decide +kernel
theorem dX5_show_59 : decode cX5_show 59 = .ok (.lload_n 2, 1) := by decide +kernel
theorem dX5_show_60 : decode cX5_show 60 = .ok (.l2i, 1) := by decide +kernel
theorem dX5_show_61 : decode cX5_show 61 = .ok (.ireturn, 1) := by decide +kernel
theorem dX5_verdict_0 : decode cX5_verdict 0 = .ok (.iload_n 1, 1) := by decide +kernel
theorem dX5_verdict_1 : decode cX5_verdict 1 = .ok (.invokestatic 59, 3) := by decide +kernel
theorem dX5_verdict_4 : decode cX5_verdict 4 = .ok (.aload_n 0, 1) := by decide +kernel
theorem dX5_verdict_5 : decode cX5_verdict 5 = .ok (.getfield 33, 3) := by decide +kernel
theorem dX5_verdict_8 : decode cX5_verdict 8 = .ok (.getfield 138, 3) := by decide +kernel
theorem dX5_verdict_11 : decode cX5_verdict 11 = .ok (.iload_n 1, 1) := by decide +kernel
theorem dX5_verdict_12 : decode cX5_verdict 12 = .ok (.invokestatic 141, 3) := by decide +kernel
theorem dX5_verdict_15 : decode cX5_verdict 15 = .ok (.ifCond .eq 5, 3) := by decide +kernel
theorem dX5_verdict_18 : decode cX5_verdict 18 = .ok (.iconst 2, 1) := by decide +kernel
theorem dX5_verdict_19 : decode cX5_verdict 19 = .ok (.ireturn, 1) := by decide +kernel
theorem dX5_verdict_20 : decode cX5_verdict 20 = .ok (.aload_n 0, 1) := by decide +kernel
theorem dX5_verdict_21 : decode cX5_verdict 21 = .ok (.getfield 33, 3) := by decide +kernel
theorem dX5_verdict_24 : decode cX5_verdict 24 = .ok (.getfield 207, 3) := by decide +kernel
theorem dX5_verdict_27 : decode cX5_verdict 27 = .ok (.iload_n 1, 1) := by decide +kernel
theorem dX5_verdict_28 : decode cX5_verdict 28 = .ok (.invokestatic 141, 3) := by decide +kernel
theorem dX5_verdict_31 : decode cX5_verdict 31 = .ok (.ifCond .eq 7, 3) := by decide +kernel
theorem dX5_verdict_34 : decode cX5_verdict 34 = .ok (.iconst 1, 1) := by decide +kernel
theorem dX5_verdict_35 : decode cX5_verdict 35 = .ok (.goto 4, 3) := by decide +kernel
theorem dX5_verdict_38 : decode cX5_verdict 38 = .ok (.iconst 0, 1) := by decide +kernel
theorem dX5_verdict_39 : decode cX5_verdict 39 = .ok (.ireturn, 1) := by decide +kernel
theorem dX5_failing_0 : decode cX5_failing 0 = .ok (.iload_n 1, 1) := by decide +kernel
theorem dX5_failing_1 : decode cX5_failing 1 = .ok (.invokestatic 59, 3) := by decide +kernel
theorem dX5_failing_4 : decode cX5_failing 4 = .ok (.aload_n 0, 1) := by decide +kernel
theorem dX5_failing_5 : decode cX5_failing 5 = .ok (.getfield 33, 3) := by decide +kernel
theorem dX5_failing_8 : decode cX5_failing 8 = .ok (.getfield 138, 3) := by decide +kernel
theorem dX5_failing_11 : decode cX5_failing 11 = .ok (.iload_n 1, 1) := by decide +kernel
theorem dX5_failing_12 : decode cX5_failing 12 = .ok (.invokestatic 141, 3) := by decide +kernel
theorem dX5_failing_15 : decode cX5_failing 15 = .ok (.ifCond .eq 15, 3) := by decide +kernel
theorem dX5_failing_18 : decode cX5_failing 18 = .ok (.aload_n 0, 1) := by decide +kernel
theorem dX5_failing_19 : decode cX5_failing 19 = .ok (.getfield 33, 3) := by decide +kernel
theorem dX5_failing_22 : decode cX5_failing 22 = .ok (.getfield 210, 3) := by decide +kernel
theorem dX5_failing_25 : decode cX5_failing 25 = .ok (.iload_n 1, 1) := by decide +kernel
theorem dX5_failing_26 : decode cX5_failing 26 = .ok (.iaload, 1) := by decide +kernel
theorem dX5_failing_27 : decode cX5_failing 27 = .ok (.goto 4, 3) := by decide +kernel
theorem dX5_failing_30 : decode cX5_failing 30 = .ok (.iconst (-1), 1) := by decide +kernel
theorem dX5_failing_31 : decode cX5_failing 31 = .ok (.ireturn, 1) := by decide +kernel
theorem dX5_example_0 : decode cX5_example 0 = .ok (.iload_n 1, 1) := by decide +kernel
theorem dX5_example_1 : decode cX5_example 1 = .ok (.invokestatic 59, 3) := by decide +kernel
theorem dX5_example_4 : decode cX5_example 4 = .ok (.iload_n 2, 1) := by decide +kernel
theorem dX5_example_5 : decode cX5_example 5 = .ok (.invokestatic 59, 3) := by decide +kernel
theorem dX5_example_8 : decode cX5_example 8 = .ok (.aload_n 0, 1) := by decide +kernel
theorem dX5_example_9 : decode cX5_example 9 = .ok (.getfield 33, 3) := by decide +kernel
theorem dX5_example_12 : decode cX5_example 12 = .ok (.getfield 138, 3) := by decide +kernel
theorem dX5_example_15 : decode cX5_example 15 = .ok (.iload_n 1, 1) := by decide +kernel
theorem dX5_example_16 : decode cX5_example 16 = .ok (.invokestatic 141, 3) := by decide +kernel
theorem dX5_example_19 : decode cX5_example 19 = .ok (.ifCond .eq 19, 3) := by decide +kernel
theorem dX5_example_22 : decode cX5_example 22 = .ok (.aload_n 0, 1) := by decide +kernel
theorem dX5_example_23 : decode cX5_example 23 = .ok (.getfield 33, 3) := by decide +kernel
theorem dX5_example_26 : decode cX5_example 26 = .ok (.getfield 213, 3) := by decide +kernel
theorem dX5_example_29 : decode cX5_example 29 = .ok (.iload_n 1, 1) := by decide +kernel
theorem dX5_example_30 : decode cX5_example 30 = .ok (.iaload, 1) := by decide +kernel
theorem dX5_example_31 : decode cX5_example 31 = .ok (.iload_n 2, 1) := by decide +kernel
theorem dX5_example_32 : decode cX5_example 32 = .ok (.invokestatic 141, 3) := by decide +kernel
theorem dX5_example_35 : decode cX5_example 35 = .ok (.ifCond .ne 13, 3) := by decide +kernel
theorem dX5_example_38 : decode cX5_example 38 = .ok (.new 216, 3) := by decide +kernel
theorem dX5_example_41 : decode cX5_example 41 = .ok (.dup, 1) := by decide +kernel
theorem dX5_example_42 : decode cX5_example 42 = .ok (.ldc 218, 2) := by decide +kernel
theorem dX5_example_44 : decode cX5_example 44 = .ok (.invokespecial 220, 3) := by decide +kernel
theorem dX5_example_47 : decode cX5_example 47 = .ok (.athrow, 1) := by decide +kernel
theorem dX5_example_48 : decode cX5_example 48 = .ok (.aload_n 0, 1) := by decide +kernel
theorem dX5_example_49 : decode cX5_example 49 = .ok (.getfield 33, 3) := by decide +kernel
theorem dX5_example_52 : decode cX5_example 52 = .ok (.getfield 221, 3) := by decide +kernel
theorem dX5_example_55 : decode cX5_example 55 = .ok (.iload_n 1, 1) := by decide +kernel
theorem dX5_example_56 : decode cX5_example 56 = .ok (.aaload, 1) := by decide +kernel
theorem dX5_example_57 : decode cX5_example 57 = .ok (.iload_n 2, 1) := by decide +kernel
theorem dX5_example_58 : decode cX5_example 58 = .ok (.iaload, 1) := by decide +kernel
theorem dX5_example_59 : decode cX5_example 59 = .ok (.ireturn, 1) := by decide +kernel
theorem dX5_smaller_0 : decode cX5_smaller 0 = .ok (.iload_n 1, 1) := by decide +kernel
theorem dX5_smaller_1 : decode cX5_smaller 1 = .ok (.invokestatic 59, 3) := by decide +kernel
theorem dX5_smaller_4 : decode cX5_smaller 4 = .ok (.aload_n 0, 1) := by decide +kernel
theorem dX5_smaller_5 : decode cX5_smaller 5 = .ok (.getfield 33, 3) := by decide +kernel
theorem dX5_smaller_8 : decode cX5_smaller 8 = .ok (.getfield 138, 3) := by decide +kernel
theorem dX5_smaller_11 : decode cX5_smaller 11 = .ok (.iload_n 1, 1) := by decide +kernel
theorem dX5_smaller_12 : decode cX5_smaller 12 = .ok (.invokestatic 141, 3) := by decide +kernel
theorem dX5_smaller_15 : decode cX5_smaller 15 = .ok (.ifCond .eq 15, 3) := by decide +kernel
theorem dX5_smaller_18 : decode cX5_smaller 18 = .ok (.aload_n 0, 1) := by decide +kernel
theorem dX5_smaller_19 : decode cX5_smaller 19 = .ok (.getfield 33, 3) := by decide +kernel
theorem dX5_smaller_22 : decode cX5_smaller 22 = .ok (.getfield 225, 3) := by decide +kernel
theorem dX5_smaller_25 : decode cX5_smaller 25 = .ok (.iload_n 1, 1) := by decide +kernel
theorem dX5_smaller_26 : decode cX5_smaller 26 = .ok (.iaload, 1) := by decide +kernel
theorem dX5_smaller_27 : decode cX5_smaller 27 = .ok (.goto 4, 3) := by decide +kernel
theorem dX5_smaller_30 : decode cX5_smaller 30 = .ok (.iconst (-1), 1) := by decide +kernel
theorem dX5_smaller_31 : decode cX5_smaller 31 = .ok (.ireturn, 1) := by decide +kernel
theorem dX5_isLocked_0 : decode cX5_isLocked 0 = .ok (.iload_n 1, 1) := by decide +kernel
theorem dX5_isLocked_1 : decode cX5_isLocked 1 = .ok (.invokestatic 59, 3) := by decide +kernel
theorem dX5_isLocked_4 : decode cX5_isLocked 4 = .ok (.aload_n 0, 1) := by decide +kernel
theorem dX5_isLocked_5 : decode cX5_isLocked 5 = .ok (.invokevirtual 144, 3) := by decide +kernel
theorem dX5_isLocked_8 : decode cX5_isLocked 8 = .ok (.iload_n 1, 1) := by decide +kernel
theorem dX5_isLocked_9 : decode cX5_isLocked 9 = .ok (.invokestatic 141, 3) := by decide +kernel
theorem dX5_isLocked_12 : decode cX5_isLocked 12 = .ok (.ireturn, 1) := by decide +kernel
theorem dX5_isLockedByWays_0 : decode cX5_isLockedByWays 0 = .ok (.iload_n 1, 1) := by decide +kernel
theorem dX5_isLockedByWays_1 : decode cX5_isLockedByWays 1 = .ok (.invokestatic 59, 3) := by decide +kernel
theorem dX5_isLockedByWays_4 : decode cX5_isLockedByWays 4 = .ok (.aload_n 0, 1) := by decide +kernel
theorem dX5_isLockedByWays_5 : decode cX5_isLockedByWays 5 = .ok (.getfield 19, 3) := by decide +kernel
theorem dX5_isLockedByWays_8 : decode cX5_isLockedByWays 8 = .ok (.iload_n 1, 1) := by decide +kernel
theorem dX5_isLockedByWays_9 : decode cX5_isLockedByWays 9 = .ok (.aload_n 0, 1) := by decide +kernel
theorem dX5_isLockedByWays_10 : decode cX5_isLockedByWays 10 = .ok (.getfield 40, 3) := by decide +kernel
theorem dX5_isLockedByWays_13 : decode cX5_isLockedByWays 13 = .ok (.invokevirtual 228, 3) := by decide +kernel
theorem dX5_isLockedByWays_16 : decode cX5_isLockedByWays 16 = .ok (.invokevirtual 231, 3) := by decide +kernel
theorem dX5_isLockedByWays_19 : decode cX5_isLockedByWays 19 = .ok (.aload_n 0, 1) := by decide +kernel
theorem dX5_isLockedByWays_20 : decode cX5_isLockedByWays 20 = .ok (.getfield 33, 3) := by decide +kernel
theorem dX5_isLockedByWays_23 : decode cX5_isLockedByWays 23 = .ok (.getfield 138, 3) := by decide +kernel
theorem dX5_isLockedByWays_26 : decode cX5_isLockedByWays 26 = .ok (.iand, 1) := by decide +kernel
theorem dX5_isLockedByWays_27 : decode cX5_isLockedByWays 27 = .ok (.ifCond .eq 7, 3) := by decide +kernel
theorem dX5_isLockedByWays_30 : decode cX5_isLockedByWays 30 = .ok (.iconst 1, 1) := by decide +kernel
theorem dX5_isLockedByWays_31 : decode cX5_isLockedByWays 31 = .ok (.goto 4, 3) := by decide +kernel
theorem dX5_isLockedByWays_34 : decode cX5_isLockedByWays 34 = .ok (.iconst 0, 1) := by decide +kernel
theorem dX5_isLockedByWays_35 : decode cX5_isLockedByWays 35 = .ok (.ireturn, 1) := by decide +kernel
theorem dX5_isMarked_0 : decode cX5_isMarked 0 = .ok (.iload_n 1, 1) := by decide +kernel
theorem dX5_isMarked_1 : decode cX5_isMarked 1 = .ok (.invokestatic 59, 3) := by decide +kernel
theorem dX5_isMarked_4 : decode cX5_isMarked 4 = .ok (.aload_n 0, 1) := by decide +kernel
theorem dX5_isMarked_5 : decode cX5_isMarked 5 = .ok (.getfield 19, 3) := by decide +kernel
theorem dX5_isMarked_8 : decode cX5_isMarked 8 = .ok (.getfield 191, 3) := by decide +kernel
theorem dX5_isMarked_11 : decode cX5_isMarked 11 = .ok (.iload_n 1, 1) := by decide +kernel
theorem dX5_isMarked_12 : decode cX5_isMarked 12 = .ok (.iaload, 1) := by decide +kernel
theorem dX5_isMarked_13 : decode cX5_isMarked 13 = .ok (.iconst 1, 1) := by decide +kernel
theorem dX5_isMarked_14 : decode cX5_isMarked 14 = .ok (.iload_n 1, 1) := by decide +kernel
theorem dX5_isMarked_15 : decode cX5_isMarked 15 = .ok (.ishl, 1) := by decide +kernel
theorem dX5_isMarked_16 : decode cX5_isMarked 16 = .ok (.ior, 1) := by decide +kernel
theorem dX5_isMarked_17 : decode cX5_isMarked 17 = .ok (.aload_n 0, 1) := by decide +kernel
theorem dX5_isMarked_18 : decode cX5_isMarked 18 = .ok (.getfield 33, 3) := by decide +kernel
theorem dX5_isMarked_21 : decode cX5_isMarked 21 = .ok (.getfield 138, 3) := by decide +kernel
theorem dX5_isMarked_24 : decode cX5_isMarked 24 = .ok (.iand, 1) := by decide +kernel
theorem dX5_isMarked_25 : decode cX5_isMarked 25 = .ok (.ifCond .eq 7, 3) := by decide +kernel
theorem dX5_isMarked_28 : decode cX5_isMarked 28 = .ok (.iconst 1, 1) := by decide +kernel
theorem dX5_isMarked_29 : decode cX5_isMarked 29 = .ok (.goto 4, 3) := by decide +kernel
theorem dX5_isMarked_32 : decode cX5_isMarked 32 = .ok (.iconst 0, 1) := by decide +kernel
theorem dX5_isMarked_33 : decode cX5_isMarked 33 = .ok (.ireturn, 1) := by decide +kernel
theorem dX5_locked_0 : decode cX5_locked 0 = .ok (.aload_n 0, 1) := by decide +kernel
theorem dX5_locked_1 : decode cX5_locked 1 = .ok (.invokevirtual 144, 3) := by decide +kernel
theorem dX5_locked_4 : decode cX5_locked 4 = .ok (.invokestatic 179, 3) := by decide +kernel
theorem dX5_locked_7 : decode cX5_locked 7 = .ok (.ireturn, 1) := by decide +kernel
theorem dX5_needCell_0 : decode cX5_needCell 0 = .ok (.iload_n 0, 1) := by decide +kernel
theorem dX5_needCell_1 : decode cX5_needCell 1 = .ok (.ifCond .lt 9, 3) := by decide +kernel
theorem dX5_needCell_4 : decode cX5_needCell 4 = .ok (.iload_n 0, 1) := by decide +kernel
theorem dX5_needCell_5 : decode cX5_needCell 5 = .ok (.bipush 16, 2) := by decide +kernel
theorem dX5_needCell_7 : decode cX5_needCell 7 = .ok (.if_icmp .lt 13, 3) := by decide +kernel
theorem dX5_needCell_10 : decode cX5_needCell 10 = .ok (.new 238, 3) := by decide +kernel
theorem dX5_needCell_13 : decode cX5_needCell 13 = .ok (.dup, 1) := by decide +kernel
theorem dX5_needCell_14 : decode cX5_needCell 14 = .ok (.ldc 246, 2) := by decide +kernel
theorem dX5_needCell_16 : decode cX5_needCell 16 = .ok (.invokespecial 242, 3) := by decide +kernel
theorem dX5_needCell_19 : decode cX5_needCell 19 = .ok (.athrow, 1) := by decide +kernel
theorem dX5_needCell_20 : decode cX5_needCell 20 = .ok (.return_, 1) := by decide +kernel
theorem dX5_has_0 : decode cX5_has 0 = .ok (.iload_n 1, 1) := by decide +kernel
theorem dX5_has_1 : decode cX5_has 1 = .ok (.ifCond .lt 21, 3) := by decide +kernel
theorem dX5_has_4 : decode cX5_has 4 = .ok (.iload_n 1, 1) := by decide +kernel
theorem dX5_has_5 : decode cX5_has 5 = .ok (.bipush 16, 2) := by decide +kernel
theorem dX5_has_7 : decode cX5_has 7 = .ok (.if_icmp .ge 15, 3) := by decide +kernel
theorem dX5_has_10 : decode cX5_has 10 = .ok (.iload_n 0, 1) := by decide +kernel
theorem dX5_has_11 : decode cX5_has 11 = .ok (.iload_n 1, 1) := by decide +kernel
theorem dX5_has_12 : decode cX5_has 12 = .ok (.ishr, 1) := by decide +kernel
theorem dX5_has_13 : decode cX5_has 13 = .ok (.iconst 1, 1) := by decide +kernel
theorem dX5_has_14 : decode cX5_has 14 = .ok (.iand, 1) := by decide +kernel
theorem dX5_has_15 : decode cX5_has 15 = .ok (.ifCond .eq 7, 3) := by decide +kernel
theorem dX5_has_18 : decode cX5_has 18 = .ok (.iconst 1, 1) := by decide +kernel
theorem dX5_has_19 : decode cX5_has 19 = .ok (.goto 4, 3) := by decide +kernel
theorem dX5_has_22 : decode cX5_has 22 = .ok (.iconst 0, 1) := by decide +kernel
theorem dX5_has_23 : decode cX5_has 23 = .ok (.ireturn, 1) := by decide +kernel
theorem dX5_lockedCells_0 : decode cX5_lockedCells 0 = .ok (.aload_n 0, 1) := by decide +kernel
theorem dX5_lockedCells_1 : decode cX5_lockedCells 1 = .ok (.getfield 19, 3) := by decide +kernel
theorem dX5_lockedCells_4 : decode cX5_lockedCells 4 = .ok (.aload_n 0, 1) := by decide +kernel
theorem dX5_lockedCells_5 : decode cX5_lockedCells 5 = .ok (.getfield 33, 3) := by decide +kernel
theorem dX5_lockedCells_8 : decode cX5_lockedCells 8 = .ok (.getfield 138, 3) := by decide +kernel
theorem dX5_lockedCells_11 : decode cX5_lockedCells 11 = .ok (.aload_n 0, 1) := by decide +kernel
theorem dX5_lockedCells_12 : decode cX5_lockedCells 12 = .ok (.getfield 40, 3) := by decide +kernel
theorem dX5_lockedCells_15 : decode cX5_lockedCells 15 = .ok (.invokevirtual 228, 3) := by decide +kernel
theorem dX5_lockedCells_18 : decode cX5_lockedCells 18 = .ok (.invokevirtual 248, 3) := by decide +kernel
theorem dX5_lockedCells_21 : decode cX5_lockedCells 21 = .ok (.ireturn, 1) := by decide +kernel
theorem dX5_followChange_0 : decode cX5_followChange 0 = .ok (.aload_n 0, 1) := by decide +kernel
theorem dX5_followChange_1 : decode cX5_followChange 1 = .ok (.getfield 40, 3) := by decide +kernel
theorem dX5_followChange_4 : decode cX5_followChange 4 = .ok (.getfield 173, 3) := by decide +kernel
theorem dX5_followChange_7 : decode cX5_followChange 7 = .ok (.iload_n 1, 1) := by decide +kernel
theorem dX5_followChange_8 : decode cX5_followChange 8 = .ok (.iconst (-1), 1) := by decide +kernel
theorem dX5_followChange_9 : decode cX5_followChange 9 = .ok (.iastore, 1) := by decide +kernel
theorem dX5_followChange_10 : decode cX5_followChange 10 = .ok (.aload_n 0, 1) := by decide +kernel
theorem dX5_followChange_11 : decode cX5_followChange 11 = .ok (.getfield 33, 3) := by decide +kernel
theorem dX5_followChange_14 : decode cX5_followChange 14 = .ok (.aload_n 0, 1) := by decide +kernel
theorem dX5_followChange_15 : decode cX5_followChange 15 = .ok (.getfield 19, 3) := by decide +kernel
theorem dX5_followChange_18 : decode cX5_followChange 18 = .ok (.iload_n 1, 1) := by decide +kernel
theorem dX5_followChange_19 : decode cX5_followChange 19 = .ok (.invokevirtual 250, 3) := by decide +kernel
theorem dX5_followChange_22 : decode cX5_followChange 22 = .ok (.iconst 1, 1) := by decide +kernel
theorem dX5_followChange_23 : decode cX5_followChange 23 = .ok (.iload_n 1, 1) := by decide +kernel
theorem dX5_followChange_24 : decode cX5_followChange 24 = .ok (.ishl, 1) := by decide +kernel
theorem dX5_followChange_25 : decode cX5_followChange 25 = .ok (.ior, 1) := by decide +kernel
theorem dX5_followChange_26 : decode cX5_followChange 26 = .ok (.invokevirtual 125, 3) := by decide +kernel
theorem dX5_followChange_29 : decode cX5_followChange 29 = .ok (.ireturn, 1) := by decide +kernel
theorem dJ6_bitCount_0f7a4_0 : decode cJ6_bitCount_0f7a4 0 = .ok (.iload_n 0, 1) := by decide +kernel
theorem dJ6_bitCount_0f7a4_1 : decode cJ6_bitCount_0f7a4 1 = .ok (.iload_n 0, 1) := by decide +kernel
theorem dJ6_bitCount_0f7a4_2 : decode cJ6_bitCount_0f7a4 2 = .ok (.iconst 1, 1) := by decide +kernel
theorem dJ6_bitCount_0f7a4_3 : decode cJ6_bitCount_0f7a4 3 = .ok (.iushr, 1) := by decide +kernel
theorem dJ6_bitCount_0f7a4_4 : decode cJ6_bitCount_0f7a4 4 = .ok (.ldc_w 265, 3) := by decide +kernel
theorem dJ6_bitCount_0f7a4_7 : decode cJ6_bitCount_0f7a4 7 = .ok (.iand, 1) := by decide +kernel
theorem dJ6_bitCount_0f7a4_8 : decode cJ6_bitCount_0f7a4 8 = .ok (.isub, 1) := by decide +kernel
theorem dJ6_bitCount_0f7a4_9 : decode cJ6_bitCount_0f7a4 9 = .ok (.istore_n 0, 1) := by decide +kernel
theorem dJ6_bitCount_0f7a4_10 : decode cJ6_bitCount_0f7a4 10 = .ok (.iload_n 0, 1) := by decide +kernel
theorem dJ6_bitCount_0f7a4_11 : decode cJ6_bitCount_0f7a4 11 = .ok (.ldc_w 266, 3) := by decide +kernel
theorem dJ6_bitCount_0f7a4_14 : decode cJ6_bitCount_0f7a4 14 = .ok (.iand, 1) := by decide +kernel
theorem dJ6_bitCount_0f7a4_15 : decode cJ6_bitCount_0f7a4 15 = .ok (.iload_n 0, 1) := by decide +kernel
theorem dJ6_bitCount_0f7a4_16 : decode cJ6_bitCount_0f7a4 16 = .ok (.iconst 2, 1) := by decide +kernel
theorem dJ6_bitCount_0f7a4_17 : decode cJ6_bitCount_0f7a4 17 = .ok (.iushr, 1) := by decide +kernel
theorem dJ6_bitCount_0f7a4_18 : decode cJ6_bitCount_0f7a4 18 = .ok (.ldc_w 266, 3) := by decide +kernel
theorem dJ6_bitCount_0f7a4_21 : decode cJ6_bitCount_0f7a4 21 = .ok (.iand, 1) := by decide +kernel
theorem dJ6_bitCount_0f7a4_22 : decode cJ6_bitCount_0f7a4 22 = .ok (.iadd, 1) := by decide +kernel
theorem dJ6_bitCount_0f7a4_23 : decode cJ6_bitCount_0f7a4 23 = .ok (.istore_n 0, 1) := by decide +kernel
theorem dJ6_bitCount_0f7a4_24 : decode cJ6_bitCount_0f7a4 24 = .ok (.iload_n 0, 1) := by decide +kernel
theorem dJ6_bitCount_0f7a4_25 : decode cJ6_bitCount_0f7a4 25 = .ok (.iload_n 0, 1) := by decide +kernel
theorem dJ6_bitCount_0f7a4_26 : decode cJ6_bitCount_0f7a4 26 = .ok (.iconst 4, 1) := by decide +kernel
theorem dJ6_bitCount_0f7a4_27 : decode cJ6_bitCount_0f7a4 27 = .ok (.iushr, 1) := by decide +kernel
theorem dJ6_bitCount_0f7a4_28 : decode cJ6_bitCount_0f7a4 28 = .ok (.iadd, 1) := by decide +kernel
theorem dJ6_bitCount_0f7a4_29 : decode cJ6_bitCount_0f7a4 29 = .ok (.ldc_w 267, 3) := by decide +kernel
theorem dJ6_bitCount_0f7a4_32 : decode cJ6_bitCount_0f7a4 32 = .ok (.iand, 1) := by decide +kernel
theorem dJ6_bitCount_0f7a4_33 : decode cJ6_bitCount_0f7a4 33 = .ok (.istore_n 0, 1) := by decide +kernel
theorem dJ6_bitCount_0f7a4_34 : decode cJ6_bitCount_0f7a4 34 = .ok (.iload_n 0, 1) := by decide +kernel
theorem dJ6_bitCount_0f7a4_35 : decode cJ6_bitCount_0f7a4 35 = .ok (.iload_n 0, 1) := by decide +kernel
theorem dJ6_bitCount_0f7a4_36 : decode cJ6_bitCount_0f7a4 36 = .ok (.bipush 8, 2) := by decide +kernel
theorem dJ6_bitCount_0f7a4_38 : decode cJ6_bitCount_0f7a4 38 = .ok (.iushr, 1) := by decide +kernel
theorem dJ6_bitCount_0f7a4_39 : decode cJ6_bitCount_0f7a4 39 = .ok (.iadd, 1) := by decide +kernel
theorem dJ6_bitCount_0f7a4_40 : decode cJ6_bitCount_0f7a4 40 = .ok (.istore_n 0, 1) := by decide +kernel
theorem dJ6_bitCount_0f7a4_41 : decode cJ6_bitCount_0f7a4 41 = .ok (.iload_n 0, 1) := by decide +kernel
theorem dJ6_bitCount_0f7a4_42 : decode cJ6_bitCount_0f7a4 42 = .ok (.iload_n 0, 1) := by decide +kernel
theorem dJ6_bitCount_0f7a4_43 : decode cJ6_bitCount_0f7a4 43 = .ok (.bipush 16, 2) := by decide +kernel
theorem dJ6_bitCount_0f7a4_45 : decode cJ6_bitCount_0f7a4 45 = .ok (.iushr, 1) := by decide +kernel
theorem dJ6_bitCount_0f7a4_46 : decode cJ6_bitCount_0f7a4 46 = .ok (.iadd, 1) := by decide +kernel
theorem dJ6_bitCount_0f7a4_47 : decode cJ6_bitCount_0f7a4 47 = .ok (.istore_n 0, 1) := by decide +kernel
theorem dJ6_bitCount_0f7a4_48 : decode cJ6_bitCount_0f7a4 48 = .ok (.iload_n 0, 1) := by decide +kernel
theorem dJ6_bitCount_0f7a4_49 : decode cJ6_bitCount_0f7a4 49 = .ok (.bipush 63, 2) := by decide +kernel
theorem dJ6_bitCount_0f7a4_51 : decode cJ6_bitCount_0f7a4 51 = .ok (.iand, 1) := by decide +kernel
theorem dJ6_bitCount_0f7a4_52 : decode cJ6_bitCount_0f7a4 52 = .ok (.ireturn, 1) := by decide +kernel
theorem dJ9_floorMod_7cf53_0 : decode cJ9_floorMod_7cf53 0 = .ok (.iload_n 0, 1) := by decide +kernel
theorem dJ9_floorMod_7cf53_1 : decode cJ9_floorMod_7cf53 1 = .ok (.iload_n 1, 1) := by decide +kernel
theorem dJ9_floorMod_7cf53_2 : decode cJ9_floorMod_7cf53 2 = .ok (.irem, 1) := by decide +kernel
theorem dJ9_floorMod_7cf53_3 : decode cJ9_floorMod_7cf53 3 = .ok (.istore_n 2, 1) := by decide +kernel
theorem dJ9_floorMod_7cf53_4 : decode cJ9_floorMod_7cf53 4 = .ok (.iload_n 0, 1) := by decide +kernel
theorem dJ9_floorMod_7cf53_5 : decode cJ9_floorMod_7cf53 5 = .ok (.iload_n 1, 1) := by decide +kernel
theorem dJ9_floorMod_7cf53_6 : decode cJ9_floorMod_7cf53 6 = .ok (.ixor, 1) := by decide +kernel
theorem dJ9_floorMod_7cf53_7 : decode cJ9_floorMod_7cf53 7 = .ok (.ifCond .ge 11, 3) := by decide +kernel
theorem dJ9_floorMod_7cf53_10 : decode cJ9_floorMod_7cf53 10 = .ok (.iload_n 2, 1) := by decide +kernel
theorem dJ9_floorMod_7cf53_11 : decode cJ9_floorMod_7cf53 11 = .ok (.ifCond .eq 7, 3) := by decide +kernel
theorem dJ9_floorMod_7cf53_14 : decode cJ9_floorMod_7cf53 14 = .ok (.iload_n 2, 1) := by decide +kernel
theorem dJ9_floorMod_7cf53_15 : decode cJ9_floorMod_7cf53 15 = .ok (.iload_n 1, 1) := by decide +kernel
theorem dJ9_floorMod_7cf53_16 : decode cJ9_floorMod_7cf53 16 = .ok (.iadd, 1) := by decide +kernel
theorem dJ9_floorMod_7cf53_17 : decode cJ9_floorMod_7cf53 17 = .ok (.ireturn, 1) := by decide +kernel
theorem dJ9_floorMod_7cf53_18 : decode cJ9_floorMod_7cf53 18 = .ok (.iload_n 2, 1) := by decide +kernel
theorem dJ9_floorMod_7cf53_19 : decode cJ9_floorMod_7cf53 19 = .ok (.ireturn, 1) := by decide +kernel
