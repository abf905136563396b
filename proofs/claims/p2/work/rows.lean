section
def RX0 : String := "ZMemory$Chance"
def TX0 : u_T := fun k => match k with
  | 0 => ("ZMemory$Chance", "numbers", "[I", true)
  | 1 => ("ZMemory$Chance", "first", "I", false)
  | 2 => ("ZMemory$Chance", "taped", "I", false)
  | 3 => ("ZMemory$Chance", "way", "I", false)
  | 4 => ("ZMemory$Chance", "seed", "I", false)
  | 5 => ("ZMemory$Chance", "counted", "I", false)
  | _ => ("ZMemory$Chance", "round", "I", false)
def tyX0 : Nat → FieldType := fun k => match k with
  | 0 => .array .int
  | 1 => .int
  | 2 => .int
  | 3 => .int
  | 4 => .int
  | 5 => .int
  | _ => .int
abbrev wsX00 : List Cond := u_ws RX0 TX0 7
theorem nmX0 : ∀ a, a < 7 → ∀ b, b < 7 → a ≠ b → (TX0 a).2.1 ≠ (TX0 b).2.1 := by decide +kernel
theorem tyX0_ok : ∀ k, k < 7 → parseFieldDescriptor (TX0 k).2.2.1 = some (tyX0 k) := by decide +kernel
abbrev cX0_init : ByteArray := prog_2_method_1_code
def yX0_init : MethodName := ⟨RX0, "<init>", "()V"⟩
abbrev cX0_record : ByteArray := prog_2_method_2_code
def yX0_record : MethodName := ⟨RX0, "record", "(I)I"⟩
abbrev cX0_draw : ByteArray := prog_2_method_3_code
def yX0_draw : MethodName := ⟨RX0, "draw", "(I)I"⟩
abbrev cX0_next : ByteArray := prog_2_method_4_code
def yX0_next : MethodName := ⟨RX0, "next", "()I"⟩
abbrev cX0_nextOfCount : ByteArray := prog_2_method_5_code
def yX0_nextOfCount : MethodName := ⟨RX0, "nextOfCount", "()I"⟩
abbrev cX0_nextOfTape : ByteArray := prog_2_method_6_code
def yX0_nextOfTape : MethodName := ⟨RX0, "nextOfTape", "()I"⟩
abbrev cX0_nextOfSeed : ByteArray := prog_2_method_7_code
def yX0_nextOfSeed : MethodName := ⟨RX0, "nextOfSeed", "()I"⟩
def RX1 : String := "ZMemory$Frame"
def TX1 : u_T := fun k => match k with
  | 0 => ("ZMemory$Frame", "locals", "[I", true)
  | 1 => ("ZMemory$Frame", "localCount", "I", false)
  | 2 => ("ZMemory$Frame", "routine", "I", false)
  | 3 => ("ZMemory$Frame", "next", "I", false)
  | 4 => ("ZMemory$Frame", "store", "I", false)
  | _ => ("ZMemory$Frame", "floor", "I", false)
def tyX1 : Nat → FieldType := fun k => match k with
  | 0 => .array .int
  | 1 => .int
  | 2 => .int
  | 3 => .int
  | 4 => .int
  | _ => .int
abbrev wsX10 : List Cond := u_ws RX1 TX1 6
theorem nmX1 : ∀ a, a < 6 → ∀ b, b < 6 → a ≠ b → (TX1 a).2.1 ≠ (TX1 b).2.1 := by decide +kernel
theorem tyX1_ok : ∀ k, k < 6 → parseFieldDescriptor (TX1 k).2.2.1 = some (tyX1 k) := by decide +kernel
abbrev cX1_init : ByteArray := prog_3_method_1_code
def yX1_init : MethodName := ⟨RX1, "<init>", "()V"⟩
abbrev cX1_local : ByteArray := prog_3_method_2_code
def yX1_local : MethodName := ⟨RX1, "local", "(I)I"⟩
abbrev cX1_setLocal : ByteArray := prog_3_method_3_code
def yX1_setLocal : MethodName := ⟨RX1, "setLocal", "(II)I"⟩
abbrev cX1_hasLocal : ByteArray := prog_3_method_4_code
def yX1_hasLocal : MethodName := ⟨RX1, "hasLocal", "(I)Z"⟩
def RX2 : String := "ZMemory$Frames"
def TX2 : u_T := fun k => match k with
  | 0 => ("ZMemory$Frames", "frames", "[LZMemory$Frame;", true)
  | 1 => ("ZMemory$Frames", "stack", "[I", true)
  | 2 => ("ZMemory$Frames", "height", "I", false)
  | 3 => ("ZMemory$Frames", "count", "I", false)
  | _ => ("ZMemory$Frames", "most", "I", false)
def tyX2 : Nat → FieldType := fun k => match k with
  | 0 => .array (.object "ZMemory$Frame")
  | 1 => .array .int
  | 2 => .int
  | 3 => .int
  | _ => .int
abbrev wsX20 : List Cond := u_ws RX2 TX2 5
theorem nmX2 : ∀ a, a < 5 → ∀ b, b < 5 → a ≠ b → (TX2 a).2.1 ≠ (TX2 b).2.1 := by decide +kernel
theorem tyX2_ok : ∀ k, k < 5 → parseFieldDescriptor (TX2 k).2.2.1 = some (tyX2 k) := by decide +kernel
abbrev cX2_init : ByteArray := prog_4_method_1_code
def yX2_init : MethodName := ⟨RX2, "<init>", "()V"⟩
abbrev cX2_begin : ByteArray := prog_4_method_2_code
def yX2_begin : MethodName := ⟨RX2, "begin", "()V"⟩
abbrev cX2_top : ByteArray := prog_4_method_3_code
def yX2_top : MethodName := ⟨RX2, "top", "()LZMemory$Frame;"⟩
abbrev cX2_enter : ByteArray := prog_4_method_4_code
def yX2_enter : MethodName := ⟨RX2, "enter", "()LZMemory$Frame;"⟩
abbrev cX2_leave : ByteArray := prog_4_method_5_code
def yX2_leave : MethodName := ⟨RX2, "leave", "()V"⟩
abbrev cX2_pop : ByteArray := prog_4_method_6_code
def yX2_pop : MethodName := ⟨RX2, "pop", "()I"⟩
abbrev cX2_push : ByteArray := prog_4_method_7_code
def yX2_push : MethodName := ⟨RX2, "push", "(I)I"⟩
def RX3 : String := "ZMemory$Memory"
def TX3 : u_T := fun k => match k with
  | 0 => ("ZMemory$Memory", "bytes", "[I", true)
  | 1 => ("ZMemory$Memory", "length", "I", false)
  | _ => ("ZMemory$Memory", "dynamic", "I", false)
def tyX3 : Nat → FieldType := fun k => match k with
  | 0 => .array .int
  | 1 => .int
  | _ => .int
abbrev wsX30 : List Cond := u_ws RX3 TX3 3
theorem nmX3 : ∀ a, a < 3 → ∀ b, b < 3 → a ≠ b → (TX3 a).2.1 ≠ (TX3 b).2.1 := by decide +kernel
theorem tyX3_ok : ∀ k, k < 3 → parseFieldDescriptor (TX3 k).2.2.1 = some (tyX3 k) := by decide +kernel
abbrev cX3_init : ByteArray := prog_5_method_1_code
def yX3_init : MethodName := ⟨RX3, "<init>", "()V"⟩
abbrev cX3_begin : ByteArray := prog_5_method_2_code
def yX3_begin : MethodName := ⟨RX3, "begin", "(II)V"⟩
abbrev cX3_isOutside : ByteArray := prog_5_method_3_code
def yX3_isOutside : MethodName := ⟨RX3, "isOutside", "(I)Z"⟩
abbrev cX3_byteAt : ByteArray := prog_5_method_4_code
def yX3_byteAt : MethodName := ⟨RX3, "byteAt", "(I)I"⟩
abbrev cX3_wordAt : ByteArray := prog_5_method_5_code
def yX3_wordAt : MethodName := ⟨RX3, "wordAt", "(I)I"⟩
abbrev cX3_setByte : ByteArray := prog_5_method_6_code
def yX3_setByte : MethodName := ⟨RX3, "setByte", "(IIZ)I"⟩
abbrev cX3_setWord : ByteArray := prog_5_method_7_code
def yX3_setWord : MethodName := ⟨RX3, "setWord", "(IIZ)I"⟩
abbrev cX3_copyTable : ByteArray := prog_5_method_8_code
def yX3_copyTable : MethodName := ⟨RX3, "copyTable", "(III)I"⟩
abbrev cX3_wipe : ByteArray := prog_5_method_9_code
def yX3_wipe : MethodName := ⟨RX3, "wipe", "(II)I"⟩
abbrev cX3_copyAtOnce : ByteArray := prog_5_method_10_code
def yX3_copyAtOnce : MethodName := ⟨RX3, "copyAtOnce", "(III)I"⟩
abbrev cX3_copyInTurn : ByteArray := prog_5_method_11_code
def yX3_copyInTurn : MethodName := ⟨RX3, "copyInTurn", "(III)I"⟩
abbrev cX3_find : ByteArray := prog_5_method_12_code
def yX3_find : MethodName := ⟨RX3, "find", "(IIII)I"⟩
def RX4 : String := "ZMemory$Page"
def TX4 : u_T := fun k => match k with
  | 0 => ("ZMemory$Page", "characters", "[I", true)
  | _ => ("ZMemory$Page", "length", "I", false)
def tyX4 : Nat → FieldType := fun k => match k with
  | 0 => .array .int
  | _ => .int
abbrev wsX40 : List Cond := u_ws RX4 TX4 2
theorem nmX4 : ∀ a, a < 2 → ∀ b, b < 2 → a ≠ b → (TX4 a).2.1 ≠ (TX4 b).2.1 := by decide +kernel
theorem tyX4_ok : ∀ k, k < 2 → parseFieldDescriptor (TX4 k).2.2.1 = some (tyX4 k) := by decide +kernel
abbrev cX4_init : ByteArray := prog_6_method_1_code
def yX4_init : MethodName := ⟨RX4, "<init>", "()V"⟩
abbrev cX4_characterAt : ByteArray := prog_6_method_2_code
def yX4_characterAt : MethodName := ⟨RX4, "characterAt", "(I)I"⟩
abbrev cX4_print : ByteArray := prog_6_method_3_code
def yX4_print : MethodName := ⟨RX4, "print", "(I)I"⟩
abbrev cX4_printNumber : ByteArray := prog_6_method_4_code
def yX4_printNumber : MethodName := ⟨RX4, "printNumber", "(I)I"⟩
def RX5 : String := "ZMemory$Program"
def TX5 : u_T := fun k => match k with
  | 0 => ("ZMemory$Program", "ops", "[I", true)
  | 1 => ("ZMemory$Program", "operands", "[I", true)
  | 2 => ("ZMemory$Program", "stores", "[I", true)
  | 3 => ("ZMemory$Program", "length", "I", false)
  | 4 => ("ZMemory$Program", "defined", "[Z", true)
  | 5 => ("ZMemory$Program", "starts", "[I", true)
  | 6 => ("ZMemory$Program", "locals", "[I", true)
  | _ => ("ZMemory$Program", "guards", "[Z", true)
def tyX5 : Nat → FieldType := fun k => match k with
  | 0 => .array .int
  | 1 => .array .int
  | 2 => .array .int
  | 3 => .int
  | 4 => .array .boolean
  | 5 => .array .int
  | 6 => .array .int
  | _ => .array .boolean
abbrev wsX50 : List Cond := u_ws RX5 TX5 8
theorem nmX5 : ∀ a, a < 8 → ∀ b, b < 8 → a ≠ b → (TX5 a).2.1 ≠ (TX5 b).2.1 := by decide +kernel
theorem tyX5_ok : ∀ k, k < 8 → parseFieldDescriptor (TX5 k).2.2.1 = some (tyX5 k) := by decide +kernel
abbrev cX5_init : ByteArray := prog_7_method_1_code
def yX5_init : MethodName := ⟨RX5, "<init>", "()V"⟩
abbrev cX5_append : ByteArray := prog_7_method_2_code
def yX5_append : MethodName := ⟨RX5, "append", "(IIIII)I"⟩
abbrev cX5_define : ByteArray := prog_7_method_3_code
def yX5_define : MethodName := ⟨RX5, "define", "(IIIZ)V"⟩
abbrev cX5_forget : ByteArray := prog_7_method_4_code
def yX5_forget : MethodName := ⟨RX5, "forget", "()I"⟩
abbrev cX5_opAt : ByteArray := prog_7_method_5_code
def yX5_opAt : MethodName := ⟨RX5, "opAt", "(I)I"⟩
abbrev cX5_hasRoutine : ByteArray := prog_7_method_6_code
def yX5_hasRoutine : MethodName := ⟨RX5, "hasRoutine", "(I)Z"⟩
def RX6 : String := "ZMemory$Runner"
def TX6 : u_T := fun k => match k with
  | 0 => ("ZMemory$Runner", "memory", "LZMemory$Memory;", true)
  | 1 => ("ZMemory$Runner", "chance", "LZMemory$Chance;", true)
  | 2 => ("ZMemory$Runner", "program", "LZMemory$Program;", true)
  | 3 => ("ZMemory$Runner", "frames", "LZMemory$Frames;", true)
  | 4 => ("ZMemory$Runner", "page", "LZMemory$Page;", true)
  | 5 => ("ZMemory$Runner", "leavings", "[I", true)
  | 6 => ("ZMemory$Runner", "values", "[I", true)
  | 7 => ("ZMemory$Runner", "globe", "I", false)
  | 8 => ("ZMemory$Runner", "form", "I", false)
  | 9 => ("ZMemory$Runner", "ending", "I", false)
  | 10 => ("ZMemory$Runner", "steps", "I", false)
  | 11 => ("ZMemory$Runner", "mishaps", "I", false)
  | 12 => ("ZMemory$Runner", "returned", "I", false)
  | 13 => ("ZMemory$Runner", "unguarded", "I", false)
  | 14 => ("ZMemory$Runner", "guarded", "I", false)
  | 15 => ("ZMemory$Runner", "arrived", "I", false)
  | _ => ("ZMemory$Runner", "store", "I", false)
def tyX6 : Nat → FieldType := fun k => match k with
  | 0 => .object "ZMemory$Memory"
  | 1 => .object "ZMemory$Chance"
  | 2 => .object "ZMemory$Program"
  | 3 => .object "ZMemory$Frames"
  | 4 => .object "ZMemory$Page"
  | 5 => .array .int
  | 6 => .array .int
  | 7 => .int
  | 8 => .int
  | 9 => .int
  | 10 => .int
  | 11 => .int
  | 12 => .int
  | 13 => .int
  | 14 => .int
  | 15 => .int
  | _ => .int
abbrev wsX60 : List Cond := u_ws RX6 TX6 17
theorem nmX6 : ∀ a, a < 17 → ∀ b, b < 17 → a ≠ b → (TX6 a).2.1 ≠ (TX6 b).2.1 := by decide +kernel
theorem tyX6_ok : ∀ k, k < 17 → parseFieldDescriptor (TX6 k).2.2.1 = some (tyX6 k) := by decide +kernel
abbrev cX6_init : ByteArray := prog_8_method_1_code
def yX6_init : MethodName := ⟨RX6, "<init>", "(LZMemory$Memory;LZMemory$Chance;LZMemory$Program;)V"⟩
abbrev cX6_begin : ByteArray := prog_8_method_2_code
def yX6_begin : MethodName := ⟨RX6, "begin", "(III)V"⟩
abbrev cX6_isGoing : ByteArray := prog_8_method_3_code
def yX6_isGoing : MethodName := ⟨RX6, "isGoing", "()Z"⟩
abbrev cX6_finish : ByteArray := prog_8_method_4_code
def yX6_finish : MethodName := ⟨RX6, "finish", "()I"⟩
abbrev cX6_step : ByteArray := prog_8_method_5_code
def yX6_step : MethodName := ⟨RX6, "step", "()I"⟩
abbrev cX6_settle : ByteArray := prog_8_method_6_code
def yX6_settle : MethodName := ⟨RX6, "settle", "(I)V"⟩
abbrev cX6_keep : ByteArray := prog_8_method_7_code
def yX6_keep : MethodName := ⟨RX6, "keep", "(I)I"⟩
abbrev cX6_carryOut : ByteArray := prog_8_method_8_code
def yX6_carryOut : MethodName := ⟨RX6, "carryOut", "(IIIII)I"⟩
abbrev cX6_tell : ByteArray := prog_8_method_9_code
def yX6_tell : MethodName := ⟨RX6, "tell", "(II)I"⟩
abbrev cX6_end : ByteArray := prog_8_method_10_code
def yX6_end : MethodName := ⟨RX6, "end", "(I)I"⟩
abbrev cX6_goOnIf : ByteArray := prog_8_method_11_code
def yX6_goOnIf : MethodName := ⟨RX6, "goOnIf", "(ZI)I"⟩
abbrev cX6_change : ByteArray := prog_8_method_12_code
def yX6_change : MethodName := ⟨RX6, "change", "(II)I"⟩
abbrev cX6_ask : ByteArray := prog_8_method_13_code
def yX6_ask : MethodName := ⟨RX6, "ask", "(I)I"⟩
abbrev cX6_set : ByteArray := prog_8_method_14_code
def yX6_set : MethodName := ⟨RX6, "set", "(II)I"⟩
abbrev cX6_placeOfGlobal : ByteArray := prog_8_method_15_code
def yX6_placeOfGlobal : MethodName := ⟨RX6, "placeOfGlobal", "(I)I"⟩
abbrev cX6_enter : ByteArray := prog_8_method_16_code
def yX6_enter : MethodName := ⟨RX6, "enter", "(IIII)I"⟩
abbrev cX6_giveBack : ByteArray := prog_8_method_17_code
def yX6_giveBack : MethodName := ⟨RX6, "giveBack", "(I)I"⟩
abbrev cX6_leaveDownTo : ByteArray := prog_8_method_18_code
def yX6_leaveDownTo : MethodName := ⟨RX6, "leaveDownTo", "(I)V"⟩
abbrev cX6_throwTo : ByteArray := prog_8_method_19_code
def yX6_throwTo : MethodName := ⟨RX6, "throwTo", "(II)I"⟩
abbrev cX6_raise : ByteArray := prog_8_method_20_code
def yX6_raise : MethodName := ⟨RX6, "raise", "(I)I"⟩
abbrev cX6_printRows : ByteArray := prog_8_method_21_code
def yX6_printRows : MethodName := ⟨RX6, "printRows", "(III)I"⟩
def RX7 : String := "ZMemory"
def TX7 : u_T := fun k => match k with
  | 0 => ("ZMemory", "memory", "LZMemory$Memory;", true)
  | 1 => ("ZMemory", "chance", "LZMemory$Chance;", true)
  | 2 => ("ZMemory", "program", "LZMemory$Program;", true)
  | _ => ("ZMemory", "runner", "LZMemory$Runner;", true)
def tyX7 : Nat → FieldType := fun k => match k with
  | 0 => .object "ZMemory$Memory"
  | 1 => .object "ZMemory$Chance"
  | 2 => .object "ZMemory$Program"
  | _ => .object "ZMemory$Runner"
abbrev wsX70 : List Cond := u_ws RX7 TX7 4
theorem nmX7 : ∀ a, a < 4 → ∀ b, b < 4 → a ≠ b → (TX7 a).2.1 ≠ (TX7 b).2.1 := by decide +kernel
theorem tyX7_ok : ∀ k, k < 4 → parseFieldDescriptor (TX7 k).2.2.1 = some (tyX7 k) := by decide +kernel
abbrev cX7_init : ByteArray := prog_1_method_1_code
def yX7_init : MethodName := ⟨RX7, "<init>", "()V"⟩
abbrev cX7_size : ByteArray := prog_1_method_2_code
def yX7_size : MethodName := ⟨RX7, "size", "(II)I"⟩
abbrev cX7_get : ByteArray := prog_1_method_3_code
def yX7_get : MethodName := ⟨RX7, "get", "(IZ)I"⟩
abbrev cX7_put : ByteArray := prog_1_method_4_code
def yX7_put : MethodName := ⟨RX7, "put", "(IIZZ)I"⟩
abbrev cX7_work : ByteArray := prog_1_method_5_code
def yX7_work : MethodName := ⟨RX7, "work", "(III)I"⟩
abbrev cX7_copy : ByteArray := prog_1_method_6_code
def yX7_copy : MethodName := ⟨RX7, "copy", "(III)I"⟩
abbrev cX7_look : ByteArray := prog_1_method_7_code
def yX7_look : MethodName := ⟨RX7, "look", "(IIII)I"⟩
abbrev cX7_random : ByteArray := prog_1_method_8_code
def yX7_random : MethodName := ⟨RX7, "random", "(I)I"⟩
abbrev cX7_tape : ByteArray := prog_1_method_9_code
def yX7_tape : MethodName := ⟨RX7, "tape", "(I)I"⟩
abbrev cX7_globe : ByteArray := prog_1_method_10_code
def yX7_globe : MethodName := ⟨RX7, "globe", "(I)I"⟩
abbrev cX7_form : ByteArray := prog_1_method_11_code
def yX7_form : MethodName := ⟨RX7, "form", "(I)I"⟩
abbrev cX7_instruction : ByteArray := prog_1_method_12_code
def yX7_instruction : MethodName := ⟨RX7, "instruction", "(IIIII)I"⟩
abbrev cX7_routine : ByteArray := prog_1_method_13_code
def yX7_routine : MethodName := ⟨RX7, "routine", "(IIIZ)I"⟩
abbrev cX7_clear : ByteArray := prog_1_method_14_code
def yX7_clear : MethodName := ⟨RX7, "clear", "()I"⟩
abbrev cX7_run : ByteArray := prog_1_method_15_code
def yX7_run : MethodName := ⟨RX7, "run", "(III)I"⟩
abbrev cX7_told : ByteArray := prog_1_method_16_code
def yX7_told : MethodName := ⟨RX7, "told", "(I)I"⟩
abbrev cX7_printed : ByteArray := prog_1_method_17_code
def yX7_printed : MethodName := ⟨RX7, "printed", "(I)I"⟩
abbrev cX7_left : ByteArray := prog_1_method_18_code
def yX7_left : MethodName := ⟨RX7, "left", "(I)I"⟩
abbrev cX7_isWithin : ByteArray := prog_1_method_19_code
def yX7_isWithin : MethodName := ⟨RX7, "isWithin", "(II)Z"⟩
abbrev cX7_isOperand : ByteArray := prog_1_method_20_code
def yX7_isOperand : MethodName := ⟨RX7, "isOperand", "(I)Z"⟩
abbrev cX7_word : ByteArray := prog_1_method_21_code
def yX7_word : MethodName := ⟨RX7, "word", "(I)I"⟩
abbrev cX7_number : ByteArray := prog_1_method_22_code
def yX7_number : MethodName := ⟨RX7, "number", "(I)I"⟩
abbrev cX7_arithmetic : ByteArray := prog_1_method_23_code
def yX7_arithmetic : MethodName := ⟨RX7, "arithmetic", "(III)I"⟩
abbrev cX7_shiftNumber : ByteArray := prog_1_method_24_code
def yX7_shiftNumber : MethodName := ⟨RX7, "shiftNumber", "(II)I"⟩
abbrev cX7_shiftBits : ByteArray := prog_1_method_25_code
def yX7_shiftBits : MethodName := ⟨RX7, "shiftBits", "(II)I"⟩
def RX8 : String := "ZMemoryModel"
def TX8 : u_T := fun k => match k with
  | 0 => ("ZMemoryModel", "code", "I", false)
  | 1 => ("ZMemoryModel", "bytes", "[I", true)
  | 2 => ("ZMemoryModel", "size", "I", false)
  | 3 => ("ZMemoryModel", "dynamic", "I", false)
  | 4 => ("ZMemoryModel", "globe", "I", false)
  | 5 => ("ZMemoryModel", "form", "I", false)
  | 6 => ("ZMemoryModel", "way", "I", false)
  | 7 => ("ZMemoryModel", "seed", "I", false)
  | 8 => ("ZMemoryModel", "round", "I", false)
  | 9 => ("ZMemoryModel", "count", "I", false)
  | 10 => ("ZMemoryModel", "tape", "[I", true)
  | 11 => ("ZMemoryModel", "taped", "I", false)
  | 12 => ("ZMemoryModel", "fault", "I", false)
  | 13 => ("ZMemoryModel", "moved", "[I", true)
  | 14 => ("ZMemoryModel", "many", "I", false)
  | 15 => ("ZMemoryModel", "ops", "[I", true)
  | 16 => ("ZMemoryModel", "operands", "[I", true)
  | 17 => ("ZMemoryModel", "stores", "[I", true)
  | 18 => ("ZMemoryModel", "isRoutine", "[Z", true)
  | 19 => ("ZMemoryModel", "begins", "[I", true)
  | 20 => ("ZMemoryModel", "locals", "[I", true)
  | 21 => ("ZMemoryModel", "isGuarded", "[Z", true)
  | 22 => ("ZMemoryModel", "frames", "I", false)
  | 23 => ("ZMemoryModel", "frameRoutine", "[I", true)
  | 24 => ("ZMemoryModel", "framePlace", "[I", true)
  | 25 => ("ZMemoryModel", "frameStore", "[I", true)
  | 26 => ("ZMemoryModel", "frameBase", "[I", true)
  | 27 => ("ZMemoryModel", "frameLocals", "[I", true)
  | 28 => ("ZMemoryModel", "stack", "[I", true)
  | 29 => ("ZMemoryModel", "high", "I", false)
  | 30 => ("ZMemoryModel", "prints", "[I", true)
  | 31 => ("ZMemoryModel", "printed", "I", false)
  | 32 => ("ZMemoryModel", "lefts", "[I", true)
  | 33 => ("ZMemoryModel", "steps", "I", false)
  | 34 => ("ZMemoryModel", "returned", "I", false)
  | 35 => ("ZMemoryModel", "unguarded", "I", false)
  | 36 => ("ZMemoryModel", "guarded", "I", false)
  | 37 => ("ZMemoryModel", "throwsCame", "I", false)
  | 38 => ("ZMemoryModel", "deepest", "I", false)
  | 39 => ("ZMemoryModel", "counted", "I", false)
  | _ => ("ZMemoryModel", "end", "I", false)
def tyX8 : Nat → FieldType := fun k => match k with
  | 0 => .int
  | 1 => .array .int
  | 2 => .int
  | 3 => .int
  | 4 => .int
  | 5 => .int
  | 6 => .int
  | 7 => .int
  | 8 => .int
  | 9 => .int
  | 10 => .array .int
  | 11 => .int
  | 12 => .int
  | 13 => .array .int
  | 14 => .int
  | 15 => .array .int
  | 16 => .array .int
  | 17 => .array .int
  | 18 => .array .boolean
  | 19 => .array .int
  | 20 => .array .int
  | 21 => .array .boolean
  | 22 => .int
  | 23 => .array .int
  | 24 => .array .int
  | 25 => .array .int
  | 26 => .array .int
  | 27 => .array .int
  | 28 => .array .int
  | 29 => .int
  | 30 => .array .int
  | 31 => .int
  | 32 => .array .int
  | 33 => .int
  | 34 => .int
  | 35 => .int
  | 36 => .int
  | 37 => .int
  | 38 => .int
  | 39 => .int
  | _ => .int
abbrev wsX80 : List Cond := u_ws RX8 TX8 41
theorem nmX8 : ∀ a, a < 41 → ∀ b, b < 41 → a ≠ b → (TX8 a).2.1 ≠ (TX8 b).2.1 := by decide +kernel
theorem tyX8_ok : ∀ k, k < 41 → parseFieldDescriptor (TX8 k).2.2.1 = some (tyX8 k) := by decide +kernel
abbrev cX8_init : ByteArray := prog_10_method_1_code
def yX8_init : MethodName := ⟨RX8, "<init>", "()V"⟩
abbrev cX8_signed : ByteArray := prog_10_method_3_code
def yX8_signed : MethodName := ⟨RX8, "signed", "(I)I"⟩
abbrev cX8_isThere : ByteArray := prog_10_method_4_code
def yX8_isThere : MethodName := ⟨RX8, "isThere", "(II)Z"⟩
abbrev cX8_read : ByteArray := prog_10_method_5_code
def yX8_read : MethodName := ⟨RX8, "read", "(IZ)I"⟩
abbrev cX8_write : ByteArray := prog_10_method_6_code
def yX8_write : MethodName := ⟨RX8, "write", "(IIZZ)V"⟩
abbrev cX8_size : ByteArray := prog_10_method_7_code
def yX8_size : MethodName := ⟨RX8, "size", "(II)I"⟩
abbrev cX8_get : ByteArray := prog_10_method_8_code
def yX8_get : MethodName := ⟨RX8, "get", "(IZ)I"⟩
abbrev cX8_put : ByteArray := prog_10_method_9_code
def yX8_put : MethodName := ⟨RX8, "put", "(IIZZ)I"⟩
abbrev cX8_worked : ByteArray := prog_10_method_10_code
def yX8_worked : MethodName := ⟨RX8, "worked", "(III)I"⟩
abbrev cX8_shifted : ByteArray := prog_10_method_11_code
def yX8_shifted : MethodName := ⟨RX8, "shifted", "(ZII)I"⟩
abbrev cX8_work : ByteArray := prog_10_method_12_code
def yX8_work : MethodName := ⟨RX8, "work", "(III)I"⟩
abbrev cX8_copied : ByteArray := prog_10_method_13_code
def yX8_copied : MethodName := ⟨RX8, "copied", "(III)V"⟩
abbrev cX8_copy : ByteArray := prog_10_method_14_code
def yX8_copy : MethodName := ⟨RX8, "copy", "(III)I"⟩
abbrev cX8_looked : ByteArray := prog_10_method_15_code
def yX8_looked : MethodName := ⟨RX8, "looked", "(IIII)I"⟩
abbrev cX8_look : ByteArray := prog_10_method_16_code
def yX8_look : MethodName := ⟨RX8, "look", "(IIII)I"⟩
abbrev cX8_drawn : ByteArray := prog_10_method_17_code
def yX8_drawn : MethodName := ⟨RX8, "drawn", "(I)I"⟩
abbrev cX8_random : ByteArray := prog_10_method_18_code
def yX8_random : MethodName := ⟨RX8, "random", "(I)I"⟩
abbrev cX8_tape : ByteArray := prog_10_method_19_code
def yX8_tape : MethodName := ⟨RX8, "tape", "(I)I"⟩
abbrev cX8_globe : ByteArray := prog_10_method_20_code
def yX8_globe : MethodName := ⟨RX8, "globe", "(I)I"⟩
abbrev cX8_form : ByteArray := prog_10_method_21_code
def yX8_form : MethodName := ⟨RX8, "form", "(I)I"⟩
abbrev cX8_instruction : ByteArray := prog_10_method_22_code
def yX8_instruction : MethodName := ⟨RX8, "instruction", "(IIIII)I"⟩
abbrev cX8_routine : ByteArray := prog_10_method_23_code
def yX8_routine : MethodName := ⟨RX8, "routine", "(IIIZ)I"⟩
abbrev cX8_clear : ByteArray := prog_10_method_24_code
def yX8_clear : MethodName := ⟨RX8, "clear", "()I"⟩
abbrev cX8_top : ByteArray := prog_10_method_25_code
def yX8_top : MethodName := ⟨RX8, "top", "()I"⟩
abbrev cX8_pop : ByteArray := prog_10_method_26_code
def yX8_pop : MethodName := ⟨RX8, "pop", "()I"⟩
abbrev cX8_push : ByteArray := prog_10_method_27_code
def yX8_push : MethodName := ⟨RX8, "push", "(I)V"⟩
abbrev cX8_isLocal : ByteArray := prog_10_method_28_code
def yX8_isLocal : MethodName := ⟨RX8, "isLocal", "(I)Z"⟩
abbrev cX8_ask : ByteArray := prog_10_method_29_code
def yX8_ask : MethodName := ⟨RX8, "ask", "(I)I"⟩
abbrev cX8_set : ByteArray := prog_10_method_30_code
def yX8_set : MethodName := ⟨RX8, "set", "(II)V"⟩
abbrev cX8_more : ByteArray := prog_10_method_31_code
def yX8_more : MethodName := ⟨RX8, "more", "(II)V"⟩
abbrev cX8_wants : ByteArray := prog_10_method_32_code
def yX8_wants : MethodName := ⟨RX8, "wants", "(I)I"⟩
abbrev cX8_print : ByteArray := prog_10_method_33_code
def yX8_print : MethodName := ⟨RX8, "print", "(I)V"⟩
abbrev cX8_printNumber : ByteArray := prog_10_method_34_code
def yX8_printNumber : MethodName := ⟨RX8, "printNumber", "(I)V"⟩
abbrev cX8_printRows : ByteArray := prog_10_method_35_code
def yX8_printRows : MethodName := ⟨RX8, "printRows", "(III)V"⟩
abbrev cX8_enter : ByteArray := prog_10_method_36_code
def yX8_enter : MethodName := ⟨RX8, "enter", "(IIII)V"⟩
abbrev cX8_leave : ByteArray := prog_10_method_37_code
def yX8_leave : MethodName := ⟨RX8, "leave", "()V"⟩
abbrev cX8_back : ByteArray := prog_10_method_38_code
def yX8_back : MethodName := ⟨RX8, "back", "(I)V"⟩
abbrev cX8_act : ByteArray := prog_10_method_39_code
def yX8_act : MethodName := ⟨RX8, "act", "(IIIII)V"⟩
abbrev cX8_throwTo : ByteArray := prog_10_method_40_code
def yX8_throwTo : MethodName := ⟨RX8, "throwTo", "(II)V"⟩
abbrev cX8_step : ByteArray := prog_10_method_41_code
def yX8_step : MethodName := ⟨RX8, "step", "()V"⟩
abbrev cX8_up : ByteArray := prog_10_method_42_code
def yX8_up : MethodName := ⟨RX8, "up", "()V"⟩
abbrev cX8_run : ByteArray := prog_10_method_43_code
def yX8_run : MethodName := ⟨RX8, "run", "(III)I"⟩
abbrev cX8_told : ByteArray := prog_10_method_44_code
def yX8_told : MethodName := ⟨RX8, "told", "(I)I"⟩
abbrev cX8_printed : ByteArray := prog_10_method_45_code
def yX8_printed : MethodName := ⟨RX8, "printed", "(I)I"⟩
abbrev cX8_left : ByteArray := prog_10_method_46_code
def yX8_left : MethodName := ⟨RX8, "left", "(I)I"⟩
def RJ9 : String := "java/lang/Math"
def TJ9 : u_T := fun k => match k with
  | _ => ("", "", "", false)
def tyJ9 : Nat → FieldType := fun k => match k with
  | _ => .int
abbrev wsJ90 : List Cond := u_ws RJ9 TJ9 0
theorem nmJ9 : ∀ a, a < 0 → ∀ b, b < 0 → a ≠ b → (TJ9 a).2.1 ≠ (TJ9 b).2.1 := by decide +kernel
theorem tyJ9_ok : ∀ k, k < 0 → parseFieldDescriptor (TJ9 k).2.2.1 = some (tyJ9 k) := by decide +kernel
abbrev cJ9_abs_0f7a4 : ByteArray := prog_15_method_59_code
def yJ9_abs_0f7a4 : MethodName := ⟨RJ9, "abs", "(I)I"⟩
abbrev cJ9_max_7cf53 : ByteArray := prog_15_method_65_code
def yJ9_max_7cf53 : MethodName := ⟨RJ9, "max", "(II)I"⟩
abbrev cJ9_min_7cf53 : ByteArray := prog_15_method_69_code
def yJ9_min_7cf53 : MethodName := ⟨RJ9, "min", "(II)I"⟩
def RJ0 : String := "java/lang/String"
def TJ0 : u_T := fun k => match k with
  | _ => ("", "", "", false)
def tyJ0 : Nat → FieldType := fun k => match k with
  | _ => .int
abbrev wsJ00 : List Cond := u_ws RJ0 TJ0 0
theorem nmJ0 : ∀ a, a < 0 → ∀ b, b < 0 → a ≠ b → (TJ0 a).2.1 ≠ (TJ0 b).2.1 := by decide +kernel
theorem tyJ0_ok : ∀ k, k < 0 → parseFieldDescriptor (TJ0 k).2.2.1 = some (tyJ0 k) := by decide +kernel
def RJ10 : String := "java/lang/System"
def TJ10 : u_T := fun k => match k with
  | _ => ("", "", "", false)
def tyJ10 : Nat → FieldType := fun k => match k with
  | _ => .int
abbrev wsJ100 : List Cond := u_ws RJ10 TJ10 0
theorem nmJ10 : ∀ a, a < 0 → ∀ b, b < 0 → a ≠ b → (TJ10 a).2.1 ≠ (TJ10 b).2.1 := by decide +kernel
theorem tyJ10_ok : ∀ k, k < 0 → parseFieldDescriptor (TJ10 k).2.2.1 = some (tyJ10 k) := by decide +kernel
def RJ7 : String := "java/util/Arrays"
def TJ7 : u_T := fun k => match k with
  | _ => ("", "", "", false)
def tyJ7 : Nat → FieldType := fun k => match k with
  | _ => .int
abbrev wsJ70 : List Cond := u_ws RJ7 TJ7 0
theorem nmJ7 : ∀ a, a < 0 → ∀ b, b < 0 → a ≠ b → (TJ7 a).2.1 ≠ (TJ7 b).2.1 := by decide +kernel
theorem tyJ7_ok : ∀ k, k < 0 → parseFieldDescriptor (TJ7 k).2.2.1 = some (tyJ7 k) := by decide +kernel
abbrev cJ7_fill_53178 : ByteArray := prog_20_method_103_code
def yJ7_fill_53178 : MethodName := ⟨RJ7, "fill", "([II)V"⟩
def RL : String := "ZMemoryLaw"
abbrev cL_work : ByteArray := method_3_code
def yL_work : MethodName := ⟨RL, "work", "(LZMemory;III[J)I"⟩
abbrev cL_printed : ByteArray := method_4_code
def yL_printed : MethodName := ⟨RL, "printed", "(LZMemory;I[J)I"⟩
abbrev cL_law : ByteArray := code
def yL_law : MethodName := ⟨RL, "law", "([I)Z"⟩
def wsL_law0_r1 : List Cond := [Cond.classLink RL 8 RX7, Cond.instantiable RX7 4, Cond.initialized RX7, Cond.classLink RL 24 RX8, Cond.instantiable RX8 41, Cond.initialized RX8, Cond.arrayClass .long, Cond.methodLink RL 23 yX7_init, Cond.instanceMethod yX7_init, Cond.code yX7_init cX7_init 1 none, Cond.methodLink RX7 3 objectInit, Cond.instanceMethod objectInit, Cond.code objectInit ⟨#[0xb1]⟩ 1 none, Cond.classLink RX7 9 RX3, Cond.instantiable RX3 3, Cond.initialized RX3, Cond.fieldLink RX7 12 "ZMemory" "memory" "LZMemory$Memory;", Cond.classLink RX7 16 RX0, Cond.instantiable RX0 7, Cond.initialized RX0, Cond.fieldLink RX7 19 "ZMemory" "chance" "LZMemory$Chance;", Cond.classLink RX7 23 RX5, Cond.instantiable RX5 8, Cond.initialized RX5]
def wsL_law0_r2 : List Cond := [Cond.fieldLink RX7 26 "ZMemory" "program" "LZMemory$Program;", Cond.classLink RX7 30 RX6, Cond.instantiable RX6 17, Cond.initialized RX6, Cond.fieldLink RX7 35 "ZMemory" "runner" "LZMemory$Runner;", Cond.instanceMethod yX3_init, Cond.code yX3_init cX3_init 1 none, Cond.methodLink RX3 3 objectInit, Cond.arrayClass .int, Cond.fieldLink RX3 9 "ZMemory$Memory" "bytes" "[I", Cond.instanceMethod yX0_init, Cond.code yX0_init cX0_init 1 none, Cond.methodLink RX0 3 objectInit, Cond.fieldLink RX0 9 "ZMemory$Chance" "numbers" "[I", Cond.fieldLink RX0 15 "ZMemory$Chance" "way" "I", Cond.fieldLink RX0 19 "ZMemory$Chance" "seed" "I", Cond.instanceMethod yX5_init, Cond.code yX5_init cX5_init 1 none, Cond.methodLink RX5 3 objectInit, Cond.fieldLink RX5 9 "ZMemory$Program" "ops" "[I", Cond.fieldLink RX5 15 "ZMemory$Program" "operands" "[I", Cond.fieldLink RX5 18 "ZMemory$Program" "stores" "[I", Cond.arrayClass .boolean, Cond.fieldLink RX5 21 "ZMemory$Program" "defined" "[Z"]
def wsL_law0_r3 : List Cond := [Cond.fieldLink RX5 25 "ZMemory$Program" "starts" "[I", Cond.fieldLink RX5 28 "ZMemory$Program" "locals" "[I", Cond.fieldLink RX5 31 "ZMemory$Program" "guards" "[Z", Cond.methodLink RX7 32 yX6_init, Cond.instanceMethod yX6_init, Cond.code yX6_init cX6_init 4 none, Cond.methodLink RX6 3 objectInit, Cond.classLink RX6 9 RX2, Cond.instantiable RX2 5, Cond.initialized RX2, Cond.fieldLink RX6 12 "ZMemory$Runner" "frames" "LZMemory$Frames;", Cond.classLink RX6 18 RX4, Cond.instantiable RX4 2, Cond.initialized RX4, Cond.fieldLink RX6 21 "ZMemory$Runner" "page" "LZMemory$Page;", Cond.fieldLink RX6 25 "ZMemory$Runner" "leavings" "[I", Cond.fieldLink RX6 29 "ZMemory$Runner" "values" "[I", Cond.fieldLink RX6 32 "ZMemory$Runner" "form" "I", Cond.fieldLink RX6 36 "ZMemory$Runner" "memory" "LZMemory$Memory;", Cond.fieldLink RX6 40 "ZMemory$Runner" "chance" "LZMemory$Chance;", Cond.fieldLink RX6 44 "ZMemory$Runner" "program" "LZMemory$Program;", Cond.methodLink RX6 11 yX2_init, Cond.instanceMethod yX2_init, Cond.code yX2_init cX2_init 2 none]
def wsL_law0_r4 : List Cond := [Cond.methodLink RX2 3 objectInit, Cond.classLink RX2 9 RX1, Cond.fieldLink RX2 11 "ZMemory$Frames" "frames" "[LZMemory$Frame;", Cond.fieldLink RX2 17 "ZMemory$Frames" "stack" "[I", Cond.instantiable RX1 6, Cond.initialized RX1, Cond.instanceMethod yX1_init, Cond.code yX1_init cX1_init 1 none, Cond.methodLink RX1 3 objectInit, Cond.fieldLink RX1 9 "ZMemory$Frame" "locals" "[I", Cond.instanceMethod yX4_init, Cond.code yX4_init cX4_init 1 none, Cond.methodLink RX4 3 objectInit, Cond.fieldLink RX4 9 "ZMemory$Page" "characters" "[I", Cond.methodLink RL 26 yX8_init, Cond.instanceMethod yX8_init, Cond.code yX8_init cX8_init 1 none, Cond.methodLink RX8 1 objectInit, Cond.fieldLink RX8 7 "ZMemoryModel" "bytes" "[I", Cond.fieldLink RX8 13 "ZMemoryModel" "form" "I", Cond.fieldLink RX8 17 "ZMemoryModel" "seed" "I", Cond.fieldLink RX8 20 "ZMemoryModel" "tape" "[I", Cond.fieldLink RX8 23 "ZMemoryModel" "moved" "[I", Cond.fieldLink RX8 26 "ZMemoryModel" "ops" "[I"]
def wsL_law0_r5 : List Cond := [Cond.fieldLink RX8 29 "ZMemoryModel" "operands" "[I", Cond.fieldLink RX8 32 "ZMemoryModel" "stores" "[I", Cond.fieldLink RX8 35 "ZMemoryModel" "isRoutine" "[Z", Cond.fieldLink RX8 39 "ZMemoryModel" "begins" "[I", Cond.fieldLink RX8 42 "ZMemoryModel" "locals" "[I", Cond.fieldLink RX8 45 "ZMemoryModel" "isGuarded" "[Z", Cond.fieldLink RX8 48 "ZMemoryModel" "frameRoutine" "[I", Cond.fieldLink RX8 51 "ZMemoryModel" "framePlace" "[I", Cond.fieldLink RX8 54 "ZMemoryModel" "frameStore" "[I", Cond.fieldLink RX8 57 "ZMemoryModel" "frameBase" "[I", Cond.fieldLink RX8 60 "ZMemoryModel" "frameLocals" "[I", Cond.fieldLink RX8 63 "ZMemoryModel" "stack" "[I", Cond.fieldLink RX8 66 "ZMemoryModel" "prints" "[I", Cond.fieldLink RX8 69 "ZMemoryModel" "lefts" "[I", Cond.methodLink RL 27 yX7_size, Cond.instanceMethod yX7_size, Cond.selects RX7 yX7_size yX7_size, Cond.code yX7_size cX7_size 3 (some .int), Cond.methodLink RX7 39 yX3_begin, Cond.instanceMethod yX3_begin, Cond.selects RX3 yX3_begin yX3_begin, Cond.code yX3_begin cX3_begin 3 none, Cond.fieldLink RX3 21 "ZMemory$Memory" "length" "I", Cond.fieldLink RX3 25 "ZMemory$Memory" "dynamic" "I"]
def wsL_law0_r6 : List Cond := [Cond.methodLink RX3 15 yJ7_fill_53178, Cond.static yJ7_fill_53178, Cond.initialized RJ7, Cond.code yJ7_fill_53178 cJ7_fill_53178 4 none, Cond.methodLink RL 31 yX8_size, Cond.instanceMethod yX8_size, Cond.selects RX8 yX8_size yX8_size, Cond.code yX8_size cX8_size 4 (some .int), Cond.fieldLink RX8 72 "ZMemoryModel" "code" "I", Cond.fieldLink RX8 78 "ZMemoryModel" "size" "I", Cond.fieldLink RX8 88 "ZMemoryModel" "dynamic" "I", Cond.methodLink RL 32 yX7_get, Cond.instanceMethod yX7_get, Cond.selects RX7 yX7_get yX7_get, Cond.code yX7_get cX7_get 3 (some .int), Cond.methodLink RX7 43 yX3_wordAt, Cond.instanceMethod yX3_wordAt, Cond.selects RX3 yX3_wordAt yX3_wordAt, Cond.code yX3_wordAt cX3_wordAt 2 (some .int), Cond.methodLink RX3 28 yX3_isOutside, Cond.instanceMethod yX3_isOutside, Cond.selects RX3 yX3_isOutside yX3_isOutside, Cond.code yX3_isOutside cX3_isOutside 2 (some .boolean), Cond.methodLink RX7 47 yX3_byteAt]
def wsL_law0_r7 : List Cond := [Cond.instanceMethod yX3_byteAt, Cond.selects RX3 yX3_byteAt yX3_byteAt, Cond.code yX3_byteAt cX3_byteAt 2 (some .int), Cond.methodLink RL 36 yX8_get, Cond.instanceMethod yX8_get, Cond.selects RX8 yX8_get yX8_get, Cond.code yX8_get cX8_get 4 (some .int), Cond.fieldLink RX8 81 "ZMemoryModel" "fault" "I", Cond.methodLink RX8 91 yX8_read, Cond.instanceMethod yX8_read, Cond.selects RX8 yX8_read yX8_read, Cond.code yX8_read cX8_read 3 (some .int), Cond.methodLink RX8 84 yX8_isThere, Cond.instanceMethod yX8_isThere, Cond.selects RX8 yX8_isThere yX8_isThere, Cond.code yX8_isThere cX8_isThere 3 (some .boolean), Cond.methodLink RL 37 yX7_put, Cond.instanceMethod yX7_put, Cond.selects RX7 yX7_put yX7_put, Cond.code yX7_put cX7_put 5 (some .int), Cond.methodLink RX7 50 yX3_setWord, Cond.instanceMethod yX3_setWord, Cond.selects RX3 yX3_setWord yX3_setWord, Cond.code yX3_setWord cX3_setWord 4 (some .int)]
def wsL_law0_r8 : List Cond := [Cond.methodLink RX7 54 yX3_setByte, Cond.instanceMethod yX3_setByte, Cond.selects RX3 yX3_setByte yX3_setByte, Cond.code yX3_setByte cX3_setByte 4 (some .int), Cond.methodLink RL 41 yX8_put, Cond.instanceMethod yX8_put, Cond.selects RX8 yX8_put yX8_put, Cond.code yX8_put cX8_put 5 (some .int), Cond.methodLink RX8 95 yX8_write, Cond.instanceMethod yX8_write, Cond.selects RX8 yX8_write yX8_write, Cond.code yX8_write cX8_write 5 none, Cond.methodLink RL 42 yL_work, Cond.static yL_work, Cond.initialized RL, Cond.codeWith yL_work cL_work 6 (some .int) [(0, 12, 15, 13), (0, 12, 19, 15)], Cond.classLink RL 13 "java/lang/IllegalArgumentException", Cond.classLink RL 15 "java/lang/ArithmeticException", Cond.methodLink RL 7 yX7_work, Cond.instanceMethod yX7_work, Cond.selects RX7 yX7_work yX7_work, Cond.code yX7_work cX7_work 5 (some .int), Cond.classLink RX7 57 "java/lang/IllegalArgumentException", Cond.initialized "java/lang/IllegalArgumentException"]
def wsL_law0_r9 : List Cond := [Cond.classLink RX7 71 "java/lang/ArithmeticException", Cond.initialized "java/lang/ArithmeticException", Cond.methodLink RX7 64 yX7_number, Cond.static yX7_number, Cond.code yX7_number cX7_number 1 (some .int), Cond.methodLink RX7 67 yX7_arithmetic, Cond.static yX7_arithmetic, Cond.code yX7_arithmetic cX7_arithmetic 3 (some .int), Cond.methodLink RX7 76 yX7_word, Cond.static yX7_word, Cond.code yX7_word cX7_word 1 (some .int), Cond.constant RX7 93 (65535), Cond.methodLink RX7 189 yX7_shiftNumber, Cond.static yX7_shiftNumber, Cond.code yX7_shiftNumber cX7_shiftNumber 2 (some .int), Cond.methodLink RX7 196 Lib.Math.min.name, Cond.static Lib.Math.min.name, Cond.initialized "java/lang/Math", Cond.code Lib.Math.min.name Lib.Math.min.code 2 (some .int), Cond.methodLink RX7 193 yX7_shiftBits, Cond.static yX7_shiftBits, Cond.code yX7_shiftBits cX7_shiftBits 2 (some .int), Cond.methodLink RL 47 yX8_work, Cond.instanceMethod yX8_work]
def wsL_law0_r10 : List Cond := [Cond.selects RX8 yX8_work yX8_work, Cond.code yX8_work cX8_work 5 (some .int), Cond.methodLink RX8 99 yX8_signed, Cond.static yX8_signed, Cond.code yX8_signed cX8_signed 2 (some .int), Cond.constant RX8 75 (65535), Cond.constant RX8 76 (32768), Cond.constant RX8 77 (65536), Cond.methodLink RX8 107 yX8_worked, Cond.instanceMethod yX8_worked, Cond.selects RX8 yX8_worked yX8_worked, Cond.code yX8_worked cX8_worked 4 (some .int), Cond.methodLink RX8 103 yX8_shifted, Cond.static yX8_shifted, Cond.code yX8_shifted cX8_shifted 6 (some .int), Cond.methodLink RL 48 yX7_copy, Cond.instanceMethod yX7_copy, Cond.selects RX7 yX7_copy yX7_copy, Cond.code yX7_copy cX7_copy 4 (some .int), Cond.methodLink RX7 79 yX3_copyTable, Cond.instanceMethod yX3_copyTable, Cond.selects RX3 yX3_copyTable yX3_copyTable, Cond.code yX3_copyTable cX3_copyTable 4 (some .int), Cond.methodLink RX3 32 Lib.Math.abs.name]
def wsL_law0_r11 : List Cond := [Cond.static Lib.Math.abs.name, Cond.code Lib.Math.abs.name Lib.Math.abs.code 1 (some .int), Cond.methodLink RX3 38 yX3_wipe, Cond.instanceMethod yX3_wipe, Cond.selects RX3 yX3_wipe yX3_wipe, Cond.code yX3_wipe cX3_wipe 4 (some .int), Cond.methodLink RX3 42 yX3_copyAtOnce, Cond.instanceMethod yX3_copyAtOnce, Cond.selects RX3 yX3_copyAtOnce yX3_copyAtOnce, Cond.code yX3_copyAtOnce cX3_copyAtOnce 4 (some .int), Cond.methodLink RX3 49 arraycopyName, Cond.native arraycopyName, Cond.static arraycopyName, Cond.initialized "java/lang/System", Cond.methodLink RX3 46 yX3_copyInTurn, Cond.instanceMethod yX3_copyInTurn, Cond.selects RX3 yX3_copyInTurn yX3_copyInTurn, Cond.code yX3_copyInTurn cX3_copyInTurn 7 (some .int), Cond.methodLink RX3 55 yX3_byteAt, Cond.methodLink RX3 58 yX3_setByte, Cond.methodLink RL 51 yX8_copy, Cond.instanceMethod yX8_copy, Cond.selects RX8 yX8_copy yX8_copy, Cond.code yX8_copy cX8_copy 4 (some .int)]
def wsL_law0_r12 : List Cond := [Cond.methodLink RX8 111 yX8_copied, Cond.instanceMethod yX8_copied, Cond.selects RX8 yX8_copied yX8_copied, Cond.code yX8_copied cX8_copied 7 none, Cond.methodLink RL 52 yX7_look, Cond.instanceMethod yX7_look, Cond.selects RX7 yX7_look yX7_look, Cond.code yX7_look cX7_look 5 (some .int), Cond.methodLink RX7 82 yX7_isWithin, Cond.static yX7_isWithin, Cond.code yX7_isWithin cX7_isWithin 2 (some .boolean), Cond.methodLink RX7 86 yX3_find, Cond.instanceMethod yX3_find, Cond.selects RX3 yX3_find yX3_find, Cond.code yX3_find cX3_find 10 (some .int), Cond.methodLink RX3 62 Lib.Math.min.name, Cond.methodLink RX3 65 yX3_wordAt, Cond.methodLink RL 56 yX8_look, Cond.instanceMethod yX8_look, Cond.selects RX8 yX8_look yX8_look, Cond.code yX8_look cX8_look 6 (some .int), Cond.methodLink RX8 115 yX8_looked, Cond.instanceMethod yX8_looked, Cond.selects RX8 yX8_looked yX8_looked]
def wsL_law0_r13 : List Cond := [Cond.code yX8_looked cX8_looked 9 (some .int), Cond.methodLink RL 57 yX7_random, Cond.instanceMethod yX7_random, Cond.selects RX7 yX7_random yX7_random, Cond.code yX7_random cX7_random 2 (some .int), Cond.methodLink RX7 90 yX0_draw, Cond.instanceMethod yX0_draw, Cond.selects RX0 yX0_draw yX0_draw, Cond.code yX0_draw cX0_draw 2 (some .int), Cond.fieldLink RX0 32 "ZMemory$Chance" "round" "I", Cond.fieldLink RX0 35 "ZMemory$Chance" "counted" "I", Cond.methodLink RX0 28 yX0_next, Cond.instanceMethod yX0_next, Cond.selects RX0 yX0_next yX0_next, Cond.code yX0_next cX0_next 1 (some .int), Cond.fieldLink RX0 22 "ZMemory$Chance" "taped" "I", Cond.methodLink RX0 38 yX0_nextOfCount, Cond.instanceMethod yX0_nextOfCount, Cond.selects RX0 yX0_nextOfCount yX0_nextOfCount, Cond.code yX0_nextOfCount cX0_nextOfCount 2 (some .int), Cond.methodLink RX0 41 yX0_nextOfTape, Cond.instanceMethod yX0_nextOfTape, Cond.selects RX0 yX0_nextOfTape yX0_nextOfTape, Cond.code yX0_nextOfTape cX0_nextOfTape 2 (some .int)]
def wsL_law0_r14 : List Cond := [Cond.fieldLink RX0 25 "ZMemory$Chance" "first" "I", Cond.methodLink RX0 44 yX0_nextOfSeed, Cond.instanceMethod yX0_nextOfSeed, Cond.selects RX0 yX0_nextOfSeed yX0_nextOfSeed, Cond.code yX0_nextOfSeed cX0_nextOfSeed 1 (some .int), Cond.constant RX0 47 (1103515245), Cond.constant RX0 48 (2147483647), Cond.methodLink RL 60 yX8_random, Cond.instanceMethod yX8_random, Cond.selects RX8 yX8_random yX8_random, Cond.code yX8_random cX8_random 2 (some .int), Cond.methodLink RX8 133 yX8_drawn, Cond.instanceMethod yX8_drawn, Cond.selects RX8 yX8_drawn yX8_drawn, Cond.code yX8_drawn cX8_drawn 4 (some .int), Cond.fieldLink RX8 119 "ZMemoryModel" "way" "I", Cond.fieldLink RX8 122 "ZMemoryModel" "count" "I", Cond.fieldLink RX8 125 "ZMemoryModel" "round" "I", Cond.fieldLink RX8 128 "ZMemoryModel" "taped" "I", Cond.constant RX8 131 (1103515245), Cond.constant RX8 132 (2147483647), Cond.methodLink RL 61 yX7_tape, Cond.instanceMethod yX7_tape, Cond.selects RX7 yX7_tape yX7_tape]
def wsL_law0_r15 : List Cond := [Cond.code yX7_tape cX7_tape 2 (some .int), Cond.methodLink RX7 94 yX0_record, Cond.instanceMethod yX0_record, Cond.selects RX0 yX0_record yX0_record, Cond.code yX0_record cX0_record 2 (some .int), Cond.methodLink RL 64 yX8_tape, Cond.instanceMethod yX8_tape, Cond.selects RX8 yX8_tape yX8_tape, Cond.code yX8_tape cX8_tape 2 (some .int), Cond.methodLink RL 65 yX7_globe, Cond.instanceMethod yX7_globe, Cond.selects RX7 yX7_globe yX7_globe, Cond.code yX7_globe cX7_globe 3 (some .int), Cond.methodLink RL 68 yX8_globe, Cond.instanceMethod yX8_globe, Cond.selects RX8 yX8_globe yX8_globe, Cond.code yX8_globe cX8_globe 3 (some .int), Cond.fieldLink RX8 136 "ZMemoryModel" "globe" "I", Cond.methodLink RL 69 yX7_form, Cond.instanceMethod yX7_form, Cond.selects RX7 yX7_form yX7_form, Cond.code yX7_form cX7_form 3 (some .int), Cond.methodLink RL 72 yX8_form, Cond.instanceMethod yX8_form]
def wsL_law0_r16 : List Cond := [Cond.selects RX8 yX8_form yX8_form, Cond.code yX8_form cX8_form 3 (some .int), Cond.methodLink RL 73 yX7_instruction, Cond.instanceMethod yX7_instruction, Cond.selects RX7 yX7_instruction yX7_instruction, Cond.code yX7_instruction cX7_instruction 6 (some .int), Cond.methodLink RX7 104 yX7_isOperand, Cond.static yX7_isOperand, Cond.code yX7_isOperand cX7_isOperand 1 (some .boolean), Cond.methodLink RX7 108 yX5_append, Cond.instanceMethod yX5_append, Cond.selects RX5 yX5_append yX5_append, Cond.code yX5_append cX5_append 7 (some .int), Cond.fieldLink RX5 34 "ZMemory$Program" "length" "I", Cond.methodLink RL 77 yX8_instruction, Cond.instanceMethod yX8_instruction, Cond.selects RX8 yX8_instruction yX8_instruction, Cond.code yX8_instruction cX8_instruction 7 (some .int), Cond.fieldLink RX8 139 "ZMemoryModel" "many" "I", Cond.methodLink RL 78 yX7_routine, Cond.instanceMethod yX7_routine, Cond.selects RX7 yX7_routine yX7_routine, Cond.code yX7_routine cX7_routine 5 (some .int), Cond.methodLink RX7 112 yX5_define]
def wsL_law0_r17 : List Cond := [Cond.instanceMethod yX5_define, Cond.selects RX5 yX5_define yX5_define, Cond.code yX5_define cX5_define 5 none, Cond.methodLink RL 82 yX8_routine, Cond.instanceMethod yX8_routine, Cond.selects RX8 yX8_routine yX8_routine, Cond.code yX8_routine cX8_routine 5 (some .int), Cond.methodLink RL 83 yX7_clear, Cond.instanceMethod yX7_clear, Cond.selects RX7 yX7_clear yX7_clear, Cond.code yX7_clear cX7_clear 1 (some .int), Cond.methodLink RX7 116 yX5_forget, Cond.instanceMethod yX5_forget, Cond.selects RX5 yX5_forget yX5_forget, Cond.code yX5_forget cX5_forget 3 (some .int), Cond.methodLink RL 87 yX8_clear, Cond.instanceMethod yX8_clear, Cond.selects RX8 yX8_clear yX8_clear, Cond.code yX8_clear cX8_clear 3 (some .int), Cond.methodLink RL 88 yX7_run, Cond.instanceMethod yX7_run, Cond.selects RX7 yX7_run yX7_run, Cond.code yX7_run cX7_run 5 (some .int), Cond.methodLink RX7 120 yX5_hasRoutine]
def wsL_law0_r18 : List Cond := [Cond.instanceMethod yX5_hasRoutine, Cond.selects RX5 yX5_hasRoutine yX5_hasRoutine, Cond.code yX5_hasRoutine cX5_hasRoutine 2 (some .boolean), Cond.methodLink RX7 123 yX6_begin, Cond.instanceMethod yX6_begin, Cond.selects RX6 yX6_begin yX6_begin, Cond.code yX6_begin cX6_begin 4 none, Cond.fieldLink RX6 60 "ZMemory$Runner" "ending" "I", Cond.fieldLink RX6 63 "ZMemory$Runner" "steps" "I", Cond.fieldLink RX6 66 "ZMemory$Runner" "mishaps" "I", Cond.fieldLink RX6 69 "ZMemory$Runner" "returned" "I", Cond.fieldLink RX6 72 "ZMemory$Runner" "unguarded" "I", Cond.fieldLink RX6 75 "ZMemory$Runner" "guarded" "I", Cond.fieldLink RX6 78 "ZMemory$Runner" "arrived" "I", Cond.methodLink RX6 48 yX2_begin, Cond.instanceMethod yX2_begin, Cond.selects RX2 yX2_begin yX2_begin, Cond.code yX2_begin cX2_begin 1 none, Cond.fieldLink RX2 22 "ZMemory$Frames" "height" "I", Cond.fieldLink RX2 26 "ZMemory$Frames" "count" "I", Cond.fieldLink RX2 29 "ZMemory$Frames" "most" "I", Cond.methodLink RX6 54 yJ7_fill_53178, Cond.methodLink RX6 81 yX6_enter, Cond.instanceMethod yX6_enter]
def wsL_law0_r19 : List Cond := [Cond.selects RX6 yX6_enter yX6_enter, Cond.code yX6_enter cX6_enter 6 (some .int), Cond.methodLink RX6 219 yX5_hasRoutine, Cond.methodLink RX6 223 yX2_enter, Cond.instanceMethod yX2_enter, Cond.selects RX2 yX2_enter yX2_enter, Cond.code yX2_enter cX2_enter 2 (some (.object "ZMemory$Frame")), Cond.methodLink RX2 44 Lib.Math.max.name, Cond.static Lib.Math.max.name, Cond.code Lib.Math.max.name Lib.Math.max.code 2 (some .int), Cond.methodLink RX2 35 yJ7_fill_53178, Cond.methodLink RX6 213 yX1_setLocal, Cond.instanceMethod yX1_setLocal, Cond.selects RX1 yX1_setLocal yX1_setLocal, Cond.code yX1_setLocal cX1_setLocal 3 (some .int), Cond.methodLink RX1 15 yX1_hasLocal, Cond.instanceMethod yX1_hasLocal, Cond.selects RX1 yX1_hasLocal yX1_hasLocal, Cond.code yX1_hasLocal cX1_hasLocal 2 (some .boolean), Cond.fieldLink RX1 19 "ZMemory$Frame" "localCount" "I", Cond.methodLink RX7 126 yX6_isGoing, Cond.instanceMethod yX6_isGoing, Cond.selects RX6 yX6_isGoing yX6_isGoing, Cond.code yX6_isGoing cX6_isGoing 1 (some .boolean)]
def wsL_law0_r20 : List Cond := [Cond.methodLink RX7 130 yX6_step, Cond.instanceMethod yX6_step, Cond.selects RX6 yX6_step yX6_step, Cond.code yX6_step cX6_step 6 (some .int), Cond.fieldLink RX6 89 "ZMemory$Runner" "store" "I", Cond.methodLink RX6 92 yX2_top, Cond.instanceMethod yX2_top, Cond.selects RX2 yX2_top yX2_top, Cond.code yX2_top cX2_top 1 (some (.object "ZMemory$Frame")), Cond.methodLink RX6 101 yX5_opAt, Cond.instanceMethod yX5_opAt, Cond.selects RX5 yX5_opAt yX5_opAt, Cond.code yX5_opAt cX5_opAt 2 (some .int), Cond.methodLink RX6 113 yX6_ask, Cond.instanceMethod yX6_ask, Cond.selects RX6 yX6_ask yX6_ask, Cond.code yX6_ask cX6_ask 2 (some .int), Cond.methodLink RX6 171 yX2_pop, Cond.instanceMethod yX2_pop, Cond.selects RX2 yX2_pop yX2_pop, Cond.code yX2_pop cX2_pop 1 (some .int), Cond.methodLink RX2 50 yX2_top, Cond.methodLink RX6 207 yX1_local, Cond.instanceMethod yX1_local]
def wsL_law0_r21 : List Cond := [Cond.selects RX1 yX1_local yX1_local, Cond.code yX1_local cX1_local 2 (some .int), Cond.methodLink RX6 210 yX6_placeOfGlobal, Cond.instanceMethod yX6_placeOfGlobal, Cond.selects RX6 yX6_placeOfGlobal yX6_placeOfGlobal, Cond.code yX6_placeOfGlobal cX6_placeOfGlobal 2 (some .int), Cond.fieldLink RX6 216 "ZMemory$Runner" "globe" "I", Cond.methodLink RX6 150 yX3_wordAt, Cond.methodLink RX6 119 yX6_carryOut, Cond.instanceMethod yX6_carryOut, Cond.selects RX6 yX6_carryOut yX6_carryOut, Cond.code yX6_carryOut cX6_carryOut 6 (some .int), Cond.methodLink RX6 140 yX6_tell, Cond.instanceMethod yX6_tell, Cond.selects RX6 yX6_tell yX6_tell, Cond.code yX6_tell cX6_tell 3 (some .int), Cond.methodLink RX6 143 yX6_goOnIf, Cond.instanceMethod yX6_goOnIf, Cond.selects RX6 yX6_goOnIf yX6_goOnIf, Cond.code yX6_goOnIf cX6_goOnIf 3 (some .int), Cond.methodLink RX6 147 yX6_change, Cond.instanceMethod yX6_change, Cond.selects RX6 yX6_change yX6_change, Cond.code yX6_change cX6_change 4 (some .int)]
def wsL_law0_r22 : List Cond := [Cond.methodLink RX6 155 yX3_byteAt, Cond.methodLink RX6 158 yX3_setWord, Cond.methodLink RX6 162 yX3_setByte, Cond.methodLink RX6 165 yX6_giveBack, Cond.instanceMethod yX6_giveBack, Cond.selects RX6 yX6_giveBack yX6_giveBack, Cond.code yX6_giveBack cX6_giveBack 3 (some .int), Cond.methodLink RX6 85 yX6_leaveDownTo, Cond.instanceMethod yX6_leaveDownTo, Cond.selects RX6 yX6_leaveDownTo yX6_leaveDownTo, Cond.code yX6_leaveDownTo cX6_leaveDownTo 3 none, Cond.methodLink RX6 238 yX2_leave, Cond.instanceMethod yX2_leave, Cond.selects RX2 yX2_leave yX2_leave, Cond.code yX2_leave cX2_leave 1 none, Cond.methodLink RX6 201 yX6_end, Cond.instanceMethod yX6_end, Cond.selects RX6 yX6_end yX6_end, Cond.code yX6_end cX6_end 2 (some .int), Cond.methodLink RX6 168 yX2_push, Cond.instanceMethod yX2_push, Cond.selects RX2 yX2_push yX2_push, Cond.code yX2_push cX2_push 2 (some .int), Cond.methodLink RX6 178 yX6_throwTo]
def wsL_law0_r23 : List Cond := [Cond.instanceMethod yX6_throwTo, Cond.selects RX6 yX6_throwTo yX6_throwTo, Cond.code yX6_throwTo cX6_throwTo 3 (some .int), Cond.methodLink RX6 181 yX3_copyTable, Cond.methodLink RX6 184 yX3_find, Cond.methodLink RX6 187 yX0_draw, Cond.methodLink RX6 192 yX4_printNumber, Cond.instanceMethod yX4_printNumber, Cond.selects RX4 yX4_printNumber yX4_printNumber, Cond.code yX4_printNumber cX4_printNumber 5 (some .int), Cond.methodLink RX4 23 Lib.Math.abs.name, Cond.methodLink RX4 19 yX4_print, Cond.instanceMethod yX4_print, Cond.selects RX4 yX4_print yX4_print, Cond.code yX4_print cX4_print 2 (some .int), Cond.fieldLink RX4 15 "ZMemory$Page" "length" "I", Cond.methodLink RX6 195 yX4_print, Cond.methodLink RX6 198 yX6_printRows, Cond.instanceMethod yX6_printRows, Cond.selects RX6 yX6_printRows yX6_printRows, Cond.code yX6_printRows cX6_printRows 9 (some .int), Cond.methodLink RX7 133 yX6_settle, Cond.instanceMethod yX6_settle, Cond.selects RX6 yX6_settle yX6_settle]
def wsL_law0_r24 : List Cond := [Cond.code yX6_settle cX6_settle 4 none, Cond.methodLink RX6 123 yX6_keep, Cond.instanceMethod yX6_keep, Cond.selects RX6 yX6_keep yX6_keep, Cond.code yX6_keep cX6_keep 2 (some .int), Cond.methodLink RX6 129 yX6_set, Cond.instanceMethod yX6_set, Cond.selects RX6 yX6_set yX6_set, Cond.code yX6_set cX6_set 3 (some .int), Cond.methodLink RX6 126 yX6_raise, Cond.instanceMethod yX6_raise, Cond.selects RX6 yX6_raise yX6_raise, Cond.code yX6_raise cX6_raise 3 (some .int), Cond.methodLink RX7 137 yX6_finish, Cond.instanceMethod yX6_finish, Cond.selects RX6 yX6_finish yX6_finish, Cond.code yX6_finish cX6_finish 1 (some .int), Cond.methodLink RL 91 yX8_run, Cond.instanceMethod yX8_run, Cond.selects RX8 yX8_run yX8_run, Cond.code yX8_run cX8_run 5 (some .int), Cond.fieldLink RX8 142 "ZMemoryModel" "frames" "I", Cond.fieldLink RX8 145 "ZMemoryModel" "high" "I", Cond.fieldLink RX8 170 "ZMemoryModel" "printed" "I"]
def wsL_law0_r25 : List Cond := [Cond.fieldLink RX8 226 "ZMemoryModel" "steps" "I", Cond.fieldLink RX8 182 "ZMemoryModel" "returned" "I", Cond.fieldLink RX8 220 "ZMemoryModel" "unguarded" "I", Cond.fieldLink RX8 223 "ZMemoryModel" "guarded" "I", Cond.fieldLink RX8 210 "ZMemoryModel" "throwsCame" "I", Cond.fieldLink RX8 176 "ZMemoryModel" "deepest" "I", Cond.fieldLink RX8 207 "ZMemoryModel" "counted" "I", Cond.fieldLink RX8 185 "ZMemoryModel" "end" "I", Cond.methodLink RX8 191 yX8_enter, Cond.instanceMethod yX8_enter, Cond.selects RX8 yX8_enter yX8_enter, Cond.code yX8_enter cX8_enter 6 none, Cond.methodLink RX8 229 yX8_step, Cond.instanceMethod yX8_step, Cond.selects RX8 yX8_step yX8_step, Cond.code yX8_step cX8_step 9 none, Cond.methodLink RX8 148 yX8_top, Cond.instanceMethod yX8_top, Cond.selects RX8 yX8_top yX8_top, Cond.code yX8_top cX8_top 1 (some .int), Cond.methodLink RX8 213 yX8_wants, Cond.static yX8_wants, Cond.code yX8_wants cX8_wants 1 (some .int), Cond.methodLink RX8 163 yX8_ask]
def wsL_law0_r26 : List Cond := [Cond.instanceMethod yX8_ask, Cond.selects RX8 yX8_ask yX8_ask, Cond.code yX8_ask cX8_ask 2 (some .int), Cond.methodLink RX8 152 yX8_pop, Cond.instanceMethod yX8_pop, Cond.selects RX8 yX8_pop yX8_pop, Cond.code yX8_pop cX8_pop 1 (some .int), Cond.methodLink RX8 155 yX8_isLocal, Cond.instanceMethod yX8_isLocal, Cond.selects RX8 yX8_isLocal yX8_isLocal, Cond.code yX8_isLocal cX8_isLocal 2 (some .boolean), Cond.methodLink RX8 216 yX8_act, Cond.instanceMethod yX8_act, Cond.selects RX8 yX8_act yX8_act, Cond.code yX8_act cX8_act 9 none, Cond.methodLink RX8 188 yX8_more, Cond.instanceMethod yX8_more, Cond.selects RX8 yX8_more yX8_more, Cond.code yX8_more cX8_more 4 none, Cond.methodLink RX8 166 yX8_set, Cond.instanceMethod yX8_set, Cond.selects RX8 yX8_set yX8_set, Cond.code yX8_set cX8_set 3 none, Cond.methodLink RX8 159 yX8_push]
def wsL_law0_r27 : List Cond := [Cond.instanceMethod yX8_push, Cond.selects RX8 yX8_push yX8_push, Cond.code yX8_push cX8_push 2 none, Cond.methodLink RX8 195 yX8_back, Cond.instanceMethod yX8_back, Cond.selects RX8 yX8_back yX8_back, Cond.code yX8_back cX8_back 3 none, Cond.methodLink RX8 179 yX8_leave, Cond.instanceMethod yX8_leave, Cond.selects RX8 yX8_leave yX8_leave, Cond.code yX8_leave cX8_leave 1 none, Cond.methodLink RX8 198 yX8_throwTo, Cond.instanceMethod yX8_throwTo, Cond.selects RX8 yX8_throwTo yX8_throwTo, Cond.code yX8_throwTo cX8_throwTo 3 none, Cond.methodLink RX8 201 yX8_printNumber, Cond.instanceMethod yX8_printNumber, Cond.selects RX8 yX8_printNumber yX8_printNumber, Cond.code yX8_printNumber cX8_printNumber 4 none, Cond.methodLink RX8 173 yX8_print, Cond.instanceMethod yX8_print, Cond.selects RX8 yX8_print yX8_print, Cond.code yX8_print cX8_print 2 none, Cond.methodLink RX8 204 yX8_printRows]
def wsL_law0_r28 : List Cond := [Cond.instanceMethod yX8_printRows, Cond.selects RX8 yX8_printRows yX8_printRows, Cond.code yX8_printRows cX8_printRows 7 none, Cond.methodLink RX8 232 yX8_up, Cond.instanceMethod yX8_up, Cond.selects RX8 yX8_up yX8_up, Cond.code yX8_up cX8_up 2 none, Cond.methodLink RL 92 yX7_told, Cond.instanceMethod yX7_told, Cond.selects RX7 yX7_told yX7_told, Cond.code yX7_told cX7_told 2 (some .int), Cond.methodLink RL 95 yX8_told, Cond.instanceMethod yX8_told, Cond.selects RX8 yX8_told yX8_told, Cond.code yX8_told cX8_told 2 (some .int), Cond.methodLink RL 96 yL_printed, Cond.static yL_printed, Cond.codeWith yL_printed cL_printed 4 (some .int) [(0, 9, 12, 21)], Cond.classLink RL 21 "java/lang/IndexOutOfBoundsException", Cond.methodLink RL 17 yX7_printed, Cond.instanceMethod yX7_printed, Cond.selects RX7 yX7_printed yX7_printed, Cond.code yX7_printed cX7_printed 3 (some .int), Cond.classLink RX7 180 "java/lang/IndexOutOfBoundsException"]
def wsL_law0_r29 : List Cond := [Cond.initialized "java/lang/IndexOutOfBoundsException", Cond.methodLink RX7 177 yX4_characterAt, Cond.instanceMethod yX4_characterAt, Cond.selects RX4 yX4_characterAt yX4_characterAt, Cond.code yX4_characterAt cX4_characterAt 2 (some .int), Cond.methodLink RL 99 yX8_printed, Cond.instanceMethod yX8_printed, Cond.selects RX8 yX8_printed yX8_printed, Cond.code yX8_printed cX8_printed 2 (some .int), Cond.methodLink RL 100 yX7_left, Cond.instanceMethod yX7_left, Cond.selects RX7 yX7_left yX7_left, Cond.code yX7_left cX7_left 2 (some .int), Cond.methodLink RL 103 yX8_left, Cond.instanceMethod yX8_left, Cond.selects RX8 yX8_left yX8_left, Cond.code yX8_left cX8_left 2 (some .int)]
def wsL_law0 : List Cond := (wsL_law0_r1 ++ (wsL_law0_r2 ++ (wsL_law0_r3 ++ (wsL_law0_r4 ++ (wsL_law0_r5 ++ (wsL_law0_r6 ++ (wsL_law0_r7 ++ (wsL_law0_r8 ++ (wsL_law0_r9 ++ (wsL_law0_r10 ++ (wsL_law0_r11 ++ (wsL_law0_r12 ++ (wsL_law0_r13 ++ (wsL_law0_r14 ++ (wsL_law0_r15 ++ (wsL_law0_r16 ++ (wsL_law0_r17 ++ (wsL_law0_r18 ++ (wsL_law0_r19 ++ (wsL_law0_r20 ++ (wsL_law0_r21 ++ (wsL_law0_r22 ++ (wsL_law0_r23 ++ (wsL_law0_r24 ++ (wsL_law0_r25 ++ (wsL_law0_r26 ++ (wsL_law0_r27 ++ (wsL_law0_r28 ++ wsL_law0_r29)))))))))))))))))))))))))))) ++ wsX70 ++ wsX80 ++ wsX30 ++ wsX00 ++ wsX50 ++ wsX60 ++ wsX20 ++ wsX40 ++ wsX10 ++ ([] : List Cond)
abbrev vwCl : List vw_C := [(RX0, TX0, 7), (RX1, TX1, 6), (RX2, TX2, 5), (RX3, TX3, 3), (RX4, TX4, 2), (RX5, TX5, 8), (RX6, TX6, 17), (RX7, TX7, 4), (RX8, TX8, 41)]
end
section
abbrev lw_good : List Cond := wsL_law0
theorem lg_r1 : ∀ w ∈ wsL_law0_r1, w ∈ lw_good := fun _ h => List.mem_append_left _ (List.mem_append_left _ (List.mem_append_left _ (List.mem_append_left _ (List.mem_append_left _ (List.mem_append_left _ (List.mem_append_left _ (List.mem_append_left _ (List.mem_append_left _ (List.mem_append_left _ (List.mem_append_left _ (h)))))))))))
theorem lg_r2 : ∀ w ∈ wsL_law0_r2, w ∈ lw_good := fun _ h => List.mem_append_left _ (List.mem_append_left _ (List.mem_append_left _ (List.mem_append_left _ (List.mem_append_left _ (List.mem_append_left _ (List.mem_append_left _ (List.mem_append_left _ (List.mem_append_left _ (List.mem_append_left _ (List.mem_append_right _ (List.mem_append_left _ (h))))))))))))
theorem lg_r3 : ∀ w ∈ wsL_law0_r3, w ∈ lw_good := fun _ h => List.mem_append_left _ (List.mem_append_left _ (List.mem_append_left _ (List.mem_append_left _ (List.mem_append_left _ (List.mem_append_left _ (List.mem_append_left _ (List.mem_append_left _ (List.mem_append_left _ (List.mem_append_left _ (List.mem_append_right _ (List.mem_append_right _ (List.mem_append_left _ (h)))))))))))))
theorem lg_r4 : ∀ w ∈ wsL_law0_r4, w ∈ lw_good := fun _ h => List.mem_append_left _ (List.mem_append_left _ (List.mem_append_left _ (List.mem_append_left _ (List.mem_append_left _ (List.mem_append_left _ (List.mem_append_left _ (List.mem_append_left _ (List.mem_append_left _ (List.mem_append_left _ (List.mem_append_right _ (List.mem_append_right _ (List.mem_append_right _ (List.mem_append_left _ (h))))))))))))))
theorem lg_r5 : ∀ w ∈ wsL_law0_r5, w ∈ lw_good := fun _ h => List.mem_append_left _ (List.mem_append_left _ (List.mem_append_left _ (List.mem_append_left _ (List.mem_append_left _ (List.mem_append_left _ (List.mem_append_left _ (List.mem_append_left _ (List.mem_append_left _ (List.mem_append_left _ (List.mem_append_right _ (List.mem_append_right _ (List.mem_append_right _ (List.mem_append_right _ (List.mem_append_left _ (h)))))))))))))))
theorem lg_r6 : ∀ w ∈ wsL_law0_r6, w ∈ lw_good := fun _ h => List.mem_append_left _ (List.mem_append_left _ (List.mem_append_left _ (List.mem_append_left _ (List.mem_append_left _ (List.mem_append_left _ (List.mem_append_left _ (List.mem_append_left _ (List.mem_append_left _ (List.mem_append_left _ (List.mem_append_right _ (List.mem_append_right _ (List.mem_append_right _ (List.mem_append_right _ (List.mem_append_right _ (List.mem_append_left _ (h))))))))))))))))
theorem lg_r7 : ∀ w ∈ wsL_law0_r7, w ∈ lw_good := fun _ h => List.mem_append_left _ (List.mem_append_left _ (List.mem_append_left _ (List.mem_append_left _ (List.mem_append_left _ (List.mem_append_left _ (List.mem_append_left _ (List.mem_append_left _ (List.mem_append_left _ (List.mem_append_left _ (List.mem_append_right _ (List.mem_append_right _ (List.mem_append_right _ (List.mem_append_right _ (List.mem_append_right _ (List.mem_append_right _ (List.mem_append_left _ (h)))))))))))))))))
theorem lg_r8 : ∀ w ∈ wsL_law0_r8, w ∈ lw_good := fun _ h => List.mem_append_left _ (List.mem_append_left _ (List.mem_append_left _ (List.mem_append_left _ (List.mem_append_left _ (List.mem_append_left _ (List.mem_append_left _ (List.mem_append_left _ (List.mem_append_left _ (List.mem_append_left _ (List.mem_append_right _ (List.mem_append_right _ (List.mem_append_right _ (List.mem_append_right _ (List.mem_append_right _ (List.mem_append_right _ (List.mem_append_right _ (List.mem_append_left _ (h))))))))))))))))))
theorem lg_r9 : ∀ w ∈ wsL_law0_r9, w ∈ lw_good := fun _ h => List.mem_append_left _ (List.mem_append_left _ (List.mem_append_left _ (List.mem_append_left _ (List.mem_append_left _ (List.mem_append_left _ (List.mem_append_left _ (List.mem_append_left _ (List.mem_append_left _ (List.mem_append_left _ (List.mem_append_right _ (List.mem_append_right _ (List.mem_append_right _ (List.mem_append_right _ (List.mem_append_right _ (List.mem_append_right _ (List.mem_append_right _ (List.mem_append_right _ (List.mem_append_left _ (h)))))))))))))))))))
theorem lg_r10 : ∀ w ∈ wsL_law0_r10, w ∈ lw_good := fun _ h => List.mem_append_left _ (List.mem_append_left _ (List.mem_append_left _ (List.mem_append_left _ (List.mem_append_left _ (List.mem_append_left _ (List.mem_append_left _ (List.mem_append_left _ (List.mem_append_left _ (List.mem_append_left _ (List.mem_append_right _ (List.mem_append_right _ (List.mem_append_right _ (List.mem_append_right _ (List.mem_append_right _ (List.mem_append_right _ (List.mem_append_right _ (List.mem_append_right _ (List.mem_append_right _ (List.mem_append_left _ (h))))))))))))))))))))
theorem lg_r11 : ∀ w ∈ wsL_law0_r11, w ∈ lw_good := fun _ h => List.mem_append_left _ (List.mem_append_left _ (List.mem_append_left _ (List.mem_append_left _ (List.mem_append_left _ (List.mem_append_left _ (List.mem_append_left _ (List.mem_append_left _ (List.mem_append_left _ (List.mem_append_left _ (List.mem_append_right _ (List.mem_append_right _ (List.mem_append_right _ (List.mem_append_right _ (List.mem_append_right _ (List.mem_append_right _ (List.mem_append_right _ (List.mem_append_right _ (List.mem_append_right _ (List.mem_append_right _ (List.mem_append_left _ (h)))))))))))))))))))))
theorem lg_r12 : ∀ w ∈ wsL_law0_r12, w ∈ lw_good := fun _ h => List.mem_append_left _ (List.mem_append_left _ (List.mem_append_left _ (List.mem_append_left _ (List.mem_append_left _ (List.mem_append_left _ (List.mem_append_left _ (List.mem_append_left _ (List.mem_append_left _ (List.mem_append_left _ (List.mem_append_right _ (List.mem_append_right _ (List.mem_append_right _ (List.mem_append_right _ (List.mem_append_right _ (List.mem_append_right _ (List.mem_append_right _ (List.mem_append_right _ (List.mem_append_right _ (List.mem_append_right _ (List.mem_append_right _ (List.mem_append_left _ (h))))))))))))))))))))))
theorem lg_r13 : ∀ w ∈ wsL_law0_r13, w ∈ lw_good := fun _ h => List.mem_append_left _ (List.mem_append_left _ (List.mem_append_left _ (List.mem_append_left _ (List.mem_append_left _ (List.mem_append_left _ (List.mem_append_left _ (List.mem_append_left _ (List.mem_append_left _ (List.mem_append_left _ (List.mem_append_right _ (List.mem_append_right _ (List.mem_append_right _ (List.mem_append_right _ (List.mem_append_right _ (List.mem_append_right _ (List.mem_append_right _ (List.mem_append_right _ (List.mem_append_right _ (List.mem_append_right _ (List.mem_append_right _ (List.mem_append_right _ (List.mem_append_left _ (h)))))))))))))))))))))))
theorem lg_r14 : ∀ w ∈ wsL_law0_r14, w ∈ lw_good := fun _ h => List.mem_append_left _ (List.mem_append_left _ (List.mem_append_left _ (List.mem_append_left _ (List.mem_append_left _ (List.mem_append_left _ (List.mem_append_left _ (List.mem_append_left _ (List.mem_append_left _ (List.mem_append_left _ (List.mem_append_right _ (List.mem_append_right _ (List.mem_append_right _ (List.mem_append_right _ (List.mem_append_right _ (List.mem_append_right _ (List.mem_append_right _ (List.mem_append_right _ (List.mem_append_right _ (List.mem_append_right _ (List.mem_append_right _ (List.mem_append_right _ (List.mem_append_right _ (List.mem_append_left _ (h))))))))))))))))))))))))
theorem lg_r15 : ∀ w ∈ wsL_law0_r15, w ∈ lw_good := fun _ h => List.mem_append_left _ (List.mem_append_left _ (List.mem_append_left _ (List.mem_append_left _ (List.mem_append_left _ (List.mem_append_left _ (List.mem_append_left _ (List.mem_append_left _ (List.mem_append_left _ (List.mem_append_left _ (List.mem_append_right _ (List.mem_append_right _ (List.mem_append_right _ (List.mem_append_right _ (List.mem_append_right _ (List.mem_append_right _ (List.mem_append_right _ (List.mem_append_right _ (List.mem_append_right _ (List.mem_append_right _ (List.mem_append_right _ (List.mem_append_right _ (List.mem_append_right _ (List.mem_append_right _ (List.mem_append_left _ (h)))))))))))))))))))))))))
theorem lg_r16 : ∀ w ∈ wsL_law0_r16, w ∈ lw_good := fun _ h => List.mem_append_left _ (List.mem_append_left _ (List.mem_append_left _ (List.mem_append_left _ (List.mem_append_left _ (List.mem_append_left _ (List.mem_append_left _ (List.mem_append_left _ (List.mem_append_left _ (List.mem_append_left _ (List.mem_append_right _ (List.mem_append_right _ (List.mem_append_right _ (List.mem_append_right _ (List.mem_append_right _ (List.mem_append_right _ (List.mem_append_right _ (List.mem_append_right _ (List.mem_append_right _ (List.mem_append_right _ (List.mem_append_right _ (List.mem_append_right _ (List.mem_append_right _ (List.mem_append_right _ (List.mem_append_right _ (List.mem_append_left _ (h))))))))))))))))))))))))))
theorem lg_r17 : ∀ w ∈ wsL_law0_r17, w ∈ lw_good := fun _ h => List.mem_append_left _ (List.mem_append_left _ (List.mem_append_left _ (List.mem_append_left _ (List.mem_append_left _ (List.mem_append_left _ (List.mem_append_left _ (List.mem_append_left _ (List.mem_append_left _ (List.mem_append_left _ (List.mem_append_right _ (List.mem_append_right _ (List.mem_append_right _ (List.mem_append_right _ (List.mem_append_right _ (List.mem_append_right _ (List.mem_append_right _ (List.mem_append_right _ (List.mem_append_right _ (List.mem_append_right _ (List.mem_append_right _ (List.mem_append_right _ (List.mem_append_right _ (List.mem_append_right _ (List.mem_append_right _ (List.mem_append_right _ (List.mem_append_left _ (h)))))))))))))))))))))))))))
theorem lg_r18 : ∀ w ∈ wsL_law0_r18, w ∈ lw_good := fun _ h => List.mem_append_left _ (List.mem_append_left _ (List.mem_append_left _ (List.mem_append_left _ (List.mem_append_left _ (List.mem_append_left _ (List.mem_append_left _ (List.mem_append_left _ (List.mem_append_left _ (List.mem_append_left _ (List.mem_append_right _ (List.mem_append_right _ (List.mem_append_right _ (List.mem_append_right _ (List.mem_append_right _ (List.mem_append_right _ (List.mem_append_right _ (List.mem_append_right _ (List.mem_append_right _ (List.mem_append_right _ (List.mem_append_right _ (List.mem_append_right _ (List.mem_append_right _ (List.mem_append_right _ (List.mem_append_right _ (List.mem_append_right _ (List.mem_append_right _ (List.mem_append_left _ (h))))))))))))))))))))))))))))
theorem lg_r19 : ∀ w ∈ wsL_law0_r19, w ∈ lw_good := fun _ h => List.mem_append_left _ (List.mem_append_left _ (List.mem_append_left _ (List.mem_append_left _ (List.mem_append_left _ (List.mem_append_left _ (List.mem_append_left _ (List.mem_append_left _ (List.mem_append_left _ (List.mem_append_left _ (List.mem_append_right _ (List.mem_append_right _ (List.mem_append_right _ (List.mem_append_right _ (List.mem_append_right _ (List.mem_append_right _ (List.mem_append_right _ (List.mem_append_right _ (List.mem_append_right _ (List.mem_append_right _ (List.mem_append_right _ (List.mem_append_right _ (List.mem_append_right _ (List.mem_append_right _ (List.mem_append_right _ (List.mem_append_right _ (List.mem_append_right _ (List.mem_append_right _ (List.mem_append_left _ (h)))))))))))))))))))))))))))))
theorem lg_r20 : ∀ w ∈ wsL_law0_r20, w ∈ lw_good := fun _ h => List.mem_append_left _ (List.mem_append_left _ (List.mem_append_left _ (List.mem_append_left _ (List.mem_append_left _ (List.mem_append_left _ (List.mem_append_left _ (List.mem_append_left _ (List.mem_append_left _ (List.mem_append_left _ (List.mem_append_right _ (List.mem_append_right _ (List.mem_append_right _ (List.mem_append_right _ (List.mem_append_right _ (List.mem_append_right _ (List.mem_append_right _ (List.mem_append_right _ (List.mem_append_right _ (List.mem_append_right _ (List.mem_append_right _ (List.mem_append_right _ (List.mem_append_right _ (List.mem_append_right _ (List.mem_append_right _ (List.mem_append_right _ (List.mem_append_right _ (List.mem_append_right _ (List.mem_append_right _ (List.mem_append_left _ (h))))))))))))))))))))))))))))))
theorem lg_r21 : ∀ w ∈ wsL_law0_r21, w ∈ lw_good := fun _ h => List.mem_append_left _ (List.mem_append_left _ (List.mem_append_left _ (List.mem_append_left _ (List.mem_append_left _ (List.mem_append_left _ (List.mem_append_left _ (List.mem_append_left _ (List.mem_append_left _ (List.mem_append_left _ (List.mem_append_right _ (List.mem_append_right _ (List.mem_append_right _ (List.mem_append_right _ (List.mem_append_right _ (List.mem_append_right _ (List.mem_append_right _ (List.mem_append_right _ (List.mem_append_right _ (List.mem_append_right _ (List.mem_append_right _ (List.mem_append_right _ (List.mem_append_right _ (List.mem_append_right _ (List.mem_append_right _ (List.mem_append_right _ (List.mem_append_right _ (List.mem_append_right _ (List.mem_append_right _ (List.mem_append_right _ (List.mem_append_left _ (h)))))))))))))))))))))))))))))))
theorem lg_r22 : ∀ w ∈ wsL_law0_r22, w ∈ lw_good := fun _ h => List.mem_append_left _ (List.mem_append_left _ (List.mem_append_left _ (List.mem_append_left _ (List.mem_append_left _ (List.mem_append_left _ (List.mem_append_left _ (List.mem_append_left _ (List.mem_append_left _ (List.mem_append_left _ (List.mem_append_right _ (List.mem_append_right _ (List.mem_append_right _ (List.mem_append_right _ (List.mem_append_right _ (List.mem_append_right _ (List.mem_append_right _ (List.mem_append_right _ (List.mem_append_right _ (List.mem_append_right _ (List.mem_append_right _ (List.mem_append_right _ (List.mem_append_right _ (List.mem_append_right _ (List.mem_append_right _ (List.mem_append_right _ (List.mem_append_right _ (List.mem_append_right _ (List.mem_append_right _ (List.mem_append_right _ (List.mem_append_right _ (List.mem_append_left _ (h))))))))))))))))))))))))))))))))
theorem lg_r23 : ∀ w ∈ wsL_law0_r23, w ∈ lw_good := fun _ h => List.mem_append_left _ (List.mem_append_left _ (List.mem_append_left _ (List.mem_append_left _ (List.mem_append_left _ (List.mem_append_left _ (List.mem_append_left _ (List.mem_append_left _ (List.mem_append_left _ (List.mem_append_left _ (List.mem_append_right _ (List.mem_append_right _ (List.mem_append_right _ (List.mem_append_right _ (List.mem_append_right _ (List.mem_append_right _ (List.mem_append_right _ (List.mem_append_right _ (List.mem_append_right _ (List.mem_append_right _ (List.mem_append_right _ (List.mem_append_right _ (List.mem_append_right _ (List.mem_append_right _ (List.mem_append_right _ (List.mem_append_right _ (List.mem_append_right _ (List.mem_append_right _ (List.mem_append_right _ (List.mem_append_right _ (List.mem_append_right _ (List.mem_append_right _ (List.mem_append_left _ (h)))))))))))))))))))))))))))))))))
theorem lg_r24 : ∀ w ∈ wsL_law0_r24, w ∈ lw_good := fun _ h => List.mem_append_left _ (List.mem_append_left _ (List.mem_append_left _ (List.mem_append_left _ (List.mem_append_left _ (List.mem_append_left _ (List.mem_append_left _ (List.mem_append_left _ (List.mem_append_left _ (List.mem_append_left _ (List.mem_append_right _ (List.mem_append_right _ (List.mem_append_right _ (List.mem_append_right _ (List.mem_append_right _ (List.mem_append_right _ (List.mem_append_right _ (List.mem_append_right _ (List.mem_append_right _ (List.mem_append_right _ (List.mem_append_right _ (List.mem_append_right _ (List.mem_append_right _ (List.mem_append_right _ (List.mem_append_right _ (List.mem_append_right _ (List.mem_append_right _ (List.mem_append_right _ (List.mem_append_right _ (List.mem_append_right _ (List.mem_append_right _ (List.mem_append_right _ (List.mem_append_right _ (List.mem_append_left _ (h))))))))))))))))))))))))))))))))))
theorem lg_r25 : ∀ w ∈ wsL_law0_r25, w ∈ lw_good := fun _ h => List.mem_append_left _ (List.mem_append_left _ (List.mem_append_left _ (List.mem_append_left _ (List.mem_append_left _ (List.mem_append_left _ (List.mem_append_left _ (List.mem_append_left _ (List.mem_append_left _ (List.mem_append_left _ (List.mem_append_right _ (List.mem_append_right _ (List.mem_append_right _ (List.mem_append_right _ (List.mem_append_right _ (List.mem_append_right _ (List.mem_append_right _ (List.mem_append_right _ (List.mem_append_right _ (List.mem_append_right _ (List.mem_append_right _ (List.mem_append_right _ (List.mem_append_right _ (List.mem_append_right _ (List.mem_append_right _ (List.mem_append_right _ (List.mem_append_right _ (List.mem_append_right _ (List.mem_append_right _ (List.mem_append_right _ (List.mem_append_right _ (List.mem_append_right _ (List.mem_append_right _ (List.mem_append_right _ (List.mem_append_left _ (h)))))))))))))))))))))))))))))))))))
theorem lg_r26 : ∀ w ∈ wsL_law0_r26, w ∈ lw_good := fun _ h => List.mem_append_left _ (List.mem_append_left _ (List.mem_append_left _ (List.mem_append_left _ (List.mem_append_left _ (List.mem_append_left _ (List.mem_append_left _ (List.mem_append_left _ (List.mem_append_left _ (List.mem_append_left _ (List.mem_append_right _ (List.mem_append_right _ (List.mem_append_right _ (List.mem_append_right _ (List.mem_append_right _ (List.mem_append_right _ (List.mem_append_right _ (List.mem_append_right _ (List.mem_append_right _ (List.mem_append_right _ (List.mem_append_right _ (List.mem_append_right _ (List.mem_append_right _ (List.mem_append_right _ (List.mem_append_right _ (List.mem_append_right _ (List.mem_append_right _ (List.mem_append_right _ (List.mem_append_right _ (List.mem_append_right _ (List.mem_append_right _ (List.mem_append_right _ (List.mem_append_right _ (List.mem_append_right _ (List.mem_append_right _ (List.mem_append_left _ (h))))))))))))))))))))))))))))))))))))
theorem lg_r27 : ∀ w ∈ wsL_law0_r27, w ∈ lw_good := fun _ h => List.mem_append_left _ (List.mem_append_left _ (List.mem_append_left _ (List.mem_append_left _ (List.mem_append_left _ (List.mem_append_left _ (List.mem_append_left _ (List.mem_append_left _ (List.mem_append_left _ (List.mem_append_left _ (List.mem_append_right _ (List.mem_append_right _ (List.mem_append_right _ (List.mem_append_right _ (List.mem_append_right _ (List.mem_append_right _ (List.mem_append_right _ (List.mem_append_right _ (List.mem_append_right _ (List.mem_append_right _ (List.mem_append_right _ (List.mem_append_right _ (List.mem_append_right _ (List.mem_append_right _ (List.mem_append_right _ (List.mem_append_right _ (List.mem_append_right _ (List.mem_append_right _ (List.mem_append_right _ (List.mem_append_right _ (List.mem_append_right _ (List.mem_append_right _ (List.mem_append_right _ (List.mem_append_right _ (List.mem_append_right _ (List.mem_append_right _ (List.mem_append_left _ (h)))))))))))))))))))))))))))))))))))))
theorem lg_r28 : ∀ w ∈ wsL_law0_r28, w ∈ lw_good := fun _ h => List.mem_append_left _ (List.mem_append_left _ (List.mem_append_left _ (List.mem_append_left _ (List.mem_append_left _ (List.mem_append_left _ (List.mem_append_left _ (List.mem_append_left _ (List.mem_append_left _ (List.mem_append_left _ (List.mem_append_right _ (List.mem_append_right _ (List.mem_append_right _ (List.mem_append_right _ (List.mem_append_right _ (List.mem_append_right _ (List.mem_append_right _ (List.mem_append_right _ (List.mem_append_right _ (List.mem_append_right _ (List.mem_append_right _ (List.mem_append_right _ (List.mem_append_right _ (List.mem_append_right _ (List.mem_append_right _ (List.mem_append_right _ (List.mem_append_right _ (List.mem_append_right _ (List.mem_append_right _ (List.mem_append_right _ (List.mem_append_right _ (List.mem_append_right _ (List.mem_append_right _ (List.mem_append_right _ (List.mem_append_right _ (List.mem_append_right _ (List.mem_append_right _ (List.mem_append_left _ (h))))))))))))))))))))))))))))))))))))))
theorem lg_r29 : ∀ w ∈ wsL_law0_r29, w ∈ lw_good := fun _ h => List.mem_append_left _ (List.mem_append_left _ (List.mem_append_left _ (List.mem_append_left _ (List.mem_append_left _ (List.mem_append_left _ (List.mem_append_left _ (List.mem_append_left _ (List.mem_append_left _ (List.mem_append_left _ (List.mem_append_right _ (List.mem_append_right _ (List.mem_append_right _ (List.mem_append_right _ (List.mem_append_right _ (List.mem_append_right _ (List.mem_append_right _ (List.mem_append_right _ (List.mem_append_right _ (List.mem_append_right _ (List.mem_append_right _ (List.mem_append_right _ (List.mem_append_right _ (List.mem_append_right _ (List.mem_append_right _ (List.mem_append_right _ (List.mem_append_right _ (List.mem_append_right _ (List.mem_append_right _ (List.mem_append_right _ (List.mem_append_right _ (List.mem_append_right _ (List.mem_append_right _ (List.mem_append_right _ (List.mem_append_right _ (List.mem_append_right _ (List.mem_append_right _ (List.mem_append_right _ (h))))))))))))))))))))))))))))))))))))))
theorem lg_wsX70 : ∀ w ∈ wsX70, w ∈ lw_good := fun _ h => List.mem_append_left _ (List.mem_append_left _ (List.mem_append_left _ (List.mem_append_left _ (List.mem_append_left _ (List.mem_append_left _ (List.mem_append_left _ (List.mem_append_left _ (List.mem_append_left _ (List.mem_append_right _ (h))))))))))
theorem lg_wsX80 : ∀ w ∈ wsX80, w ∈ lw_good := fun _ h => List.mem_append_left _ (List.mem_append_left _ (List.mem_append_left _ (List.mem_append_left _ (List.mem_append_left _ (List.mem_append_left _ (List.mem_append_left _ (List.mem_append_left _ (List.mem_append_right _ (h)))))))))
theorem lg_wsX30 : ∀ w ∈ wsX30, w ∈ lw_good := fun _ h => List.mem_append_left _ (List.mem_append_left _ (List.mem_append_left _ (List.mem_append_left _ (List.mem_append_left _ (List.mem_append_left _ (List.mem_append_left _ (List.mem_append_right _ (h))))))))
theorem lg_wsX00 : ∀ w ∈ wsX00, w ∈ lw_good := fun _ h => List.mem_append_left _ (List.mem_append_left _ (List.mem_append_left _ (List.mem_append_left _ (List.mem_append_left _ (List.mem_append_left _ (List.mem_append_right _ (h)))))))
theorem lg_wsX50 : ∀ w ∈ wsX50, w ∈ lw_good := fun _ h => List.mem_append_left _ (List.mem_append_left _ (List.mem_append_left _ (List.mem_append_left _ (List.mem_append_left _ (List.mem_append_right _ (h))))))
theorem lg_wsX60 : ∀ w ∈ wsX60, w ∈ lw_good := fun _ h => List.mem_append_left _ (List.mem_append_left _ (List.mem_append_left _ (List.mem_append_left _ (List.mem_append_right _ (h)))))
theorem lg_wsX20 : ∀ w ∈ wsX20, w ∈ lw_good := fun _ h => List.mem_append_left _ (List.mem_append_left _ (List.mem_append_left _ (List.mem_append_right _ (h))))
theorem lg_wsX40 : ∀ w ∈ wsX40, w ∈ lw_good := fun _ h => List.mem_append_left _ (List.mem_append_left _ (List.mem_append_right _ (h)))
theorem lg_wsX10 : ∀ w ∈ wsX10, w ∈ lw_good := fun _ h => List.mem_append_left _ (List.mem_append_right _ (h))
theorem ga_r1 : wsL_law0_r1.all goodWord = true := by decide +kernel
theorem ga_r2 : wsL_law0_r2.all goodWord = true := by decide +kernel
theorem ga_r3 : wsL_law0_r3.all goodWord = true := by decide +kernel
theorem ga_r4 : wsL_law0_r4.all goodWord = true := by decide +kernel
theorem ga_r5 : wsL_law0_r5.all goodWord = true := by decide +kernel
theorem ga_r6 : wsL_law0_r6.all goodWord = true := by decide +kernel
theorem ga_r7 : wsL_law0_r7.all goodWord = true := by decide +kernel
theorem ga_r8 : wsL_law0_r8.all goodWord = true := by decide +kernel
theorem ga_r9 : wsL_law0_r9.all goodWord = true := by decide +kernel
theorem ga_r10 : wsL_law0_r10.all goodWord = true := by decide +kernel
theorem ga_r11 : wsL_law0_r11.all goodWord = true := by decide +kernel
theorem ga_r12 : wsL_law0_r12.all goodWord = true := by decide +kernel
theorem ga_r13 : wsL_law0_r13.all goodWord = true := by decide +kernel
theorem ga_r14 : wsL_law0_r14.all goodWord = true := by decide +kernel
theorem ga_r15 : wsL_law0_r15.all goodWord = true := by decide +kernel
theorem ga_r16 : wsL_law0_r16.all goodWord = true := by decide +kernel
theorem ga_r17 : wsL_law0_r17.all goodWord = true := by decide +kernel
theorem ga_r18 : wsL_law0_r18.all goodWord = true := by decide +kernel
theorem ga_r19 : wsL_law0_r19.all goodWord = true := by decide +kernel
theorem ga_r20 : wsL_law0_r20.all goodWord = true := by decide +kernel
theorem ga_r21 : wsL_law0_r21.all goodWord = true := by decide +kernel
theorem ga_r22 : wsL_law0_r22.all goodWord = true := by decide +kernel
theorem ga_r23 : wsL_law0_r23.all goodWord = true := by decide +kernel
theorem ga_r24 : wsL_law0_r24.all goodWord = true := by decide +kernel
theorem ga_r25 : wsL_law0_r25.all goodWord = true := by decide +kernel
theorem ga_r26 : wsL_law0_r26.all goodWord = true := by decide +kernel
theorem ga_r27 : wsL_law0_r27.all goodWord = true := by decide +kernel
theorem ga_r28 : wsL_law0_r28.all goodWord = true := by decide +kernel
theorem ga_r29 : wsL_law0_r29.all goodWord = true := by decide +kernel
theorem ga_wsX70 : wsX70.all goodWord = true := by decide +kernel
theorem ga_wsX80 : wsX80.all goodWord = true := by decide +kernel
theorem ga_wsX30 : wsX30.all goodWord = true := by decide +kernel
theorem ga_wsX00 : wsX00.all goodWord = true := by decide +kernel
theorem ga_wsX50 : wsX50.all goodWord = true := by decide +kernel
theorem ga_wsX60 : wsX60.all goodWord = true := by decide +kernel
theorem ga_wsX20 : wsX20.all goodWord = true := by decide +kernel
theorem ga_wsX40 : wsX40.all goodWord = true := by decide +kernel
theorem ga_wsX10 : wsX10.all goodWord = true := by decide +kernel
theorem lw_good_all : wsL_law0.all goodWord = true := by
  unfold wsL_law0
  simp only [List.all_append, List.all_nil, Bool.and_true, ga_r1, ga_r2, ga_r3, ga_r4, ga_r5, ga_r6, ga_r7, ga_r8, ga_r9, ga_r10, ga_r11, ga_r12, ga_r13, ga_r14, ga_r15, ga_r16, ga_r17, ga_r18, ga_r19, ga_r20, ga_r21, ga_r22, ga_r23, ga_r24, ga_r25, ga_r26, ga_r27, ga_r28, ga_r29, ga_wsX70, ga_wsX80, ga_wsX30, ga_wsX00, ga_wsX50, ga_wsX60, ga_wsX20, ga_wsX40, ga_wsX10]
theorem lw_good_ok : ∀ w ∈ lw_good, (w.onTables && w.keeps) = true ∨ ∃ ty, w = .arrayClass ty := fun w h => good_of_word (List.all_eq_true.mp lw_good_all w h)
abbrev zS : Type := Nat → Nat → Int32
def zr (σ : zS) (k : Nat) (f : Nat → Int32) : zS := fun k' => if k' = k then f else σ k'
def zu (σ : zS) (k j : Nat) (v : Int32) : zS := zr σ k (upd (σ k) j v)
def zF : Nat := 100000
/-- launch; class numbers and slots; cells' addresses; array classes; the heap's size at the start; static tables' addresses -/
abbrev zG : Type := Launch × va_G × (Nat → Nat) × (Nat → ClassId) × Nat × (Nat → Nat)
abbrev zl (E : zG) : Launch := E.1
abbrev zD (E : zG) : va_G := E.2.1
abbrev zad (E : zG) : Nat → Nat := E.2.2.1
abbrev zac (E : zG) : Nat → ClassId := E.2.2.2.1
abbrev zZ (E : zG) : Nat := E.2.2.2.2.1
abbrev zst (E : zG) : Nat → Nat := E.2.2.2.2.2
def zA (E : zG) : Nat → Prop := fun q => zZ E ≤ q
abbrev z_cl : List vw_C := vwCl
def z_ty (E : zG) : List (ClassId × FieldType) := [(zac E 0, .int), (zac E 1, .boolean), (zac E 2, .object "ZMemory$Frame")]
def tb_0 (j : Nat) : Int32 := ([2, 2, 2, 2, 2, 2, 2, 1, 2, 2, 3, 3, 3, 1, 1, 1, 2, 2, 3, 3, 3, 1, 1, 1, 0, 2, 3, 3, 1, 1, 1, 3, 0] : List Int32).getD j 0
def z_stat (E : zG) : List (String × String × String × Nat × Nat × (Nat → Value)) := [("ZMemory", "OPERANDS", "[I", zst E 0, 33, fun j => .int (tb_0 j))]
theorem st_0 (E : zG) : ("ZMemory", "OPERANDS", "[I", zst E 0, 33, fun j => Value.int (tb_0 j)) ∈ z_stat E := List.mem_cons_self
def z_nest : List Cond := [.fieldLinkNest RX7 174 "ZMemory$Chance" "taped" "I" "ZMemory", .fieldLinkNest RX6 110 "ZMemory$Program" "operands" "[I" "ZMemory", .fieldLinkNest RX6 116 "ZMemory$Program" "stores" "[I" "ZMemory", .fieldLinkNest RX7 173 "ZMemory$Program" "length" "I" "ZMemory", .fieldLinkNest RX6 228 "ZMemory$Program" "starts" "[I" "ZMemory", .fieldLinkNest RX6 231 "ZMemory$Program" "locals" "[I" "ZMemory", .fieldLinkNest RX6 241 "ZMemory$Program" "guards" "[Z" "ZMemory", .fieldLinkNest RX2 32 "ZMemory$Frame" "locals" "[I" "ZMemory", .fieldLinkNest RX6 234 "ZMemory$Frame" "localCount" "I" "ZMemory", .fieldLinkNest RX6 225 "ZMemory$Frame" "routine" "I" "ZMemory", .fieldLinkNest RX6 96 "ZMemory$Frame" "next" "I" "ZMemory", .fieldLinkNest RX6 237 "ZMemory$Frame" "store" "I" "ZMemory", .fieldLinkNest RX2 41 "ZMemory$Frame" "floor" "I" "ZMemory", .fieldLinkNest RX6 175 "ZMemory$Frames" "count" "I" "ZMemory", .fieldLinkNest RX7 168 "ZMemory$Frames" "most" "I" "ZMemory", .fieldLinkNest RX6 51 "ZMemory$Page" "length" "I" "ZMemory", .fieldLinkNest RX7 159 "ZMemory$Page" "length" "I" "ZMemory", .fieldLinkNest RX7 164 "ZMemory$Runner" "frames" "LZMemory$Frames;" "ZMemory", .fieldLinkNest RX7 155 "ZMemory$Runner" "page" "LZMemory$Page;" "ZMemory", .fieldLinkNest RX7 185 "ZMemory$Runner" "leavings" "[I" "ZMemory", .fieldLinkNest RX7 97 "ZMemory$Runner" "globe" "I" "ZMemory", .fieldLinkNest RX7 101 "ZMemory$Runner" "form" "I" "ZMemory", .fieldLinkNest RX7 140 "ZMemory$Runner" "steps" "I" "ZMemory", .fieldLinkNest RX7 143 "ZMemory$Runner" "returned" "I" "ZMemory", .fieldLinkNest RX7 146 "ZMemory$Runner" "unguarded" "I" "ZMemory", .fieldLinkNest RX7 149 "ZMemory$Runner" "guarded" "I" "ZMemory", .fieldLinkNest RX7 152 "ZMemory$Runner" "arrived" "I" "ZMemory", .fieldLinkNest RX6 107 "ZMemory" "OPERANDS" "[I" "ZMemory", .methodLinkNest RX7 11 yX3_init "ZMemory", .methodLinkNest RX7 18 yX0_init "ZMemory", .methodLinkNest RX7 25 yX5_init "ZMemory", .methodLinkNest RX2 21 yX1_init "ZMemory", .methodLinkNest RX6 20 yX4_init "ZMemory", .methodLinkNest RX5 38 yX7_isWithin "ZMemory", .methodLinkNest RX6 133 yX7_number "ZMemory", .methodLinkNest RX6 136 yX7_arithmetic "ZMemory", .methodLinkNest RX6 204 yX7_word "ZMemory"]
def z_isN : Cond → Bool
  | .fieldLinkNest .. => true
  | .methodLinkNest .. => true
  | _ => false
theorem z_nestN : ∀ w ∈ z_nest, z_isN w = true := List.all_eq_true.mp (by rfl)
def z_N : Nat := 45
def z_E (E : zG) (k : Nat) (f : Nat → Int32) : va_E := match k with
  | 0 => .inr (7, [.ref (zad E 1), .ref (zad E 3), .ref (zad E 5), .ref (zad E 13)])
  | 1 => .inr (3, [.ref (zad E 2), .int (f 1), .int (f 2)])
  | 2 => .inl (zac E 0, 2000, .inl f)
  | 3 => .inr (0, [.ref (zad E 4), .int (f 1), .int (f 2), .int (f 3), .int (f 4), .int (f 5), .int (f 6)])
  | 4 => .inl (zac E 0, 50, .inl f)
  | 5 => .inr (5, [.ref (zad E 6), .ref (zad E 7), .ref (zad E 8), .int (f 3), .ref (zad E 9), .ref (zad E 10), .ref (zad E 11), .ref (zad E 12)])
  | 6 => .inl (zac E 0, 100, .inl f)
  | 7 => .inl (zac E 0, 300, .inl f)
  | 8 => .inl (zac E 0, 100, .inl f)
  | 9 => .inl (zac E 1, 8, .inl f)
  | 10 => .inl (zac E 0, 8, .inl f)
  | 11 => .inl (zac E 0, 8, .inl f)
  | 12 => .inl (zac E 1, 8, .inl f)
  | 13 => .inr (6, [.ref (zad E 1), .ref (zad E 3), .ref (zad E 5), .ref (zad E 14), .ref (zad E 41), .ref (zad E 43), .ref (zad E 44), .int (f 7), .int (f 8), .int (f 9), .int (f 10), .int (f 11), .int (f 12), .int (f 13), .int (f 14), .int (f 15), .int (f 16)])
  | 14 => .inr (2, [.ref (zad E 15), .ref (zad E 40), .int (f 2), .int (f 3), .int (f 4)])
  | 15 => .inl (zac E 2, 12, .inr (.inr (.inr (.inr (fun j => some (zad E (16 + 2 * j)))))))
  | 40 => .inl (zac E 0, 100, .inl f)
  | 41 => .inr (4, [.ref (zad E 42), .int (f 1)])
  | 42 => .inl (zac E 0, 120, .inl f)
  | 43 => .inl (zac E 0, 8, .inl f)
  | 44 => .inl (zac E 0, 3, .inl f)
  | k => if k % 2 = 0 then .inr (1, [.ref (zad E (k + 1)), .int (f 1), .int (f 2), .int (f 3), .int (f 4), .int (f 5)]) else .inl (zac E 0, 15, .inl f)
theorem lt_F {i : Nat} (hi : i < 12) : 16 + 2 * i < z_N := by unfold z_N; omega
theorem lt_FL {i : Nat} (hi : i < 12) : 17 + 2 * i < z_N := by unfold z_N; omega
theorem ly_F {E : zG} {i : Nat} (hi : i < 12) (f : Nat → Int32) : z_E E (16 + 2 * i) f = .inr (1, [.ref (zad E (17 + 2 * i)), .int (f 1), .int (f 2), .int (f 3), .int (f 4), .int (f 5)]) := by
  rcases (show i = 0 ∨ i = 1 ∨ i = 2 ∨ i = 3 ∨ i = 4 ∨ i = 5 ∨ i = 6 ∨ i = 7 ∨ i = 8 ∨ i = 9 ∨ i = 10 ∨ i = 11 by omega) with rfl | rfl | rfl | rfl | rfl | rfl | rfl | rfl | rfl | rfl | rfl | rfl <;> rfl
theorem ly_FL {E : zG} {i : Nat} (hi : i < 12) (f : Nat → Int32) : z_E E (17 + 2 * i) f = .inl (zac E 0, 15, .inl f) := by
  rcases (show i = 0 ∨ i = 1 ∨ i = 2 ∨ i = 3 ∨ i = 4 ∨ i = 5 ∨ i = 6 ∨ i = 7 ∨ i = 8 ∨ i = 9 ∨ i = 10 ∨ i = 11 by omega) with rfl | rfl | rfl | rfl | rfl | rfl | rfl | rfl | rfl | rfl | rfl | rfl <;> rfl
theorem ly_Fs {E : zG} {i : Nat} (hi : i < 12) (f : Nat → Int32) (j : Nat) (x : Int32) (hj : 1 ≤ j ∧ j < 6) : z_E E (16 + 2 * i) (upd f j x) = .inr (1, ([.ref (zad E (17 + 2 * i)), .int (f 1), .int (f 2), .int (f 3), .int (f 4), .int (f 5)] : List Value).set j (.int x)) := by
  rw [ly_F hi]
  rcases (show j = 1 ∨ j = 2 ∨ j = 3 ∨ j = 4 ∨ j = 5 by omega) with rfl | rfl | rfl | rfl | rfl <;> rfl
/-- the cells' addresses are apart, and new -/
def zAp (E : zG) : Prop := (∀ i j : Nat, i < z_N → j < z_N → zad E i = zad E j → i = j) ∧ ∀ k : Nat, k < z_N → zZ E ≤ zad E k
def zCl (ci : Nat) (Cn : String) (T : u_T) (N : Nat) (ty : Nat → FieldType) : Prop := (∀ w ∈ u_ws Cn T N, w ∈ lw_good) ∧ z_cl[ci]? = some (Cn, T, N) ∧ (∀ k, k < N → parseFieldDescriptor (T k).2.2.1 = some (ty k)) ∧ ∀ a, a < N → ∀ b, b < N → a ≠ b → (T a).2.1 ≠ (T b).2.1
theorem K_X0 : zCl 0 RX0 TX0 7 tyX0 := ⟨lg_wsX00, rfl, tyX0_ok, nmX0⟩
theorem K_X1 : zCl 1 RX1 TX1 6 tyX1 := ⟨lg_wsX10, rfl, tyX1_ok, nmX1⟩
theorem K_X2 : zCl 2 RX2 TX2 5 tyX2 := ⟨lg_wsX20, rfl, tyX2_ok, nmX2⟩
theorem K_X3 : zCl 3 RX3 TX3 3 tyX3 := ⟨lg_wsX30, rfl, tyX3_ok, nmX3⟩
theorem K_X4 : zCl 4 RX4 TX4 2 tyX4 := ⟨lg_wsX40, rfl, tyX4_ok, nmX4⟩
theorem K_X5 : zCl 5 RX5 TX5 8 tyX5 := ⟨lg_wsX50, rfl, tyX5_ok, nmX5⟩
theorem K_X6 : zCl 6 RX6 TX6 17 tyX6 := ⟨lg_wsX60, rfl, tyX6_ok, nmX6⟩
theorem K_X7 : zCl 7 RX7 TX7 4 tyX7 := ⟨lg_wsX70, rfl, tyX7_ok, nmX7⟩
theorem K_X8 : zCl 8 RX8 TX8 41 tyX8 := ⟨lg_wsX80, rfl, tyX8_ok, nmX8⟩
end
section
/-! The layer over the kit: ONE world. All cells of the system stand in one list, by their numbers; what they hold is ONE function σ (cell, place). A method's picture is a program 'Option (answer × σ)': none where the machine itself would throw, or where the fuel is out. -/
abbrev zX : Type := Program × Env × State × MethodId × Array Value × List Frame × Method × Code
def zc {ρ : Type} (i : Int32) (n : Nat) (P : Option ρ) : Option ρ := if i < 0 ∨ n ≤ i.toNatClampNeg then none else P
def zd {ρ : Type} (y : Int32) (P : Option ρ) : Option ρ := if y = 0 then none else P
theorem zc_in {ρ : Type} {i : Int32} {n : Nat} {P : Option ρ} (h : vp_in i n) : zc i n P = P := if_neg h
theorem zc_some {ρ : Type} {i : Int32} {n : Nat} {P : Option ρ} {z : ρ} (h : zc i n P = some z) : vp_in i n ∧ P = some z := by
  unfold zc at h
  by_cases c : i < 0 ∨ n ≤ i.toNatClampNeg
  · rw [if_pos c] at h; cases h
  · rw [if_neg c] at h; exact ⟨c, h⟩
theorem zd_some {ρ : Type} {y : Int32} {P : Option ρ} {z : ρ} (h : zd y P = some z) : ¬ y = 0 ∧ P = some z := by
  unfold zd at h
  by_cases c : y = 0
  · rw [if_pos c] at h; cases h
  · rw [if_neg c] at h; exact ⟨c, h⟩
def zlet {α : Type} {ρ : Type} (a : α) (K : α → Option ρ) : Option ρ := K a
def zbind {α ρ : Type} (q : Option (α × zS)) (K : α → zS → Option ρ) : Option ρ := match q with
  | none => none
  | some (a, σ) => K a σ
def zop {ρ : Type} (r : Option Nat) (N : Nat) (P : Option ρ) (K : Nat → Option ρ) : Option ρ := match r with
  | none => P
  | some i => if i < N then K i else none
def zcp {ρ : Type} (sp dp n : Int32) (n0 n1 : Nat) (P : Option ρ) : Option ρ := if sp < 0 ∨ dp < 0 ∨ n < 0 ∨ n0 < sp.toNatClampNeg + n.toNatClampNeg ∨ n1 < dp.toNatClampNeg + n.toNatClampNeg then none else P
theorem zcp_some {ρ : Type} {sp dp n : Int32} {n0 n1 : Nat} {P : Option ρ} {z : ρ} (h : zcp sp dp n n0 n1 P = some z) : ¬ sp < 0 ∧ ¬ dp < 0 ∧ ¬ n < 0 ∧ sp.toNatClampNeg + n.toNatClampNeg ≤ n0 ∧ dp.toNatClampNeg + n.toNatClampNeg ≤ n1 ∧ P = some z := by
  unfold zcp at h
  by_cases c : sp < 0 ∨ dp < 0 ∨ n < 0 ∨ n0 < sp.toNatClampNeg + n.toNatClampNeg ∨ n1 < dp.toNatClampNeg + n.toNatClampNeg
  · rw [if_pos c] at h; cases h
  · rw [if_neg c] at h
    refine ⟨fun q => c (Or.inl q), fun q => c (Or.inr (Or.inl q)), fun q => c (Or.inr (Or.inr (Or.inl q))), ?_, ?_, h⟩
    · exact Nat.not_lt.mp fun q => c (Or.inr (Or.inr (Or.inr (Or.inl q))))
    · exact Nat.not_lt.mp fun q => c (Or.inr (Or.inr (Or.inr (Or.inr q))))
def zfill (f : Nat → Int32) (n : Nat) (v : Int32) : Nat → Int32 := fun j => if j < n then v else f j
def zushr (x y : Int32) : Int32 := (x.toUInt32 >>> (y.toUInt32 &&& Int32.toUInt32 31)).toInt32
theorem zb_some {α β : Type} {q : Option (α × zS)} {K : α → zS → Option β} {z : β} (h : zbind q K = some z) : ∃ a σ, q = some (a, σ) ∧ K a σ = some z := by
  cases q with
  | none => cases h
  | some a => exact ⟨a.1, a.2, rfl, h⟩
/-! the world -/
def zW (E : zG) (σ : zS) : va_W := (List.range z_N).map (fun k => (zad E k, z_E E k (σ k)))
theorem zW_at {E : zG} {σ : zS} {k : Nat} (hk : k < z_N) : (zW E σ)[k]? = some (zad E k, z_E E k (σ k)) := by
  unfold zW
  rw [List.getElem?_map, List.getElem?_range hk]
  rfl
theorem zW_set {E : zG} {σ : zS} {k : Nat} (hk : k < z_N) (f : Nat → Int32) : (zW E σ).set k (zad E k, z_E E k f) = zW E (zr σ k f) := by
  apply List.ext_getElem?
  intro i
  have hlen : (zW E σ).length = z_N := by unfold zW; rw [List.length_map, List.length_range]
  have hlen2 : (zW E (zr σ k f)).length = z_N := by unfold zW; rw [List.length_map, List.length_range]
  by_cases hi : i < z_N
  · rw [zW_at hi]
    by_cases hik : i = k
    · subst hik
      rw [List.getElem?_set_self (by rw [hlen]; exact hi)]
      unfold zr
      rw [if_pos rfl]
    · rw [List.getElem?_set_ne (Ne.symm hik), zW_at hi]
      unfold zr
      rw [if_neg hik]
  · rw [List.getElem?_eq_none (by rw [List.length_set, hlen]; omega), List.getElem?_eq_none (by rw [hlen2]; omega)]
theorem zW_D {E : zG} (h : zAp E) (σ : zS) : va_D (zA E) (zW E σ) := by
  have key : ∀ (k : Nat) (q : Nat × va_E), (zW E σ)[k]? = some q → k < z_N ∧ q.1 = zad E k := by
    intro k q hk
    have hl := (List.getElem?_eq_some_iff.mp hk).1
    have hlen : (zW E σ).length = z_N := by unfold zW; rw [List.length_map, List.length_range]
    rw [hlen] at hl
    rw [zW_at hl] at hk
    exact ⟨hl, by rw [← Option.some.inj hk]⟩
  refine ⟨fun i j p q hi hj hpq => ?_, fun k q hk => ?_⟩
  · obtain ⟨a1, a2⟩ := key i p hi
    obtain ⟨b1, b2⟩ := key j q hj
    exact h.1 i j a1 b1 (by rw [← a2, ← b2]; exact hpq)
  · obtain ⟨a1, a2⟩ := key k q hk
    show zZ E ≤ q.1
    rw [a2]; exact h.2 k a1
/-! what stands of the tables -/
theorem z_warm {w : Cond} (h : z_isN w = true) {s U : State} (hW : s.WarmedH U.vm) (hZ : va_Nw w s) : va_Nw w U := by
  cases w <;> first | exact va_Nw.warmF hW hZ | exact va_Nw.warmM hW hZ | cases h
theorem z_same {w : Cond} (h : z_isN w = true) {s U : State} (hv : s.vm = U.vm) (hZ : va_Nw w s) : va_Nw w U := by
  cases w <;> first | exact va_Nw.same rfl hv hZ | cases h
def zK (E : zG) (U : State) : Prop := va_K (zD E) z_cl (z_ty E) U ∧ (∀ w ∈ z_nest, va_Nw w U) ∧ ∀ q ∈ z_stat E, va_Z q.1 q.2.1 q.2.2.1 (.ref q.2.2.2.1) (zA E) U U.heap ∧ va_T .int q.2.2.2.1 q.2.2.2.2.1 q.2.2.2.2.2 (zA E) U U.heap
theorem zK.go {E : zG} {s U : State} (h : zK E s) (hW : s.WarmedH U.vm) (hH : ∀ a : Nat, a < s.heap.size → ¬ zA E a → U.heap[a]? = s.heap[a]?) : zK E U :=
  ⟨va_K.moved hW.alike h.1, fun w hw => z_warm (z_nestN w hw) hW (h.2.1 w hw), fun q hq => ⟨(va_Z.moved hW.alike (h.2.2 q hq).1).kept hH, (va_T.moved hW.alike (h.2.2 q hq).2).kept hH⟩⟩
theorem zK.eqv {E : zG} {s U : State} (h : zK E s) (hv : s.vm = U.vm) (hH : U.heap = s.heap) : zK E U := by
  have ha : s.vm.Alike U.vm := hv ▸ Vm.Alike.refl s.vm
  exact ⟨va_K.moved ha h.1, fun w hw => z_same (z_nestN w hw) hv (h.2.1 w hw), fun q hq => ⟨by rw [hH]; exact va_Z.moved ha (h.2.2 q hq).1, by rw [hH]; exact va_T.moved ha (h.2.2 q hq).2⟩⟩
/-! a method's contract by its program -/
def zQ (E : zG) (v : Option Value) (σ : zS) : Array Value → State → Outcome → State → Prop := fun _ st oc t => oc = .returned v ∧ va_P (zD E) z_cl (zW E σ) t.heap ∧ va_F (zA E) st t
def zPc (E : zG) (σ : zS) (av : List Value) : Array Value → State → Prop := va_Pc av (fun U => va_P (zD E) z_cl (zW E σ) U.heap ∧ zK E U)
theorem zPc_blind {E : zG} {σ : zS} {av : List Value} : FrameBlind (zPc E σ av) := fun _ U g mk q => ⟨q.1, q.2.1, zK.eqv (U := U.calling g mk _) q.2.2 rfl rfl⟩
abbrev zws (y : MethodName) (bytes : ByteArray) (maxL : Nat) (ret : Option FieldType) : List Cond := Cond.code y bytes maxL ret :: lw_good
def zM (E : zG) (y : MethodName) (bytes : ByteArray) (maxL : Nat) (ret : Option FieldType) (rm : Room) {ρ : Type} (rv : ρ → Option Value) (av : List Value) (q : Option (ρ × zS)) (σ : zS) : Prop :=
  ∀ z, q = some z → Met (zl E) y (zws y bytes maxL ret) rm (zPc E σ av) (zQ E (rv z.1) z.2) 0 0 (zA E)
/-! the locals, by their places -/
def zL (ls : Array Slot) (nL : Nat) (lv : List (Option Value)) : Prop := ls.size = nL ∧ lv_wf ls ∧ ∀ (i : Nat) (v : Value), lv[i]? = some (some v) → ls[i]? = some (.val v) ∧ v.category = 1
def zP (lv : List (Option Value)) : List (Nat × Value) := lv.zipIdx.filterMap (fun q => q.1.map (fun v => (q.2, v)))
theorem zP_mem {lv : List (Option Value)} {i : Nat} {v : Value} : (i, v) ∈ zP lv ↔ lv[i]? = some (some v) := by
  unfold zP
  rw [List.mem_filterMap]
  constructor
  · rintro ⟨⟨o, j⟩, h1, h2⟩
    cases o with
    | none => cases h2
    | some w =>
      have e : (j, w) = (i, v) := Option.some.inj h2
      cases e
      exact List.mk_mem_zipIdx_iff_getElem?.mp h1
  · intro h
    exact ⟨(some v, i), List.mk_mem_zipIdx_iff_getElem?.mpr h, rfl⟩
theorem zL.has {ls : Array Slot} {nL : Nat} {lv : List (Option Value)} (h : zL ls nL lv) : lv_has ls nL (zP lv) :=
  ⟨h.1, h.2.1, fun q hq => (h.2.2 q.1 q.2 (zP_mem.mp hq)).1⟩
theorem zL.put {ls' ls : Array Slot} {nL i : Nat} {lv : List (Option Value)} {x : Value} (h : zL ls nL lv) (hc : x.category = 1) (h' : lv_has ls' nL ((i, x) :: (zP lv).filter (fun q => !(q.1 == i) && !(q.1 + 1 == i && q.2.category == 2)))) : zL ls' nL (lv.set i (some x)) := by
  refine ⟨h'.1, h'.2.1, fun j v hj => ?_⟩
  by_cases hji : j = i
  · subst hji
    have hl : j < lv.length := by
      have := (List.getElem?_eq_some_iff.mp hj).1
      rw [List.length_set] at this
      exact this
    rw [List.getElem?_set_self hl] at hj
    cases hj
    exact ⟨h'.2.2 (j, x) List.mem_cons_self, hc⟩
  · rw [List.getElem?_set_ne (Ne.symm hji)] at hj
    have h1 := h.2.2 j v hj
    refine ⟨h'.2.2 (j, v) (List.mem_cons_of_mem _ (List.mem_filter.mpr ⟨zP_mem.mpr hj, ?_⟩)), h1.2⟩
    simp [hji, h1.2]
def zmask : List (Option Value) → List Bool → List (Option Value)
  | [], _ => []
  | _ :: _, [] => []
  | a :: l, b :: r => (if b then a else none) :: zmask l r
theorem zmask_at : ∀ (lv : List (Option Value)) (mk : List Bool) (i : Nat) (v : Value), (zmask lv mk)[i]? = some (some v) → lv[i]? = some (some v)
  | [], _, i, v, h => by simp [zmask] at h
  | _ :: _, [], i, v, h => by simp [zmask] at h
  | a :: l, b :: r, 0, v, h => by
    cases b with
    | true => simpa [zmask] using h
    | false => simp [zmask] at h
  | a :: l, b :: r, i + 1, v, h => by
    have h' : (zmask l r)[i]? = some (some v) := by simpa [zmask] using h
    simpa using zmask_at l r i v h'
/-! the judgement -/
def zO (E : zG) (Γ : zX) (own : String) (cc : ByteArray) (nL : Nat) (ret : Option FieldType) : Prop :=
  match Γ with
  | (p, _, s, m, args, _, meth, c) => p.tables.exec = Jvm.exec ∧ c.code = cc ∧ c.maxLocals = nL ∧ meth.sig.returnType = ret ∧ s.vm.findClass own = some m.cls ∧ (∀ w ∈ lw_good, w.before args s = true) ∧ zK E s ∧ zAp E ∧ meth.locks = false
def zJg (E : zG) (Γ : zX) (R : Room) (nL : Nat) {ρ : Type} (Q : ρ × zS → State → Prop) (cx sx : Nat) (P : Option (ρ × zS)) (σ : zS) (pc : Nat) (lv : List (Option Value)) (st : List Value) : Prop :=
  match Γ with
  | (p, e, s, m, args, below, meth, c) => ∀ z : ρ × zS, P = some z → ∀ (H : Heap) (locs : List Loc) (ls : Array Slot), va_P (zD E) z_cl (zW E σ) H → va_S (zA E) s.heap H locs → zL ls nL lv → W p (zl E) e R s m args below meth c H locs cx sx (Q z) (F0 m pc ls st)
/-- the end of a method that makes nothing -/
def zQm (E : zG) (Γ : zX) {ρ : Type} (rv : ρ → Option Value) : ρ × zS → State → Prop := fun z => match Γ with
  | (_, _, s, _, args, below, _, _) => MQ below (zQ E (rv z.1) z.2) args s 0 0 (zA E)
abbrev zJ (E : zG) (Γ : zX) (R : Room) (nL : Nat) {ρ : Type} (rv : ρ → Option Value) (P : Option (ρ × zS)) (σ : zS) (pc : Nat) (lv : List (Option Value)) (st : List Value) : Prop := zJg E Γ R nL (zQm E Γ rv) 0 0 P σ pc lv st
def zrf (E : zG) (b : Nat) (r : Option Nat) : Option Value := some (match r with
  | none => .null
  | some i => .ref (zad E (b + 2 * i)))
theorem zO.ap {E : zG} {Γ : zX} {own : String} {cc : ByteArray} {nL : Nat} {ret : Option FieldType} (C : zO E Γ own cc nL ret) : zAp E := by
  obtain ⟨p, e, s, m, args, below, meth, c⟩ := Γ
  obtain ⟨hx, hb, hml, hr, hown, hts, hK, hAp, hlk⟩ := C
  exact hAp
end
section
section zRows
variable {E : zG} {Γ : zX} {R : Room} {nL : Nat} {ρ : Type} {rv : ρ → Option Value} {Q : ρ × zS → State → Prop} {cx sx : Nat} {P P1 P2 : Option (ρ × zS)} {K2 : zS → Option (ρ × zS)} {σ : zS} {pc : Nat} {lv : List (Option Value)} {rest : List Value} {own : String} {cc : ByteArray} {ret : Option FieldType}
theorem r_iconst {n : Int} {v : Int32} (C : zO E Γ own cc nL ret) (hd : decode cc pc = .ok (.iconst n, 1)) (hv : Int32.ofInt n = v) (k : zJg E Γ R nL Q cx sx P σ (pc + 1) lv (.int v :: rest)) : zJg E Γ R nL Q cx sx P σ pc lv (rest) := by
  obtain ⟨p, e, s, m, args, below, meth, c⟩ := Γ
  obtain ⟨hx, hb, hml, hr, hown, hts, hK, hAp, hlk⟩ := C
  intro z hz H locs ls hP hS hl
  exact lv_iconst hx hb hd hv (k z hz H locs ls hP hS hl)
theorem r_bipush {n : Int} {v : Int32} (C : zO E Γ own cc nL ret) (hd : decode cc pc = .ok (.bipush n, 2)) (hv : (Int8.ofInt n).toInt32 = v) (k : zJg E Γ R nL Q cx sx P σ (pc + 2) lv (.int v :: rest)) : zJg E Γ R nL Q cx sx P σ pc lv (rest) := by
  obtain ⟨p, e, s, m, args, below, meth, c⟩ := Γ
  obtain ⟨hx, hb, hml, hr, hown, hts, hK, hAp, hlk⟩ := C
  intro z hz H locs ls hP hS hl
  exact lv_bipush hx hb hd hv (k z hz H locs ls hP hS hl)
theorem r_sipush {n : Int} {v : Int32} (C : zO E Γ own cc nL ret) (hd : decode cc pc = .ok (.sipush n, 3)) (hv : (Int16.ofInt n).toInt32 = v) (k : zJg E Γ R nL Q cx sx P σ (pc + 3) lv (.int v :: rest)) : zJg E Γ R nL Q cx sx P σ pc lv (rest) := by
  obtain ⟨p, e, s, m, args, below, meth, c⟩ := Γ
  obtain ⟨hx, hb, hml, hr, hown, hts, hK, hAp, hlk⟩ := C
  intro z hz H locs ls hP hS hl
  exact lv_sipush hx hb hd hv (k z hz H locs ls hP hS hl)
theorem r_ldc {v : Int32} {index : Nat} (C : zO E Γ own cc nL ret) (hd : decode cc pc = .ok (.ldc index, 2)) (hc : Cond.constant own index v ∈ lw_good) (k : zJg E Γ R nL Q cx sx P σ (pc + 2) lv (.int v :: rest)) : zJg E Γ R nL Q cx sx P σ pc lv rest := by
  obtain ⟨p, e, s, m, args, below, meth, c⟩ := Γ
  obtain ⟨hx, hb, hml, hr, hown, hts, hK, hAp, hlk⟩ := C
  intro z hz H locs ls hP hS hl
  exact lv_ldc hx hb hown (hts _ hc) hd (k z hz H locs ls hP hS hl)
theorem r_null (C : zO E Γ own cc nL ret) (hd : decode cc pc = .ok (.aconst_null, 1)) (k : zJg E Γ R nL Q cx sx P σ (pc + 1) lv (.null :: rest)) : zJg E Γ R nL Q cx sx P σ pc lv (rest) := by
  obtain ⟨p, e, s, m, args, below, meth, c⟩ := Γ
  obtain ⟨hx, hb, hml, hr, hown, hts, hK, hAp, hlk⟩ := C
  intro z hz H locs ls hP hS hl
  exact lv_null hx hb hd (k z hz H locs ls hP hS hl)
theorem r_iload_n {x : Int32} {i : Fin 4} (C : zO E Γ own cc nL ret) (hd : decode cc pc = .ok (.iload_n i, 1)) (hv : lv[(i : Nat)]? = some (some (.int x))) (k : zJg E Γ R nL Q cx sx P σ (pc + 1) lv (.int x :: rest)) : zJg E Γ R nL Q cx sx P σ pc lv rest := by
  obtain ⟨p, e, s, m, args, below, meth, c⟩ := Γ
  obtain ⟨hx, hb, hml, hr, hown, hts, hK, hAp, hlk⟩ := C
  intro z hz H locs ls hP hS hl
  exact lv_iload_n hx hb hd rfl (hl.2.2 _ _ hv).1 (k z hz H locs ls hP hS hl)
theorem r_iload {x : Int32} {i : Nat} (C : zO E Γ own cc nL ret) (hd : decode cc pc = .ok (.iload i, 2)) (hv : lv[i]? = some (some (.int x))) (k : zJg E Γ R nL Q cx sx P σ (pc + 2) lv (.int x :: rest)) : zJg E Γ R nL Q cx sx P σ pc lv rest := by
  obtain ⟨p, e, s, m, args, below, meth, c⟩ := Γ
  obtain ⟨hx, hb, hml, hr, hown, hts, hK, hAp, hlk⟩ := C
  intro z hz H locs ls hP hS hl
  exact lv_iload hx hb hd (hl.2.2 _ _ hv).1 (k z hz H locs ls hP hS hl)
theorem r_istore_n {x : Int32} {i : Fin 4} {lv' : List (Option Value)} (C : zO E Γ own cc nL ret) (hd : decode cc pc = .ok (.istore_n i, 1)) (hn : (i : Nat) < nL) (hv : lv.set (i : Nat) (some (.int x)) = lv') (k : zJg E Γ R nL Q cx sx P σ (pc + 1) lv' rest) : zJg E Γ R nL Q cx sx P σ pc lv (.int x :: rest) := by
  obtain ⟨p, e, s, m, args, below, meth, c⟩ := Γ
  obtain ⟨hx, hb, hml, hr, hown, hts, hK, hAp, hlk⟩ := C
  intro z hz H locs ls hP hS hl
  subst hv
  exact lv_istore_n hx hb hd rfl hl.has hn rfl (fun ls' h' => k z hz H locs ls' hP hS (hl.put rfl h'))
theorem r_istore {x : Int32} {i : Nat} {lv' : List (Option Value)} (C : zO E Γ own cc nL ret) (hd : decode cc pc = .ok (.istore i, 2)) (hn : i < nL) (hv : lv.set i (some (.int x)) = lv') (k : zJg E Γ R nL Q cx sx P σ (pc + 2) lv' rest) : zJg E Γ R nL Q cx sx P σ pc lv (.int x :: rest) := by
  obtain ⟨p, e, s, m, args, below, meth, c⟩ := Γ
  obtain ⟨hx, hb, hml, hr, hown, hts, hK, hAp, hlk⟩ := C
  intro z hz H locs ls hP hS hl
  subst hv
  exact lv_istore hx hb hd hl.has hn rfl (fun ls' h' => k z hz H locs ls' hP hS (hl.put rfl h'))
theorem r_aload_n {x : Nat} {i : Fin 4} (C : zO E Γ own cc nL ret) (hd : decode cc pc = .ok (.aload_n i, 1)) (hv : lv[(i : Nat)]? = some (some (.ref x))) (k : zJg E Γ R nL Q cx sx P σ (pc + 1) lv (.ref x :: rest)) : zJg E Γ R nL Q cx sx P σ pc lv rest := by
  obtain ⟨p, e, s, m, args, below, meth, c⟩ := Γ
  obtain ⟨hx, hb, hml, hr, hown, hts, hK, hAp, hlk⟩ := C
  intro z hz H locs ls hP hS hl
  exact lv_aload_n hx hb hd rfl (hl.2.2 _ _ hv).1 (k z hz H locs ls hP hS hl)
theorem r_aload {x : Nat} {i : Nat} (C : zO E Γ own cc nL ret) (hd : decode cc pc = .ok (.aload i, 2)) (hv : lv[i]? = some (some (.ref x))) (k : zJg E Γ R nL Q cx sx P σ (pc + 2) lv (.ref x :: rest)) : zJg E Γ R nL Q cx sx P σ pc lv rest := by
  obtain ⟨p, e, s, m, args, below, meth, c⟩ := Γ
  obtain ⟨hx, hb, hml, hr, hown, hts, hK, hAp, hlk⟩ := C
  intro z hz H locs ls hP hS hl
  exact lv_aload hx hb hd (hl.2.2 _ _ hv).1 (k z hz H locs ls hP hS hl)
theorem r_astore_n {x : Nat} {i : Fin 4} {lv' : List (Option Value)} (C : zO E Γ own cc nL ret) (hd : decode cc pc = .ok (.astore_n i, 1)) (hn : (i : Nat) < nL) (hv : lv.set (i : Nat) (some (.ref x)) = lv') (k : zJg E Γ R nL Q cx sx P σ (pc + 1) lv' rest) : zJg E Γ R nL Q cx sx P σ pc lv (.ref x :: rest) := by
  obtain ⟨p, e, s, m, args, below, meth, c⟩ := Γ
  obtain ⟨hx, hb, hml, hr, hown, hts, hK, hAp, hlk⟩ := C
  intro z hz H locs ls hP hS hl
  subst hv
  exact lv_astore_n hx hb hd rfl hl.has hn rfl (fun ls' h' => k z hz H locs ls' hP hS (hl.put rfl h'))
theorem r_astore {x : Nat} {i : Nat} {lv' : List (Option Value)} (C : zO E Γ own cc nL ret) (hd : decode cc pc = .ok (.astore i, 2)) (hn : i < nL) (hv : lv.set i (some (.ref x)) = lv') (k : zJg E Γ R nL Q cx sx P σ (pc + 2) lv' rest) : zJg E Γ R nL Q cx sx P σ pc lv (.ref x :: rest) := by
  obtain ⟨p, e, s, m, args, below, meth, c⟩ := Γ
  obtain ⟨hx, hb, hml, hr, hown, hts, hK, hAp, hlk⟩ := C
  intro z hz H locs ls hP hS hl
  subst hv
  exact lv_astore hx hb hd hl.has hn rfl (fun ls' h' => k z hz H locs ls' hP hS (hl.put rfl h'))
theorem r_aload_nN {i : Fin 4} (C : zO E Γ own cc nL ret) (hd : decode cc pc = .ok (.aload_n i, 1)) (hv : lv[(i : Nat)]? = some (some .null)) (k : zJg E Γ R nL Q cx sx P σ (pc + 1) lv (.null :: rest)) : zJg E Γ R nL Q cx sx P σ pc lv rest := by
  obtain ⟨p, e, s, m, args, below, meth, c⟩ := Γ
  obtain ⟨hx, hb, hml, hr, hown, hts, hK, hAp, hlk⟩ := C
  intro z hz H locs ls hP hS hl
  exact lv_aload_nN hx hb hd rfl (hl.2.2 _ _ hv).1 (k z hz H locs ls hP hS hl)
theorem r_aloadN {i : Nat} (C : zO E Γ own cc nL ret) (hd : decode cc pc = .ok (.aload i, 2)) (hv : lv[i]? = some (some .null)) (k : zJg E Γ R nL Q cx sx P σ (pc + 2) lv (.null :: rest)) : zJg E Γ R nL Q cx sx P σ pc lv rest := by
  obtain ⟨p, e, s, m, args, below, meth, c⟩ := Γ
  obtain ⟨hx, hb, hml, hr, hown, hts, hK, hAp, hlk⟩ := C
  intro z hz H locs ls hP hS hl
  exact lv_aloadN hx hb hd (hl.2.2 _ _ hv).1 (k z hz H locs ls hP hS hl)
theorem r_astore_nN {i : Fin 4} {lv' : List (Option Value)} (C : zO E Γ own cc nL ret) (hd : decode cc pc = .ok (.astore_n i, 1)) (hn : (i : Nat) < nL) (hv : lv.set (i : Nat) (some .null) = lv') (k : zJg E Γ R nL Q cx sx P σ (pc + 1) lv' rest) : zJg E Γ R nL Q cx sx P σ pc lv (.null :: rest) := by
  obtain ⟨p, e, s, m, args, below, meth, c⟩ := Γ
  obtain ⟨hx, hb, hml, hr, hown, hts, hK, hAp, hlk⟩ := C
  intro z hz H locs ls hP hS hl
  subst hv
  exact lv_astore_nN hx hb hd rfl hl.has hn rfl (fun ls' h' => k z hz H locs ls' hP hS (hl.put rfl h'))
theorem r_astoreN {i : Nat} {lv' : List (Option Value)} (C : zO E Γ own cc nL ret) (hd : decode cc pc = .ok (.astore i, 2)) (hn : i < nL) (hv : lv.set i (some .null) = lv') (k : zJg E Γ R nL Q cx sx P σ (pc + 2) lv' rest) : zJg E Γ R nL Q cx sx P σ pc lv (.null :: rest) := by
  obtain ⟨p, e, s, m, args, below, meth, c⟩ := Γ
  obtain ⟨hx, hb, hml, hr, hown, hts, hK, hAp, hlk⟩ := C
  intro z hz H locs ls hP hS hl
  subst hv
  exact lv_astoreN hx hb hd hl.has hn rfl (fun ls' h' => k z hz H locs ls' hP hS (hl.put rfl h'))
theorem r_iinc {x v : Int32} {i : Nat} {n : Int} {lv' : List (Option Value)} (C : zO E Γ own cc nL ret) (hd : decode cc pc = .ok (.iinc i n, 3)) (hn : i < nL) (hg : lv[i]? = some (some (.int x))) (hx2 : x + Int32.ofInt n = v) (hv : lv.set i (some (.int v)) = lv') (k : zJg E Γ R nL Q cx sx P σ (pc + 3) lv' rest) : zJg E Γ R nL Q cx sx P σ pc lv rest := by
  obtain ⟨p, e, s, m, args, below, meth, c⟩ := Γ
  obtain ⟨hx, hb, hml, hr, hown, hts, hK, hAp, hlk⟩ := C
  intro z hz H locs ls hP hS hl
  subst hv
  obtain ⟨j, hj⟩ := List.getElem?_of_mem (zP_mem.mpr hg)
  exact lv_iinc hx hb hd hl.has hj hx2 hn rfl (fun ls' h' => k z hz H locs ls' hP hS (hl.put rfl h'))
theorem r_iadd {x y : Int32} (C : zO E Γ own cc nL ret) (hd : decode cc pc = .ok (.iadd, 1)) (k : zJg E Γ R nL Q cx sx P σ (pc + 1) lv (.int (x + y) :: rest)) : zJg E Γ R nL Q cx sx P σ pc lv (.int y :: .int x :: rest) := by
  obtain ⟨p, e, s, m, args, below, meth, c⟩ := Γ
  obtain ⟨hx, hb, hml, hr, hown, hts, hK, hAp, hlk⟩ := C
  intro z hz H locs ls hP hS hl
  exact lv_iadd hx hb hd (k z hz H locs ls hP hS hl)
theorem r_isub {x y : Int32} (C : zO E Γ own cc nL ret) (hd : decode cc pc = .ok (.isub, 1)) (k : zJg E Γ R nL Q cx sx P σ (pc + 1) lv (.int (x - y) :: rest)) : zJg E Γ R nL Q cx sx P σ pc lv (.int y :: .int x :: rest) := by
  obtain ⟨p, e, s, m, args, below, meth, c⟩ := Γ
  obtain ⟨hx, hb, hml, hr, hown, hts, hK, hAp, hlk⟩ := C
  intro z hz H locs ls hP hS hl
  exact lv_isub hx hb hd (k z hz H locs ls hP hS hl)
theorem r_imul {x y : Int32} (C : zO E Γ own cc nL ret) (hd : decode cc pc = .ok (.imul, 1)) (k : zJg E Γ R nL Q cx sx P σ (pc + 1) lv (.int (x * y) :: rest)) : zJg E Γ R nL Q cx sx P σ pc lv (.int y :: .int x :: rest) := by
  obtain ⟨p, e, s, m, args, below, meth, c⟩ := Γ
  obtain ⟨hx, hb, hml, hr, hown, hts, hK, hAp, hlk⟩ := C
  intro z hz H locs ls hP hS hl
  exact lv_imul hx hb hd (k z hz H locs ls hP hS hl)
theorem r_iand {x y : Int32} (C : zO E Γ own cc nL ret) (hd : decode cc pc = .ok (.iand, 1)) (k : zJg E Γ R nL Q cx sx P σ (pc + 1) lv (.int (x &&& y) :: rest)) : zJg E Γ R nL Q cx sx P σ pc lv (.int y :: .int x :: rest) := by
  obtain ⟨p, e, s, m, args, below, meth, c⟩ := Γ
  obtain ⟨hx, hb, hml, hr, hown, hts, hK, hAp, hlk⟩ := C
  intro z hz H locs ls hP hS hl
  exact lv_iand hx hb hd (k z hz H locs ls hP hS hl)
theorem r_ior {x y : Int32} (C : zO E Γ own cc nL ret) (hd : decode cc pc = .ok (.ior, 1)) (k : zJg E Γ R nL Q cx sx P σ (pc + 1) lv (.int (x ||| y) :: rest)) : zJg E Γ R nL Q cx sx P σ pc lv (.int y :: .int x :: rest) := by
  obtain ⟨p, e, s, m, args, below, meth, c⟩ := Γ
  obtain ⟨hx, hb, hml, hr, hown, hts, hK, hAp, hlk⟩ := C
  intro z hz H locs ls hP hS hl
  exact lv_ior hx hb hd (k z hz H locs ls hP hS hl)
theorem r_ixor {x y : Int32} (C : zO E Γ own cc nL ret) (hd : decode cc pc = .ok (.ixor, 1)) (k : zJg E Γ R nL Q cx sx P σ (pc + 1) lv (.int (x ^^^ y) :: rest)) : zJg E Γ R nL Q cx sx P σ pc lv (.int y :: .int x :: rest) := by
  obtain ⟨p, e, s, m, args, below, meth, c⟩ := Γ
  obtain ⟨hx, hb, hml, hr, hown, hts, hK, hAp, hlk⟩ := C
  intro z hz H locs ls hP hS hl
  exact lv_ixor hx hb hd (k z hz H locs ls hP hS hl)
theorem r_ishl {x y : Int32} (C : zO E Γ own cc nL ret) (hd : decode cc pc = .ok (.ishl, 1)) (k : zJg E Γ R nL Q cx sx P σ (pc + 1) lv (.int (x <<< (y &&& 31)) :: rest)) : zJg E Γ R nL Q cx sx P σ pc lv (.int y :: .int x :: rest) := by
  obtain ⟨p, e, s, m, args, below, meth, c⟩ := Γ
  obtain ⟨hx, hb, hml, hr, hown, hts, hK, hAp, hlk⟩ := C
  intro z hz H locs ls hP hS hl
  exact lv_ishl hx hb hd (k z hz H locs ls hP hS hl)
theorem r_ishr {x y : Int32} (C : zO E Γ own cc nL ret) (hd : decode cc pc = .ok (.ishr, 1)) (k : zJg E Γ R nL Q cx sx P σ (pc + 1) lv (.int (x >>> (y &&& 31)) :: rest)) : zJg E Γ R nL Q cx sx P σ pc lv (.int y :: .int x :: rest) := by
  obtain ⟨p, e, s, m, args, below, meth, c⟩ := Γ
  obtain ⟨hx, hb, hml, hr, hown, hts, hK, hAp, hlk⟩ := C
  intro z hz H locs ls hP hS hl
  exact lv_ishr hx hb hd (k z hz H locs ls hP hS hl)
theorem r_ineg {x : Int32} (C : zO E Γ own cc nL ret) (hd : decode cc pc = .ok (.ineg, 1)) (k : zJg E Γ R nL Q cx sx P σ (pc + 1) lv (.int (-x) :: rest)) : zJg E Γ R nL Q cx sx P σ pc lv (.int x :: rest) := by
  obtain ⟨p, e, s, m, args, below, meth, c⟩ := Γ
  obtain ⟨hx, hb, hml, hr, hown, hts, hK, hAp, hlk⟩ := C
  intro z hz H locs ls hP hS hl
  exact lv_ineg hx hb hd (k z hz H locs ls hP hS hl)
theorem r_iushr {x y : Int32} (C : zO E Γ own cc nL ret) (hd : decode cc pc = .ok (.iushr, 1)) (k : zJg E Γ R nL Q cx sx P σ (pc + 1) lv (.int (zushr x y) :: rest)) : zJg E Γ R nL Q cx sx P σ pc lv (.int y :: .int x :: rest) := by
  obtain ⟨p, e, s, m, args, below, meth, c⟩ := Γ
  obtain ⟨hx, hb, hml, hr, hown, hts, hK, hAp, hlk⟩ := C
  intro z hz H locs ls hP hS hl
  exact lv_iushr hx hb hd rfl (k z hz H locs ls hP hS hl)
theorem r_i2s {x : Int32} (C : zO E Γ own cc nL ret) (hd : decode cc pc = .ok (.i2s, 1)) (k : zJg E Γ R nL Q cx sx P σ (pc + 1) lv (.int (x.toInt16.toInt32) :: rest)) : zJg E Γ R nL Q cx sx P σ pc lv (.int x :: rest) := by
  obtain ⟨p, e, s, m, args, below, meth, c⟩ := Γ
  obtain ⟨hx, hb, hml, hr, hown, hts, hK, hAp, hlk⟩ := C
  intro z hz H locs ls hP hS hl
  exact lv_i2s hx hb hd rfl (k z hz H locs ls hP hS hl)
theorem r_i2b {x : Int32} (C : zO E Γ own cc nL ret) (hd : decode cc pc = .ok (.i2b, 1)) (k : zJg E Γ R nL Q cx sx P σ (pc + 1) lv (.int (x.toInt8.toInt32) :: rest)) : zJg E Γ R nL Q cx sx P σ pc lv (.int x :: rest) := by
  obtain ⟨p, e, s, m, args, below, meth, c⟩ := Γ
  obtain ⟨hx, hb, hml, hr, hown, hts, hK, hAp, hlk⟩ := C
  intro z hz H locs ls hP hS hl
  exact lv_i2b hx hb hd rfl (k z hz H locs ls hP hS hl)
theorem r_i2c {x : Int32} (C : zO E Γ own cc nL ret) (hd : decode cc pc = .ok (.i2c, 1)) (k : zJg E Γ R nL Q cx sx P σ (pc + 1) lv (.int ((x.toUInt32 % 65536).toInt32) :: rest)) : zJg E Γ R nL Q cx sx P σ pc lv (.int x :: rest) := by
  obtain ⟨p, e, s, m, args, below, meth, c⟩ := Γ
  obtain ⟨hx, hb, hml, hr, hown, hts, hK, hAp, hlk⟩ := C
  intro z hz H locs ls hP hS hl
  exact lv_i2c hx hb hd rfl (k z hz H locs ls hP hS hl)
theorem r_idiv {x y : Int32} (C : zO E Γ own cc nL ret) (hd : decode cc pc = .ok (.idiv, 1)) (k : zJg E Γ R nL Q cx sx P σ (pc + 1) lv (.int (x / y) :: rest)) : zJg E Γ R nL Q cx sx (zd y P) σ pc lv (.int y :: .int x :: rest) := by
  obtain ⟨p, e, s, m, args, below, meth, c⟩ := Γ
  obtain ⟨hx, hb, hml, hr, hown, hts, hK, hAp, hlk⟩ := C
  intro z hz H locs ls hP hS hl
  obtain ⟨h0, hz⟩ := zd_some hz
  exact lv_idiv hx hb hd h0 (k z hz H locs ls hP hS hl)
theorem r_irem {x y : Int32} (C : zO E Γ own cc nL ret) (hd : decode cc pc = .ok (.irem, 1)) (k : zJg E Γ R nL Q cx sx P σ (pc + 1) lv (.int (x - x / y * y) :: rest)) : zJg E Γ R nL Q cx sx (zd y P) σ pc lv (.int y :: .int x :: rest) := by
  obtain ⟨p, e, s, m, args, below, meth, c⟩ := Γ
  obtain ⟨hx, hb, hml, hr, hown, hts, hK, hAp, hlk⟩ := C
  intro z hz H locs ls hP hS hl
  obtain ⟨h0, hz⟩ := zd_some hz
  exact lv_irem hx hb hd h0 (k z hz H locs ls hP hS hl)
theorem r_dup {va : Value} (C : zO E Γ own cc nL ret) (hd : decode cc pc = .ok (.dup, 1)) (h1 : va.category = 1) (k : zJg E Γ R nL Q cx sx P σ (pc + 1) lv (va :: va :: rest)) : zJg E Γ R nL Q cx sx P σ pc lv (va :: rest) := by
  obtain ⟨p, e, s, m, args, below, meth, c⟩ := Γ
  obtain ⟨hx, hb, hml, hr, hown, hts, hK, hAp, hlk⟩ := C
  intro z hz H locs ls hP hS hl
  exact lv_dup hx hb hd h1 (k z hz H locs ls hP hS hl)
theorem r_pop {va : Value} (C : zO E Γ own cc nL ret) (hd : decode cc pc = .ok (.pop, 1)) (h1 : va.category = 1) (k : zJg E Γ R nL Q cx sx P σ (pc + 1) lv (rest)) : zJg E Γ R nL Q cx sx P σ pc lv (va :: rest) := by
  obtain ⟨p, e, s, m, args, below, meth, c⟩ := Γ
  obtain ⟨hx, hb, hml, hr, hown, hts, hK, hAp, hlk⟩ := C
  intro z hz H locs ls hP hS hl
  exact lv_pop hx hb hd h1 (k z hz H locs ls hP hS hl)
theorem r_dup2 {va vb : Value} (C : zO E Γ own cc nL ret) (hd : decode cc pc = .ok (.dup2, 1)) (h1 : va.category = 1) (h2 : vb.category = 1) (k : zJg E Γ R nL Q cx sx P σ (pc + 1) lv (va :: vb :: va :: vb :: rest)) : zJg E Γ R nL Q cx sx P σ pc lv (va :: vb :: rest) := by
  obtain ⟨p, e, s, m, args, below, meth, c⟩ := Γ
  obtain ⟨hx, hb, hml, hr, hown, hts, hK, hAp, hlk⟩ := C
  intro z hz H locs ls hP hS hl
  exact lv_dup2_11 hx hb hd h1 h2 (k z hz H locs ls hP hS hl)
theorem r_dup_x1 {va vb : Value} (C : zO E Γ own cc nL ret) (hd : decode cc pc = .ok (.dup_x1, 1)) (h1 : va.category = 1) (h2 : vb.category = 1) (k : zJg E Γ R nL Q cx sx P σ (pc + 1) lv (va :: vb :: va :: rest)) : zJg E Γ R nL Q cx sx P σ pc lv (va :: vb :: rest) := by
  obtain ⟨p, e, s, m, args, below, meth, c⟩ := Γ
  obtain ⟨hx, hb, hml, hr, hown, hts, hK, hAp, hlk⟩ := C
  intro z hz H locs ls hP hS hl
  exact lv_dup_x1 hx hb hd h1 h2 (k z hz H locs ls hP hS hl)
theorem r_dup_x2 {va vb vd : Value} (C : zO E Γ own cc nL ret) (hd : decode cc pc = .ok (.dup_x2, 1)) (h1 : va.category = 1) (h2 : vb.category = 1) (h3 : vd.category = 1) (k : zJg E Γ R nL Q cx sx P σ (pc + 1) lv (va :: vb :: vd :: va :: rest)) : zJg E Γ R nL Q cx sx P σ pc lv (va :: vb :: vd :: rest) := by
  obtain ⟨p, e, s, m, args, below, meth, c⟩ := Γ
  obtain ⟨hx, hb, hml, hr, hown, hts, hK, hAp, hlk⟩ := C
  intro z hz H locs ls hP hS hl
  exact lv_dup_x2 hx hb hd h1 h2 h3 (k z hz H locs ls hP hS hl)
theorem r_if_eq {x : Int32} {off : Int} {tgt : Nat} (C : zO E Γ own cc nL ret) (hd : decode cc pc = .ok (.ifCond .eq off, 3)) (ht : (pc : Int) + off = (tgt : Int)) (kt : x = 0 → zJg E Γ R nL Q cx sx P1 σ tgt lv rest) (kf : ¬ x = 0 → zJg E Γ R nL Q cx sx P2 σ (pc + 3) lv rest) : zJg E Γ R nL Q cx sx (if x = 0 then P1 else P2) σ pc lv (.int x :: rest) := by
  obtain ⟨p, e, s, m, args, below, meth, c⟩ := Γ
  obtain ⟨hx, hb, hml, hr, hown, hts, hK, hAp, hlk⟩ := C
  intro z hz H locs ls hP hS hl
  exact lv_if_eq hx hb hd ht (fun q => kt q z (by rw [if_pos q] at hz; exact hz) H locs ls hP hS hl) (fun q => kf q z (by rw [if_neg q] at hz; exact hz) H locs ls hP hS hl)
theorem r_icmp_eq {x y : Int32} {off : Int} {tgt : Nat} (C : zO E Γ own cc nL ret) (hd : decode cc pc = .ok (.if_icmp .eq off, 3)) (ht : (pc : Int) + off = (tgt : Int)) (kt : x = y → zJg E Γ R nL Q cx sx P1 σ tgt lv rest) (kf : ¬ x = y → zJg E Γ R nL Q cx sx P2 σ (pc + 3) lv rest) : zJg E Γ R nL Q cx sx (if x = y then P1 else P2) σ pc lv (.int y :: .int x :: rest) := by
  obtain ⟨p, e, s, m, args, below, meth, c⟩ := Γ
  obtain ⟨hx, hb, hml, hr, hown, hts, hK, hAp, hlk⟩ := C
  intro z hz H locs ls hP hS hl
  exact lv_icmp_eq hx hb hd ht (fun q => kt q z (by rw [if_pos q] at hz; exact hz) H locs ls hP hS hl) (fun q => kf q z (by rw [if_neg q] at hz; exact hz) H locs ls hP hS hl)
theorem r_if_ne {x : Int32} {off : Int} {tgt : Nat} (C : zO E Γ own cc nL ret) (hd : decode cc pc = .ok (.ifCond .ne off, 3)) (ht : (pc : Int) + off = (tgt : Int)) (kf : x = 0 → zJg E Γ R nL Q cx sx P2 σ (pc + 3) lv rest) (kt : ¬ x = 0 → zJg E Γ R nL Q cx sx P1 σ tgt lv rest) : zJg E Γ R nL Q cx sx (if x = 0 then P2 else P1) σ pc lv (.int x :: rest) := by
  obtain ⟨p, e, s, m, args, below, meth, c⟩ := Γ
  obtain ⟨hx, hb, hml, hr, hown, hts, hK, hAp, hlk⟩ := C
  intro z hz H locs ls hP hS hl
  exact lv_if_ne hx hb hd ht (fun q => kt q z (by rw [if_neg q] at hz; exact hz) H locs ls hP hS hl) (fun q => kf q z (by rw [if_pos q] at hz; exact hz) H locs ls hP hS hl)
theorem r_icmp_ne {x y : Int32} {off : Int} {tgt : Nat} (C : zO E Γ own cc nL ret) (hd : decode cc pc = .ok (.if_icmp .ne off, 3)) (ht : (pc : Int) + off = (tgt : Int)) (kf : x = y → zJg E Γ R nL Q cx sx P2 σ (pc + 3) lv rest) (kt : ¬ x = y → zJg E Γ R nL Q cx sx P1 σ tgt lv rest) : zJg E Γ R nL Q cx sx (if x = y then P2 else P1) σ pc lv (.int y :: .int x :: rest) := by
  obtain ⟨p, e, s, m, args, below, meth, c⟩ := Γ
  obtain ⟨hx, hb, hml, hr, hown, hts, hK, hAp, hlk⟩ := C
  intro z hz H locs ls hP hS hl
  exact lv_icmp_ne hx hb hd ht (fun q => kt q z (by rw [if_neg q] at hz; exact hz) H locs ls hP hS hl) (fun q => kf q z (by rw [if_pos q] at hz; exact hz) H locs ls hP hS hl)
theorem r_if_lt {x : Int32} {off : Int} {tgt : Nat} (C : zO E Γ own cc nL ret) (hd : decode cc pc = .ok (.ifCond .lt off, 3)) (ht : (pc : Int) + off = (tgt : Int)) (kt : x < 0 → zJg E Γ R nL Q cx sx P1 σ tgt lv rest) (kf : ¬ x < 0 → zJg E Γ R nL Q cx sx P2 σ (pc + 3) lv rest) : zJg E Γ R nL Q cx sx (if x < 0 then P1 else P2) σ pc lv (.int x :: rest) := by
  obtain ⟨p, e, s, m, args, below, meth, c⟩ := Γ
  obtain ⟨hx, hb, hml, hr, hown, hts, hK, hAp, hlk⟩ := C
  intro z hz H locs ls hP hS hl
  exact lv_if_lt hx hb hd ht (fun q => kt q z (by rw [if_pos q] at hz; exact hz) H locs ls hP hS hl) (fun q => kf q z (by rw [if_neg q] at hz; exact hz) H locs ls hP hS hl)
theorem r_icmp_lt {x y : Int32} {off : Int} {tgt : Nat} (C : zO E Γ own cc nL ret) (hd : decode cc pc = .ok (.if_icmp .lt off, 3)) (ht : (pc : Int) + off = (tgt : Int)) (kt : x < y → zJg E Γ R nL Q cx sx P1 σ tgt lv rest) (kf : ¬ x < y → zJg E Γ R nL Q cx sx P2 σ (pc + 3) lv rest) : zJg E Γ R nL Q cx sx (if x < y then P1 else P2) σ pc lv (.int y :: .int x :: rest) := by
  obtain ⟨p, e, s, m, args, below, meth, c⟩ := Γ
  obtain ⟨hx, hb, hml, hr, hown, hts, hK, hAp, hlk⟩ := C
  intro z hz H locs ls hP hS hl
  exact lv_icmp_lt hx hb hd ht (fun q => kt q z (by rw [if_pos q] at hz; exact hz) H locs ls hP hS hl) (fun q => kf q z (by rw [if_neg q] at hz; exact hz) H locs ls hP hS hl)
theorem r_if_ge {x : Int32} {off : Int} {tgt : Nat} (C : zO E Γ own cc nL ret) (hd : decode cc pc = .ok (.ifCond .ge off, 3)) (ht : (pc : Int) + off = (tgt : Int)) (kt : 0 ≤ x → zJg E Γ R nL Q cx sx P1 σ tgt lv rest) (kf : ¬ 0 ≤ x → zJg E Γ R nL Q cx sx P2 σ (pc + 3) lv rest) : zJg E Γ R nL Q cx sx (if 0 ≤ x then P1 else P2) σ pc lv (.int x :: rest) := by
  obtain ⟨p, e, s, m, args, below, meth, c⟩ := Γ
  obtain ⟨hx, hb, hml, hr, hown, hts, hK, hAp, hlk⟩ := C
  intro z hz H locs ls hP hS hl
  exact lv_if_ge hx hb hd ht (fun q => kt q z (by rw [if_pos q] at hz; exact hz) H locs ls hP hS hl) (fun q => kf q z (by rw [if_neg q] at hz; exact hz) H locs ls hP hS hl)
theorem r_icmp_ge {x y : Int32} {off : Int} {tgt : Nat} (C : zO E Γ own cc nL ret) (hd : decode cc pc = .ok (.if_icmp .ge off, 3)) (ht : (pc : Int) + off = (tgt : Int)) (kt : y ≤ x → zJg E Γ R nL Q cx sx P1 σ tgt lv rest) (kf : ¬ y ≤ x → zJg E Γ R nL Q cx sx P2 σ (pc + 3) lv rest) : zJg E Γ R nL Q cx sx (if y ≤ x then P1 else P2) σ pc lv (.int y :: .int x :: rest) := by
  obtain ⟨p, e, s, m, args, below, meth, c⟩ := Γ
  obtain ⟨hx, hb, hml, hr, hown, hts, hK, hAp, hlk⟩ := C
  intro z hz H locs ls hP hS hl
  exact lv_icmp_ge hx hb hd ht (fun q => kt q z (by rw [if_pos q] at hz; exact hz) H locs ls hP hS hl) (fun q => kf q z (by rw [if_neg q] at hz; exact hz) H locs ls hP hS hl)
theorem r_if_gt {x : Int32} {off : Int} {tgt : Nat} (C : zO E Γ own cc nL ret) (hd : decode cc pc = .ok (.ifCond .gt off, 3)) (ht : (pc : Int) + off = (tgt : Int)) (kt : 0 < x → zJg E Γ R nL Q cx sx P1 σ tgt lv rest) (kf : ¬ 0 < x → zJg E Γ R nL Q cx sx P2 σ (pc + 3) lv rest) : zJg E Γ R nL Q cx sx (if 0 < x then P1 else P2) σ pc lv (.int x :: rest) := by
  obtain ⟨p, e, s, m, args, below, meth, c⟩ := Γ
  obtain ⟨hx, hb, hml, hr, hown, hts, hK, hAp, hlk⟩ := C
  intro z hz H locs ls hP hS hl
  exact lv_if_gt hx hb hd ht (fun q => kt q z (by rw [if_pos q] at hz; exact hz) H locs ls hP hS hl) (fun q => kf q z (by rw [if_neg q] at hz; exact hz) H locs ls hP hS hl)
theorem r_icmp_gt {x y : Int32} {off : Int} {tgt : Nat} (C : zO E Γ own cc nL ret) (hd : decode cc pc = .ok (.if_icmp .gt off, 3)) (ht : (pc : Int) + off = (tgt : Int)) (kt : y < x → zJg E Γ R nL Q cx sx P1 σ tgt lv rest) (kf : ¬ y < x → zJg E Γ R nL Q cx sx P2 σ (pc + 3) lv rest) : zJg E Γ R nL Q cx sx (if y < x then P1 else P2) σ pc lv (.int y :: .int x :: rest) := by
  obtain ⟨p, e, s, m, args, below, meth, c⟩ := Γ
  obtain ⟨hx, hb, hml, hr, hown, hts, hK, hAp, hlk⟩ := C
  intro z hz H locs ls hP hS hl
  exact lv_icmp_gt hx hb hd ht (fun q => kt q z (by rw [if_pos q] at hz; exact hz) H locs ls hP hS hl) (fun q => kf q z (by rw [if_neg q] at hz; exact hz) H locs ls hP hS hl)
theorem r_if_le {x : Int32} {off : Int} {tgt : Nat} (C : zO E Γ own cc nL ret) (hd : decode cc pc = .ok (.ifCond .le off, 3)) (ht : (pc : Int) + off = (tgt : Int)) (kt : x ≤ 0 → zJg E Γ R nL Q cx sx P1 σ tgt lv rest) (kf : ¬ x ≤ 0 → zJg E Γ R nL Q cx sx P2 σ (pc + 3) lv rest) : zJg E Γ R nL Q cx sx (if x ≤ 0 then P1 else P2) σ pc lv (.int x :: rest) := by
  obtain ⟨p, e, s, m, args, below, meth, c⟩ := Γ
  obtain ⟨hx, hb, hml, hr, hown, hts, hK, hAp, hlk⟩ := C
  intro z hz H locs ls hP hS hl
  exact lv_if_le hx hb hd ht (fun q => kt q z (by rw [if_pos q] at hz; exact hz) H locs ls hP hS hl) (fun q => kf q z (by rw [if_neg q] at hz; exact hz) H locs ls hP hS hl)
theorem r_icmp_le {x y : Int32} {off : Int} {tgt : Nat} (C : zO E Γ own cc nL ret) (hd : decode cc pc = .ok (.if_icmp .le off, 3)) (ht : (pc : Int) + off = (tgt : Int)) (kt : x ≤ y → zJg E Γ R nL Q cx sx P1 σ tgt lv rest) (kf : ¬ x ≤ y → zJg E Γ R nL Q cx sx P2 σ (pc + 3) lv rest) : zJg E Γ R nL Q cx sx (if x ≤ y then P1 else P2) σ pc lv (.int y :: .int x :: rest) := by
  obtain ⟨p, e, s, m, args, below, meth, c⟩ := Γ
  obtain ⟨hx, hb, hml, hr, hown, hts, hK, hAp, hlk⟩ := C
  intro z hz H locs ls hP hS hl
  exact lv_icmp_le hx hb hd ht (fun q => kt q z (by rw [if_pos q] at hz; exact hz) H locs ls hP hS hl) (fun q => kf q z (by rw [if_neg q] at hz; exact hz) H locs ls hP hS hl)
theorem r_goto {off : Int} {tgt : Nat} (C : zO E Γ own cc nL ret) (hd : decode cc pc = .ok (.goto off, 3)) (ht : (pc : Int) + off = (tgt : Int)) (k : zJg E Γ R nL Q cx sx P σ tgt lv rest) : zJg E Γ R nL Q cx sx P σ pc lv rest := by
  obtain ⟨p, e, s, m, args, below, meth, c⟩ := Γ
  obtain ⟨hx, hb, hml, hr, hown, hts, hK, hAp, hlk⟩ := C
  intro z hz H locs ls hP hS hl
  exact lv_goto hx hb hd ht (k z hz H locs ls hP hS hl)
theorem r_ifnull {x : Nat} {off : Int} (C : zO E Γ own cc nL ret) (hd : decode cc pc = .ok (.ifnull off, 3)) (k : zJg E Γ R nL Q cx sx P σ (pc + 3) lv rest) : zJg E Γ R nL Q cx sx P σ pc lv (.ref x :: rest) := by
  obtain ⟨p, e, s, m, args, below, meth, c⟩ := Γ
  obtain ⟨hx, hb, hml, hr, hown, hts, hK, hAp, hlk⟩ := C
  intro z hz H locs ls hP hS hl
  exact lv_ifnull hx hb hd (k z hz H locs ls hP hS hl)
theorem r_ifnonnull {x : Nat} {off : Int} {tgt : Nat} (C : zO E Γ own cc nL ret) (hd : decode cc pc = .ok (.ifnonnull off, 3)) (ht : (pc : Int) + off = (tgt : Int)) (k : zJg E Γ R nL Q cx sx P σ tgt lv rest) : zJg E Γ R nL Q cx sx P σ pc lv (.ref x :: rest) := by
  obtain ⟨p, e, s, m, args, below, meth, c⟩ := Γ
  obtain ⟨hx, hb, hml, hr, hown, hts, hK, hAp, hlk⟩ := C
  intro z hz H locs ls hP hS hl
  exact lv_ifnonnull hx hb hd ht (k z hz H locs ls hP hS hl)
theorem r_ifnullN {off : Int} {tgt : Nat} (C : zO E Γ own cc nL ret) (hd : decode cc pc = .ok (.ifnull off, 3)) (ht : (pc : Int) + off = (tgt : Int)) (k : zJg E Γ R nL Q cx sx P σ tgt lv rest) : zJg E Γ R nL Q cx sx P σ pc lv (.null :: rest) := by
  obtain ⟨p, e, s, m, args, below, meth, c⟩ := Γ
  obtain ⟨hx, hb, hml, hr, hown, hts, hK, hAp, hlk⟩ := C
  intro z hz H locs ls hP hS hl
  exact lv_ifnullN hx hb hd ht (k z hz H locs ls hP hS hl)
theorem r_ifnonnullN {off : Int} (C : zO E Γ own cc nL ret) (hd : decode cc pc = .ok (.ifnonnull off, 3)) (k : zJg E Γ R nL Q cx sx P σ (pc + 3) lv rest) : zJg E Γ R nL Q cx sx P σ pc lv (.null :: rest) := by
  obtain ⟨p, e, s, m, args, below, meth, c⟩ := Γ
  obtain ⟨hx, hb, hml, hr, hown, hts, hK, hAp, hlk⟩ := C
  intro z hz H locs ls hP hS hl
  exact lv_ifnonnullN hx hb hd (k z hz H locs ls hP hS hl)
theorem r_split {q : Prop} [Decidable q] (k1 : q → zJg E Γ R nL Q cx sx P1 σ pc lv rest) (k2 : ¬ q → zJg E Γ R nL Q cx sx P2 σ pc lv rest) : zJg E Γ R nL Q cx sx (if q then P1 else P2) σ pc lv rest := by
  by_cases h : q
  · rw [if_pos h]; exact k1 h
  · rw [if_neg h]; exact k2 h
theorem r_tabIn {dflt lo hi : Int} {offs : Array Int} {len : Nat} {x v : Int32} {off : Int} {tgt : Nat} (C : zO E Γ own cc nL ret) (hd : decode cc pc = .ok (.tableswitch dflt lo hi offs, len)) (hxv : x = v) (h1 : ¬ v.toInt < lo) (h2 : ¬ hi < v.toInt) (ho : offs[(v.toInt - lo).toNat]? = some off) (ht : (pc : Int) + off = (tgt : Int)) (k : zJg E Γ R nL Q cx sx P σ tgt lv rest) : zJg E Γ R nL Q cx sx P σ pc lv (.int x :: rest) := by
  obtain ⟨p, e, s, m, args, below, meth, c⟩ := Γ
  obtain ⟨hx, hb, hml, hr, hown, hts, hK, hAp, hlk⟩ := C
  intro z hz H locs ls hP hS hl
  subst hxv
  exact lv_tableIn hx hb hd h1 h2 ho ht (k z hz H locs ls hP hS hl)
theorem r_tabOut {dflt lo hi : Int} {offs : Array Int} {len : Nat} {x : Int32} {tgt : Nat} (C : zO E Γ own cc nL ret) (hd : decode cc pc = .ok (.tableswitch dflt lo hi offs, len)) (h : x.toInt < lo ∨ hi < x.toInt) (ht : (pc : Int) + dflt = (tgt : Int)) (k : zJg E Γ R nL Q cx sx P σ tgt lv rest) : zJg E Γ R nL Q cx sx P σ pc lv (.int x :: rest) := by
  obtain ⟨p, e, s, m, args, below, meth, c⟩ := Γ
  obtain ⟨hx, hb, hml, hr, hown, hts, hK, hAp, hlk⟩ := C
  intro z hz H locs ls hP hS hl
  exact lv_tableOut hx hb hd h ht (k z hz H locs ls hP hS hl)
theorem r_get {ci N index : Nat} {Cn : String} {T : u_T} {ty : Nat → FieldType} {v : Value} {fs : List Value} (C : zO E Γ own cc nL ret) (K : zCl ci Cn T N ty) (i j : Nat) (hi : i < z_N) (he : z_E E i (σ i) = .inr (ci, fs)) (hj : j < N) (hlink : Cond.fieldLink own index (T j).1 (T j).2.1 (T j).2.2.1 ∈ lw_good) (hv : fs[j]? = some v) (hd : decode cc pc = .ok (.getfield index, 3)) (k : zJg E Γ R nL Q cx sx P σ (pc + 3) lv (v :: rest)) : zJg E Γ R nL Q cx sx P σ pc lv (.ref (zad E i) :: rest) := by
  obtain ⟨p, e, s, m, args, below, meth, c⟩ := Γ
  obtain ⟨hx, hb, hml, hr, hown, hts, hK, hAp, hlk⟩ := C
  intro z hz H locs ls hP hS hl
  exact va_get (D := zD E) hx hb hts K.1 hown hK.1 hP i (by rw [zW_at hi, he]) K.2.1 j hj (hts _ hlink) (fun _ h => h) hv hd (k z hz H locs ls hP hS hl)
theorem r_getN {ci N index : Nat} {Cn : String} {T : u_T} {ty : Nat → FieldType} {v : Value} {fs : List Value} {host : String} (C : zO E Γ own cc nL ret) (K : zCl ci Cn T N ty) (i j : Nat) (hi : i < z_N) (he : z_E E i (σ i) = .inr (ci, fs)) (hj : j < N) (hlink : Cond.fieldLinkNest own index (T j).1 (T j).2.1 (T j).2.2.1 host ∈ z_nest) (hv : fs[j]? = some v) (hd : decode cc pc = .ok (.getfield index, 3)) (k : zJg E Γ R nL Q cx sx P σ (pc + 3) lv (v :: rest)) : zJg E Γ R nL Q cx sx P σ pc lv (.ref (zad E i) :: rest) := by
  obtain ⟨p, e, s, m, args, below, meth, c⟩ := Γ
  obtain ⟨hx, hb, hml, hr, hown, hts, hK, hAp, hlk⟩ := C
  intro z hz H locs ls hP hS hl
  exact va_getN (D := zD E) hx hb hts K.1 hown hK.1 hP i (by rw [zW_at hi, he]) K.2.1 j hj (va_Nw.use rfl (hK.2.1 _ hlink)) (fun _ h => h) hv hd (k z hz H locs ls hP hS hl)
theorem r_put {ci N index : Nat} {Cn : String} {T : u_T} {ty : Nat → FieldType} {x : Int32} {fs : List Value} (C : zO E Γ own cc nL ret) (K : zCl ci Cn T N ty) (i j : Nat) (hi : i < z_N) (he : z_E E i (σ i) = .inr (ci, fs)) (hj : j < N) (hlink : Cond.fieldLink own index (T j).1 (T j).2.1 (T j).2.2.1 ∈ lw_good) (hfin : (T j).2.2.2 = false) (hty : ty j = .int) (hl2 : j < fs.length) (he2 : z_E E i (upd (σ i) j x) = .inr (ci, fs.set j (.int x))) (hd : decode cc pc = .ok (.putfield index, 3)) (k : ∀ σ1, σ1 = zu σ i j x → zJg E Γ R nL Q cx sx (K2 σ1) σ1 (pc + 3) lv rest) : zJg E Γ R nL Q cx sx (zlet (zu σ i j x) K2) σ pc lv (.int x :: .ref (zad E i) :: rest) := by
  obtain ⟨p, e, s, m, args, below, meth, c⟩ := Γ
  obtain ⟨hx, hb, hml, hr, hown, hts, hK, hAp, hlk⟩ := C
  intro z hz H locs ls hP hS hl
  refine va_put (D := zD E) (ty := .int) hx hb hts K.1 ty K.2.2.1 K.2.2.2 hown hK.1 hP (zW_D hAp σ) hS i (by rw [zW_at hi, he]) K.2.1 j hj (hts _ hlink) (fun _ h => h) hfin (by rw [K.2.2.1 j hj, hty]) rfl rfl hl2 hd (fun H1 locs1 hP1 hD1 hS1 => ?_)
  rw [← he2, zW_set hi] at hP1
  exact k _ rfl z hz H1 locs1 ls hP1 hS1 hl
theorem r_putN {ci N index : Nat} {Cn : String} {T : u_T} {ty : Nat → FieldType} {x : Int32} {fs : List Value} {host : String} (C : zO E Γ own cc nL ret) (K : zCl ci Cn T N ty) (i j : Nat) (hi : i < z_N) (he : z_E E i (σ i) = .inr (ci, fs)) (hj : j < N) (hlink : Cond.fieldLinkNest own index (T j).1 (T j).2.1 (T j).2.2.1 host ∈ z_nest) (hfin : (T j).2.2.2 = false) (hty : ty j = .int) (hl2 : j < fs.length) (he2 : z_E E i (upd (σ i) j x) = .inr (ci, fs.set j (.int x))) (hd : decode cc pc = .ok (.putfield index, 3)) (k : ∀ σ1, σ1 = zu σ i j x → zJg E Γ R nL Q cx sx (K2 σ1) σ1 (pc + 3) lv rest) : zJg E Γ R nL Q cx sx (zlet (zu σ i j x) K2) σ pc lv (.int x :: .ref (zad E i) :: rest) := by
  obtain ⟨p, e, s, m, args, below, meth, c⟩ := Γ
  obtain ⟨hx, hb, hml, hr, hown, hts, hK, hAp, hlk⟩ := C
  intro z hz H locs ls hP hS hl
  refine va_putN (D := zD E) (ty := .int) hx hb hts K.1 ty K.2.2.1 K.2.2.2 hown hK.1 hP (zW_D hAp σ) hS i (by rw [zW_at hi, he]) K.2.1 j hj (va_Nw.use rfl (hK.2.1 _ hlink)) (fun _ h => h) hfin (by rw [K.2.2.1 j hj, hty]) rfl rfl hl2 hd (fun H1 locs1 hP1 hD1 hS1 => ?_)
  rw [← he2, zW_set hi] at hP1
  exact k _ rfl z hz H1 locs1 ls hP1 hS1 hl
theorem r_gets {index n : Nat} {Cn f d : String} {t : Nat} {g : Nat → Value} (C : zO E Γ own cc nL ret) (hq : (Cn, f, d, t, n, g) ∈ z_stat E) (hlink : Cond.fieldLink own index Cn f d ∈ lw_good) (hd : decode cc pc = .ok (.getstatic index, 3)) (k : zJg E Γ R nL Q cx sx P σ (pc + 3) lv (.ref t :: rest)) : zJg E Γ R nL Q cx sx P σ pc lv rest := by
  obtain ⟨p, e, s, m, args, below, meth, c⟩ := Γ
  obtain ⟨hx, hb, hml, hr, hown, hts, hK, hAp, hlk⟩ := C
  intro z hz H locs ls hP hS hl
  exact va_gets hx hb (hK.2.2 _ hq).1 hS hown (hts _ hlink) (fun _ h => h) hd (k z hz H locs ls hP hS hl)
theorem r_getsN {index n : Nat} {Cn f d host : String} {t : Nat} {g : Nat → Value} (C : zO E Γ own cc nL ret) (hq : (Cn, f, d, t, n, g) ∈ z_stat E) (hlink : Cond.fieldLinkNest own index Cn f d host ∈ z_nest) (hd : decode cc pc = .ok (.getstatic index, 3)) (k : zJg E Γ R nL Q cx sx P σ (pc + 3) lv (.ref t :: rest)) : zJg E Γ R nL Q cx sx P σ pc lv rest := by
  obtain ⟨p, e, s, m, args, below, meth, c⟩ := Γ
  obtain ⟨hx, hb, hml, hr, hown, hts, hK, hAp, hlk⟩ := C
  intro z hz H locs ls hP hS hl
  exact va_getsN hx hb (hK.2.2 _ hq).1 hS hown (va_Nw.use rfl (hK.2.1 _ hlink)) (fun _ h => h) hd (k z hz H locs ls hP hS hl)
theorem r_tload {n : Nat} {Cn f d : String} {t : Nat} {g : Nat → Int32} {i : Int32} (C : zO E Γ own cc nL ret) (hq : (Cn, f, d, t, n, (fun j => Value.int (g j))) ∈ z_stat E) (hd : decode cc pc = .ok (.iaload, 1)) (k : zJg E Γ R nL Q cx sx P σ (pc + 1) lv (.int (g i.toNatClampNeg) :: rest)) : zJg E Γ R nL Q cx sx (zc i n P) σ pc lv (.int i :: .ref t :: rest) := by
  obtain ⟨p, e, s, m, args, below, meth, c⟩ := Γ
  obtain ⟨hx, hb, hml, hr, hown, hts, hK, hAp, hlk⟩ := C
  intro z hz H locs ls hP hS hl
  obtain ⟨h0, hz⟩ := zc_some hz
  exact va_ti hx hb (hK.2.2 _ hq).2 hS h0 rfl hd (k z hz H locs ls hP hS hl)
theorem r_tlen {n : Nat} {Cn f d : String} {t : Nat} {g : Nat → Value} {v : Int32} (C : zO E Γ own cc nL ret) (hq : (Cn, f, d, t, n, g) ∈ z_stat E) (hv : Int32.ofNat n = v) (hd : decode cc pc = .ok (.arraylength, 1)) (k : zJg E Γ R nL Q cx sx P σ (pc + 1) lv (.int v :: rest)) : zJg E Γ R nL Q cx sx P σ pc lv (.ref t :: rest) := by
  obtain ⟨p, e, s, m, args, below, meth, c⟩ := Γ
  obtain ⟨hx, hb, hml, hr, hown, hts, hK, hAp, hlk⟩ := C
  intro z hz H locs ls hP hS hl
  exact va_tlen hx hb (hK.2.2 _ hq).2 hS hv hd (k z hz H locs ls hP hS hl)
theorem r_iald {n t0 : Nat} {cA : ClassId} {x : Int32} (C : zO E Γ own cc nL ret) (i : Nat) (hi : i < z_N) (he : z_E E i (σ i) = .inl (cA, n, .inl (σ i))) (ht : (z_ty E)[t0]? = some (cA, .int)) (hd : decode cc pc = .ok (.iaload, 1)) (k : zJg E Γ R nL Q cx sx P σ (pc + 1) lv (.int (σ i x.toNatClampNeg) :: rest)) : zJg E Γ R nL Q cx sx (zc x n P) σ pc lv (.int x :: .ref (zad E i) :: rest) := by
  obtain ⟨p, e, s, m, args, below, meth, c⟩ := Γ
  obtain ⟨hx, hb, hml, hr, hown, hts, hK, hAp, hlk⟩ := C
  intro z hz H locs ls hP hS hl
  obtain ⟨h0, hz⟩ := zc_some hz
  exact va_iald (D := zD E) hx hb hK.1 hP i t0 (by rw [zW_at hi, he]) ht h0 hd (k z hz H locs ls hP hS hl)
theorem r_zald {n t0 : Nat} {cA : ClassId} {x : Int32} (C : zO E Γ own cc nL ret) (i : Nat) (hi : i < z_N) (he : z_E E i (σ i) = .inl (cA, n, .inl (σ i))) (ht : (z_ty E)[t0]? = some (cA, .boolean)) (hd : decode cc pc = .ok (.baload, 1)) (k : zJg E Γ R nL Q cx sx P σ (pc + 1) lv (.int (σ i x.toNatClampNeg) :: rest)) : zJg E Γ R nL Q cx sx (zc x n P) σ pc lv (.int x :: .ref (zad E i) :: rest) := by
  obtain ⟨p, e, s, m, args, below, meth, c⟩ := Γ
  obtain ⟨hx, hb, hml, hr, hown, hts, hK, hAp, hlk⟩ := C
  intro z hz H locs ls hP hS hl
  obtain ⟨h0, hz⟩ := zc_some hz
  exact va_zald (D := zD E) hx hb hK.1 hP i t0 (by rw [zW_at hi, he]) ht h0 hd (k z hz H locs ls hP hS hl)
theorem r_iast {n t0 : Nat} {cA : ClassId} {x y : Int32} (C : zO E Γ own cc nL ret) (i : Nat) (hi : i < z_N) (he : z_E E i (σ i) = .inl (cA, n, .inl (σ i))) (he2 : ∀ f, z_E E i f = .inl (cA, n, .inl f)) (ht : (z_ty E)[t0]? = some (cA, .int)) (hd : decode cc pc = .ok (.iastore, 1)) (k : ∀ σ1, σ1 = zu σ i y.toNatClampNeg x → zJg E Γ R nL Q cx sx (K2 σ1) σ1 (pc + 1) lv rest) : zJg E Γ R nL Q cx sx (zc y n (zlet (zu σ i y.toNatClampNeg x) K2)) σ pc lv (.int x :: .int y :: .ref (zad E i) :: rest) := by
  obtain ⟨p, e, s, m, args, below, meth, c⟩ := Γ
  obtain ⟨hx, hb, hml, hr, hown, hts, hK, hAp, hlk⟩ := C
  intro z hz H locs ls hP hS hl
  obtain ⟨h0, hz⟩ := zc_some hz
  refine va_iast (D := zD E) hx hb hK.1 hP (zW_D hAp σ) hS i t0 (by rw [zW_at hi, he]) ht h0 hd (fun H1 locs1 hP1 hD1 hS1 => ?_)
  rw [← he2, zW_set hi] at hP1
  exact k _ rfl z hz H1 locs1 ls hP1 hS1 hl
theorem r_zast {n t0 : Nat} {cA : ClassId} {x y : Int32} (C : zO E Γ own cc nL ret) (i : Nat) (hi : i < z_N) (he : z_E E i (σ i) = .inl (cA, n, .inl (σ i))) (he2 : ∀ f, z_E E i f = .inl (cA, n, .inl f)) (ht : (z_ty E)[t0]? = some (cA, .boolean)) (hd : decode cc pc = .ok (.bastore, 1)) (k : ∀ σ1, σ1 = zu σ i y.toNatClampNeg (vp_nar .boolean x) → zJg E Γ R nL Q cx sx (K2 σ1) σ1 (pc + 1) lv rest) : zJg E Γ R nL Q cx sx (zc y n (zlet (zu σ i y.toNatClampNeg (vp_nar .boolean x)) K2)) σ pc lv (.int x :: .int y :: .ref (zad E i) :: rest) := by
  obtain ⟨p, e, s, m, args, below, meth, c⟩ := Γ
  obtain ⟨hx, hb, hml, hr, hown, hts, hK, hAp, hlk⟩ := C
  intro z hz H locs ls hP hS hl
  obtain ⟨h0, hz⟩ := zc_some hz
  refine va_zast (D := zD E) hx hb hK.1 hP (zW_D hAp σ) hS i t0 (by rw [zW_at hi, he]) ht h0 hd (fun H1 locs1 hP1 hD1 hS1 => ?_)
  rw [← he2, zW_set hi] at hP1
  exact k _ rfl z hz H1 locs1 ls hP1 hS1 hl
theorem r_alen {n t0 : Nat} {cA : ClassId} {v : Int32} {ty : FieldType} {q : (Nat → Int32) ⊕ (Nat → Int64) ⊕ (Nat → UInt32) ⊕ (Nat → UInt64) ⊕ (Nat → Option Nat)} (C : zO E Γ own cc nL ret) (i : Nat) (hi : i < z_N) (he : z_E E i (σ i) = .inl (cA, n, q)) (ht : (z_ty E)[t0]? = some (cA, ty)) (hv : Int32.ofNat n = v) (hd : decode cc pc = .ok (.arraylength, 1)) (k : zJg E Γ R nL Q cx sx P σ (pc + 1) lv (.int v :: rest)) : zJg E Γ R nL Q cx sx P σ pc lv (.ref (zad E i) :: rest) := by
  obtain ⟨p, e, s, m, args, below, meth, c⟩ := Γ
  obtain ⟨hx, hb, hml, hr, hown, hts, hK, hAp, hlk⟩ := C
  intro z hz H locs ls hP hS hl
  exact va_alen (D := zD E) hx hb hK.1 hP i t0 (by rw [zW_at hi, he]) ht hv hd (k z hz H locs ls hP hS hl)
theorem r_aald {n t0 : Nat} {cA : ClassId} {Cn : String} {x : Int32} {g : Nat → Option Nat} (C : zO E Γ own cc nL ret) (i : Nat) (hi : i < z_N) (he : z_E E i (σ i) = .inl (cA, n, .inr (.inr (.inr (.inr g))))) (ht : (z_ty E)[t0]? = some (cA, .object Cn)) (a : Nat) (hg : x.toNatClampNeg < n → g x.toNatClampNeg = some a) (hd : decode cc pc = .ok (.aaload, 1)) (k : x.toNatClampNeg < n → zJg E Γ R nL Q cx sx P σ (pc + 1) lv (.ref a :: rest)) : zJg E Γ R nL Q cx sx (zc x n P) σ pc lv (.int x :: .ref (zad E i) :: rest) := by
  obtain ⟨p, e, s, m, args, below, meth, c⟩ := Γ
  obtain ⟨hx, hb, hml, hr, hown, hts, hK, hAp, hlk⟩ := C
  intro z hz H locs ls hP hS hl
  obtain ⟨h0, hz⟩ := zc_some hz
  have h9 : x.toNatClampNeg < n := Nat.not_le.mp fun q => h0 (Or.inr q)
  refine va_aldq (D := zD E) hx hb hK.1 hP i t0 (by rw [zW_at hi, he]) ht h0 hd ?_
  rw [hg h9]
  exact k h9 z hz H locs ls hP hS hl
theorem zrun {R : Room} {Γ : zX} {pc : Nat} {lv : List (Option Value)} {st rest : List Value} {ρ' : Type} {rv' : ρ' → Option Value} {q : Option (ρ' × zS)} {K : ρ' → zS → Option (ρ × zS)} {free : Addr → Prop} {a : Array Value}
    (hf : ∀ x, free x → zA E x)
    (run : ∀ z', q = some z' → match Γ with | (p, e, s, m, args, below, meth, c) => ∀ (H : Heap) (locs : List Loc) (ls : Array Slot), va_P (zD E) z_cl (zW E σ) H → va_S (zA E) s.heap H locs → zL ls nL lv → va_Run p (zl E) e R s m args below meth c H locs cx sx 0 0 (F0 m pc ls st) rest (zQ E (rv' z'.1) z'.2 a) free)
    (k : ∀ r σ1, q = some (r, σ1) → zJg E Γ R nL Q cx sx (K r σ1) σ1 (pc + 3) lv ((rv' r).toList ++ rest)) : zJg E Γ R nL Q cx sx (zbind q K) σ pc lv st := by
  obtain ⟨p, e, s, m, args, below, meth, c⟩ := Γ
  intro z hz H locs ls hP hS hl
  obtain ⟨r, σ1, hq, hz⟩ := zb_some hz
  intro T hT X
  obtain ⟨v, st₀, t, T', L, h0, X', hL, e1, e2, ⟨hv, hP1, hF⟩, go⟩ := run (r, σ1) hq H locs ls hP hS hl T hT X
  have hv : v = rv' r := by cases hv; rfl
  subst hv
  rw [← e1] at hP1
  have hF1 : H.size ≤ T'.heap.size := by rw [e1, ← h0]; exact hF.1
  have hF2 : ∀ x : Nat, x < H.size → ¬ zA E x → T'.heap[x]? = H[x]? := fun x h1 h2 => by rw [e1, ← h0]; exact hF.2 x (by rw [h0]; exact h1) h2
  obtain ⟨t2, a1, b1⟩ := k r σ1 hq z hz T'.heap (locs ++ L) ls hP1 ⟨Nat.le_trans hS.1 hF1, fun x h1 h2 => (hF2 x (Nat.lt_of_lt_of_le h1 hS.1) h2).trans (hS.2.1 x h1 h2), fun x hx => by
      rcases List.mem_append.mp hx with h | h
      · exact hS.2.2 x h
      · exact hf _ (hL x h)⟩ hl T' rfl X'
  exact ⟨t2, go t2 a1, b1⟩
theorem zPre {E : zG} {s U : State} {H : Heap} {locs : List Loc} {σ : zS} (av : List Value) (hK : zK E s) (hP : va_P (zD E) z_cl (zW E σ) H) (hS : va_S (zA E) s.heap H locs) (hU : U.heap = H) (hW : s.WarmedH U.vm) : zPc E σ av av.toArray U :=
  ⟨rfl, by rw [hU]; exact hP, hK.go hW (fun a h1 h2 => by rw [hU]; exact hS.2.1 a h1 h2)⟩
theorem zgood : GoodIn lw_good lw_good := fun w hw => ⟨hw, lw_good_ok w hw⟩
theorem zgoods {y : MethodName} {bytes : ByteArray} {maxL : Nat} {ret' : Option FieldType} (h : Cond.code y bytes maxL ret' ∈ lw_good) : GoodIn lw_good (zws y bytes maxL ret') := fun w hw => by
  rcases List.mem_cons.mp hw with e | e
  · rw [e]; exact ⟨h, lw_good_ok _ h⟩
  · exact ⟨e, lw_good_ok w e⟩
theorem r_callV {y : MethodName} {bytes : ByteArray} {maxL index n : Nat} {ret' : Option FieldType} {rm : Room} {ρ' : Type} {rv' : ρ' → Option Value} {q : Option (ρ' × zS)} {K : ρ' → zS → Option (ρ × zS)} {As : List Value} {ci : Nat} {fs : List Value} {cq : vw_C} (C : zO E Γ own cc nL ret) (i : Nat) (hM : zM E y bytes maxL ret' rm rv' (.ref (zad E i) :: As) q σ) (hc : Cond.code y bytes maxL ret' ∈ lw_good) (hini : Cond.initialized y.cls ∈ lw_good) (hlink : Cond.methodLink own index y ∈ lw_good) (hinst : Cond.instanceMethod y ∈ lw_good) (hsel : Cond.selects y.cls y y ∈ lw_good) (hd2 : y.cls ≠ "java/lang/invoke/MethodHandle" ∧ y.cls ≠ "java/lang/invoke/VarHandle" ∧ (parseMethodDescriptor y.desc).map (fun d => d.parameters.length) = some n) (hn : As.length = n) (hrc : rm.cells = 0 ∧ rm.slots = 0) (hR : rm.frames + 1 ≤ R.frames ∧ 8 + (maxL + 11) + rm.locals ≤ R.locals) (hi : i < z_N) (he : z_E E i (σ i) = .inr (ci, fs)) (hcq : z_cl[ci]? = some cq) (hcn : cq.1 = y.cls) (hst : (rest.map fun v => v.category).sum ≤ 8) (hcs : cx ≤ R.cells ∧ sx ≤ R.slots) (hd : decode cc pc = .ok (.invokevirtual index, 3)) (k : ∀ r σ1, q = some (r, σ1) → zJg E Γ R nL Q cx sx (K r σ1) σ1 (pc + 3) lv ((rv' r).toList ++ rest)) : zJg E Γ R nL Q cx sx (zbind q K) σ pc lv (As.reverse ++ .ref (zad E i) :: rest) := by
  refine zrun (a := (Value.ref (zad E i) :: As).toArray) (free := zA E) (fun _ h => h) (fun z' hq => ?_) k
  obtain ⟨p, e, s, m, args, below, meth, c⟩ := Γ
  obtain ⟨hx, hb, hml, hr, hown, hts, hK, hAp, hlk⟩ := C
  intro H locs ls hP hS hl
  exact va_runV (Ts := lw_good) (As := As) (C := y.cls) ⟨hx, hb, hml, hown, hts⟩ (hM z' hq) ⟨⟨hrc.1, hrc.2, hR.1, hR.2, pay_in hts (zgoods hc), List.mem_cons_self, hts _ hc, hts _ hini, ⟨hd2.1, hd2.2.1⟩, fun sig h => by have h2 := hd2.2.2; rw [h] at h2; exact (Option.some.inj h2).symm, hts _ hlink⟩, hts _ hinst, hts _ hsel⟩ ⟨zPc_blind, by rw [← hcn]; exact va_recv hK.1 hP hcq (q0 := i) (by rw [zW_at hi, he]), fun U hU hW => zPre (.ref (zad E i) :: As) hK hP hS hU hW⟩ rfl hn hl.1 rfl (lv_room hst) hd hcs
theorem r_callVN {y : MethodName} {bytes : ByteArray} {maxL index n : Nat} {ret' : Option FieldType} {rm : Room} {ρ' : Type} {rv' : ρ' → Option Value} {q : Option (ρ' × zS)} {K : ρ' → zS → Option (ρ × zS)} {As : List Value} {host : String} {ci : Nat} {fs : List Value} {cq : vw_C} (C : zO E Γ own cc nL ret) (i : Nat) (hM : zM E y bytes maxL ret' rm rv' (.ref (zad E i) :: As) q σ) (hc : Cond.code y bytes maxL ret' ∈ lw_good) (hini : Cond.initialized y.cls ∈ lw_good) (hlink : Cond.methodLinkNest own index y host ∈ z_nest) (hinst : Cond.instanceMethod y ∈ lw_good) (hsel : Cond.selects y.cls y y ∈ lw_good) (hd2 : y.cls ≠ "java/lang/invoke/MethodHandle" ∧ y.cls ≠ "java/lang/invoke/VarHandle" ∧ (parseMethodDescriptor y.desc).map (fun d => d.parameters.length) = some n) (hn : As.length = n) (hrc : rm.cells = 0 ∧ rm.slots = 0) (hR : rm.frames + 1 ≤ R.frames ∧ 8 + (maxL + 11) + rm.locals ≤ R.locals) (hi : i < z_N) (he : z_E E i (σ i) = .inr (ci, fs)) (hcq : z_cl[ci]? = some cq) (hcn : cq.1 = y.cls) (hst : (rest.map fun v => v.category).sum ≤ 8) (hcs : cx ≤ R.cells ∧ sx ≤ R.slots) (hd : decode cc pc = .ok (.invokevirtual index, 3)) (k : ∀ r σ1, q = some (r, σ1) → zJg E Γ R nL Q cx sx (K r σ1) σ1 (pc + 3) lv ((rv' r).toList ++ rest)) : zJg E Γ R nL Q cx sx (zbind q K) σ pc lv (As.reverse ++ .ref (zad E i) :: rest) := by
  refine zrun (a := (Value.ref (zad E i) :: As).toArray) (free := zA E) (fun _ h => h) (fun z' hq => ?_) k
  obtain ⟨p, e, s, m, args, below, meth, c⟩ := Γ
  obtain ⟨hx, hb, hml, hr, hown, hts, hK, hAp, hlk⟩ := C
  intro H locs ls hP hS hl
  exact va_runVN (Ts := lw_good) (As := As) (C := y.cls) ⟨hx, hb, hml, hown, hts⟩ (hM z' hq) ⟨⟨⟨hrc.1, hrc.2, hR.1, hR.2, pay_in hts (zgoods hc), List.mem_cons_self⟩, hts _ hc, hts _ hini, ⟨hd2.1, hd2.2.1⟩, fun sig h => by have h2 := hd2.2.2; rw [h] at h2; exact (Option.some.inj h2).symm, va_Nw.use rfl (hK.2.1 _ hlink)⟩, hts _ hinst, hts _ hsel⟩ ⟨zPc_blind, by rw [← hcn]; exact va_recv hK.1 hP hcq (q0 := i) (by rw [zW_at hi, he]), fun U hU hW => zPre (.ref (zad E i) :: As) hK hP hS hU hW⟩ rfl hn hl.1 rfl (lv_room hst) hd hcs
theorem r_callS {y : MethodName} {bytes : ByteArray} {maxL index n : Nat} {ret' : Option FieldType} {rm : Room} {ρ' : Type} {rv' : ρ' → Option Value} {q : Option (ρ' × zS)} {K : ρ' → zS → Option (ρ × zS)} {As : List Value} (C : zO E Γ own cc nL ret) (hM : zM E y bytes maxL ret' rm rv' As q σ) (hc : Cond.code y bytes maxL ret' ∈ lw_good) (hini : Cond.initialized y.cls ∈ lw_good) (hlink : Cond.methodLink own index y ∈ lw_good) (hstat : Cond.static y ∈ lw_good) (hd2 : y.cls ≠ "java/lang/invoke/MethodHandle" ∧ y.cls ≠ "java/lang/invoke/VarHandle" ∧ (parseMethodDescriptor y.desc).map (fun d => d.parameters.length) = some n) (hn : As.length = n) (hrc : rm.cells = 0 ∧ rm.slots = 0) (hR : rm.frames + 1 ≤ R.frames ∧ 8 + (maxL + 11) + rm.locals ≤ R.locals) (hst : (rest.map fun v => v.category).sum ≤ 8) (hcs : cx ≤ R.cells ∧ sx ≤ R.slots) (hd : decode cc pc = .ok (.invokestatic index, 3)) (k : ∀ r σ1, q = some (r, σ1) → zJg E Γ R nL Q cx sx (K r σ1) σ1 (pc + 3) lv ((rv' r).toList ++ rest)) : zJg E Γ R nL Q cx sx (zbind q K) σ pc lv (As.reverse ++ rest) := by
  refine zrun (a := As.toArray) (free := zA E) (fun _ h => h) (fun z' hq => ?_) k
  obtain ⟨p, e, s, m, args, below, meth, c⟩ := Γ
  obtain ⟨hx, hb, hml, hr, hown, hts, hK, hAp, hlk⟩ := C
  intro H locs ls hP hS hl
  exact va_runS (Ts := lw_good) (As := As) ⟨hx, hb, hml, hown, hts⟩ (hM z' hq) ⟨⟨hrc.1, hrc.2, hR.1, hR.2, pay_in hts (zgoods hc), List.mem_cons_self, hts _ hc, hts _ hini, ⟨hd2.1, hd2.2.1⟩, fun sig h => by have h2 := hd2.2.2; rw [h] at h2; exact (Option.some.inj h2).symm, hts _ hlink⟩, hts _ hstat⟩ ⟨zPc_blind, fun U hU hW => zPre As hK hP hS hU hW⟩ rfl hn hl.1 rfl (lv_room hst) hd hcs
theorem r_callSN {y : MethodName} {bytes : ByteArray} {maxL index n : Nat} {ret' : Option FieldType} {rm : Room} {ρ' : Type} {rv' : ρ' → Option Value} {q : Option (ρ' × zS)} {K : ρ' → zS → Option (ρ × zS)} {As : List Value} {host : String} (C : zO E Γ own cc nL ret) (hM : zM E y bytes maxL ret' rm rv' As q σ) (hc : Cond.code y bytes maxL ret' ∈ lw_good) (hini : Cond.initialized y.cls ∈ lw_good) (hlink : Cond.methodLinkNest own index y host ∈ z_nest) (hstat : Cond.static y ∈ lw_good) (hd2 : y.cls ≠ "java/lang/invoke/MethodHandle" ∧ y.cls ≠ "java/lang/invoke/VarHandle" ∧ (parseMethodDescriptor y.desc).map (fun d => d.parameters.length) = some n) (hn : As.length = n) (hrc : rm.cells = 0 ∧ rm.slots = 0) (hR : rm.frames + 1 ≤ R.frames ∧ 8 + (maxL + 11) + rm.locals ≤ R.locals) (hst : (rest.map fun v => v.category).sum ≤ 8) (hcs : cx ≤ R.cells ∧ sx ≤ R.slots) (hd : decode cc pc = .ok (.invokestatic index, 3)) (k : ∀ r σ1, q = some (r, σ1) → zJg E Γ R nL Q cx sx (K r σ1) σ1 (pc + 3) lv ((rv' r).toList ++ rest)) : zJg E Γ R nL Q cx sx (zbind q K) σ pc lv (As.reverse ++ rest) := by
  refine zrun (a := As.toArray) (free := zA E) (fun _ h => h) (fun z' hq => ?_) k
  obtain ⟨p, e, s, m, args, below, meth, c⟩ := Γ
  obtain ⟨hx, hb, hml, hr, hown, hts, hK, hAp, hlk⟩ := C
  intro H locs ls hP hS hl
  exact va_runSN (Ts := lw_good) (As := As) ⟨hx, hb, hml, hown, hts⟩ (hM z' hq) ⟨⟨⟨hrc.1, hrc.2, hR.1, hR.2, pay_in hts (zgoods hc), List.mem_cons_self⟩, hts _ hc, hts _ hini, ⟨hd2.1, hd2.2.1⟩, fun sig h => by have h2 := hd2.2.2; rw [h] at h2; exact (Option.some.inj h2).symm, va_Nw.use rfl (hK.2.1 _ hlink)⟩, hts _ hstat, trivial⟩ ⟨zPc_blind, fun U hU hW => zPre As hK hP hS hU hW⟩ rfl hn hl.1 rfl (lv_room hst) hd hcs
theorem r_mmax {x y : Int32} {index : Nat} (C : zO E Γ own cc nL ret) (hlink : Cond.methodLink own index Lib.Math.max.name ∈ lw_good) (hstat : Cond.static Lib.Math.max.name ∈ lw_good) (hini : Cond.initialized "java/lang/Math" ∈ lw_good) (hcode : Cond.code Lib.Math.max.name Lib.Math.max.code 2 (some .int) ∈ lw_good) (hR : 1 ≤ R.frames) (hR2 : (rest.map fun v => v.category).sum + 13 ≤ R.locals) (hcs : cx ≤ R.cells ∧ sx ≤ R.slots) (hd : decode cc pc = .ok (.invokestatic index, 3)) (k : zJg E Γ R nL Q cx sx P σ (pc + 3) lv (.int (if x < y then y else x) :: rest)) : zJg E Γ R nL Q cx sx P σ pc lv (.int y :: .int x :: rest) := by
  obtain ⟨p, e, s, m, args, below, meth, c⟩ := Γ
  obtain ⟨hx, hb, hml, hr, hown, hts, hK, hAp, hlk⟩ := C
  intro z hz H locs ls hP hS hl
  exact va_mmax hx hb (hml.trans hl.1.symm) hown (hts _ hlink) (hts _ hstat) (hts _ hini) (hts _ hcode) hR hR2 hcs.1 hcs.2 hd (k z hz H locs ls hP hS hl)
theorem r_mmin {x y : Int32} {index : Nat} (C : zO E Γ own cc nL ret) (hlink : Cond.methodLink own index Lib.Math.min.name ∈ lw_good) (hstat : Cond.static Lib.Math.min.name ∈ lw_good) (hini : Cond.initialized "java/lang/Math" ∈ lw_good) (hcode : Cond.code Lib.Math.min.name Lib.Math.min.code 2 (some .int) ∈ lw_good) (hR : 1 ≤ R.frames) (hR2 : (rest.map fun v => v.category).sum + 13 ≤ R.locals) (hcs : cx ≤ R.cells ∧ sx ≤ R.slots) (hd : decode cc pc = .ok (.invokestatic index, 3)) (k : zJg E Γ R nL Q cx sx P σ (pc + 3) lv (.int (if y < x then y else x) :: rest)) : zJg E Γ R nL Q cx sx P σ pc lv (.int y :: .int x :: rest) := by
  obtain ⟨p, e, s, m, args, below, meth, c⟩ := Γ
  obtain ⟨hx, hb, hml, hr, hown, hts, hK, hAp, hlk⟩ := C
  intro z hz H locs ls hP hS hl
  exact va_mmin hx hb (hml.trans hl.1.symm) hown (hts _ hlink) (hts _ hstat) (hts _ hini) (hts _ hcode) hR hR2 hcs.1 hcs.2 hd (k z hz H locs ls hP hS hl)
theorem r_mabs {x : Int32} {index : Nat} (C : zO E Γ own cc nL ret) (hlink : Cond.methodLink own index Lib.Math.abs.name ∈ lw_good) (hstat : Cond.static Lib.Math.abs.name ∈ lw_good) (hini : Cond.initialized "java/lang/Math" ∈ lw_good) (hcode : Cond.code Lib.Math.abs.name Lib.Math.abs.code 1 (some .int) ∈ lw_good) (hR : 1 ≤ R.frames) (hR2 : (rest.map fun v => v.category).sum + 13 ≤ R.locals) (hcs : cx ≤ R.cells ∧ sx ≤ R.slots) (hd : decode cc pc = .ok (.invokestatic index, 3)) (k : zJg E Γ R nL Q cx sx P σ (pc + 3) lv (.int (if 0 ≤ x then x else 0 - x) :: rest)) : zJg E Γ R nL Q cx sx P σ pc lv (.int x :: rest) := by
  obtain ⟨p, e, s, m, args, below, meth, c⟩ := Γ
  obtain ⟨hx, hb, hml, hr, hown, hts, hK, hAp, hlk⟩ := C
  intro z hz H locs ls hP hS hl
  exact va_mabs hx hb (hml.trans hl.1.symm) hown (hts _ hlink) (hts _ hstat) (hts _ hini) (hts _ hcode) hR hR2 hcs.1 hcs.2 hd (k z hz H locs ls hP hS hl)
theorem r_acopy {index n0 n1 t0 t1 : Nat} {c0 c1 : ClassId} {sp dp n : Int32} (C : zO E Γ own cc nL ret) (i0 i1 : Nat) (hi0 : i0 < z_N) (hi1 : i1 < z_N) (he0 : z_E E i0 (σ i0) = .inl (c0, n0, .inl (σ i0))) (he1 : ∀ f, z_E E i1 f = .inl (c1, n1, .inl f)) (ht0 : (z_ty E)[t0]? = some (c0, .int)) (ht1 : (z_ty E)[t1]? = some (c1, .int)) (hlink : Cond.methodLink own index arraycopyName ∈ lw_good) (hnat : Cond.native arraycopyName ∈ lw_good) (hstat : Cond.static arraycopyName ∈ lw_good) (hini : Cond.initialized "java/lang/System" ∈ lw_good) (hR : 1 ≤ R.frames) (hR2 : (rest.map fun v => v.category).sum + (nativeFrameWords "java/lang/System" "arraycopy" 5 + 11) ≤ R.locals) (hd : decode cc pc = .ok (.invokestatic index, 3)) (k : ∀ σ1, σ1 = zr σ i1 (va_cpy (σ i0) (σ i1) sp.toNatClampNeg dp.toNatClampNeg n.toNatClampNeg) → zJg E Γ R nL Q cx sx (K2 σ1) σ1 (pc + 3) lv rest) : zJg E Γ R nL Q cx sx (zcp sp dp n n0 n1 (zlet (zr σ i1 (va_cpy (σ i0) (σ i1) sp.toNatClampNeg dp.toNatClampNeg n.toNatClampNeg)) K2)) σ pc lv (.int n :: .int dp :: .ref (zad E i1) :: .int sp :: .ref (zad E i0) :: rest) := by
  obtain ⟨p, e, s, m, args, below, meth, c⟩ := Γ
  obtain ⟨hx, hb, hml, hr, hown, hts, hK, hAp, hlk⟩ := C
  intro z hz H locs ls hP hS hl
  obtain ⟨h1, h2, h3, h4, h5, hz⟩ := zcp_some hz
  refine va_copyi (D := zD E) (ty := .int) hx hb (hml.trans hl.1.symm) hown (hts _ hlink) (hts _ hnat) (hts _ hstat) (hts _ hini) hK.1 hP (zW_D hAp σ) hS i0 i1 t0 t1 (by rw [zW_at hi0, he0]) (by rw [zW_at hi1, he1]) ht0 ht1 rfl h1 h2 h3 h4 h5 (fun _ _ => rfl) hR hR2 hd (fun H1 locs1 hP1 hD1 hS1 => ?_)
  rw [← he1, zW_set hi1] at hP1
  exact k _ rfl z hz H1 locs1 ls hP1 hS1 hl
theorem r_iret {v : Int32} (C : zO E Γ own cc nL (some .int)) (hd : decode cc pc = .ok (.ireturn, 1)) : zJ E Γ R nL (fun r : Int32 => some (.int r)) (some (v, σ)) σ pc lv [.int v] := by
  obtain ⟨p, e, s, m, args, below, meth, c⟩ := Γ
  obtain ⟨hx, hb, hml, hr, hown, hts, hK, hAp, hlk⟩ := C
  intro z hz H locs ls hP hS hl
  cases hz
  exact W.iret hx hb hr (fun t ht hW => ⟨rfl, by rw [ht]; exact hP, hS.F ht⟩) hS.2.2 hd hlk
theorem r_zret {v : Int32} (C : zO E Γ own cc nL (some .boolean)) (hn : narrow .boolean (.int v) = .int v) (hd : decode cc pc = .ok (.ireturn, 1)) : zJ E Γ R nL (fun r : Int32 => some (.int r)) (some (v, σ)) σ pc lv [.int v] := by
  obtain ⟨p, e, s, m, args, below, meth, c⟩ := Γ
  obtain ⟨hx, hb, hml, hr, hown, hts, hK, hAp, hlk⟩ := C
  intro z hz H locs ls hP hS hl
  cases hz
  exact W.zret hx hb hr hn (fun t ht hW => ⟨rfl, by rw [ht]; exact hP, hS.F ht⟩) hS.2.2 hd hlk
theorem r_vret (C : zO E Γ own cc nL none) (hd : decode cc pc = .ok (.return_, 1)) : zJ E Γ R nL (fun _ : Unit => none) (some ((), σ)) σ pc lv [] := by
  obtain ⟨p, e, s, m, args, below, meth, c⟩ := Γ
  obtain ⟨hx, hb, hml, hr, hown, hts, hK, hAp, hlk⟩ := C
  intro z hz H locs ls hP hS hl
  cases hz
  exact W.vret hx hb hr (fun t ht hW => ⟨rfl, by rw [ht]; exact hP, hS.F ht⟩) hS.2.2 hd hlk
theorem r_aret {rt : String} {v : Nat} {rv : Option Nat → Option Value} {a : Nat} (C : zO E Γ own cc nL (some (.object rt))) (hrv : rv (some v) = some (.ref a)) (hd : decode cc pc = .ok (.areturn, 1)) : zJ E Γ R nL rv (some (some v, σ)) σ pc lv [.ref a] := by
  obtain ⟨p, e, s, m, args, below, meth, c⟩ := Γ
  obtain ⟨hx, hb, hml, hr, hown, hts, hK, hAp, hlk⟩ := C
  intro z hz H locs ls hP hS hl
  cases hz
  exact W.aret hx hb hr (Or.inl ⟨_, rfl⟩) (Or.inr ⟨_, rfl⟩) (fun t ht hW => ⟨by rw [hrv], by rw [ht]; exact hP, hS.F ht⟩) hS.2.2 hd hlk
theorem r_aretN {rt : String} {rv : Option Nat → Option Value} (C : zO E Γ own cc nL (some (.object rt))) (hrv : rv none = some .null) (hd : decode cc pc = .ok (.areturn, 1)) : zJ E Γ R nL rv (some (none, σ)) σ pc lv [.null] := by
  obtain ⟨p, e, s, m, args, below, meth, c⟩ := Γ
  obtain ⟨hx, hb, hml, hr, hown, hts, hK, hAp, hlk⟩ := C
  intro z hz H locs ls hP hS hl
  cases hz
  exact W.aret hx hb hr (Or.inl ⟨_, rfl⟩) (Or.inl rfl) (fun t ht hW => ⟨by rw [hrv], by rw [ht]; exact hP, hS.F ht⟩) hS.2.2 hd hlk
theorem r_leti {x : Int32} {K : Int32 → Option (ρ × zS)} (k : ∀ y, zJg E Γ R nL Q cx sx (K y) σ pc lv (.int y :: rest)) : zJg E Γ R nL Q cx sx (zlet x K) σ pc lv (.int x :: rest) := k x
theorem r_op {r : Option Nat} {N b : Nat} {K : Nat → Option (ρ × zS)} (k1 : r = none → zJg E Γ R nL Q cx sx P σ pc lv (.null :: rest)) (k2 : ∀ i, i < N → r = some i → zJg E Γ R nL Q cx sx (K i) σ pc lv (.ref (zad E (b + 2 * i)) :: rest)) : zJg E Γ R nL Q cx sx (zop r N P K) σ pc lv ((zrf E b r).toList ++ rest) := by
  cases r with
  | none => exact k1 rfl
  | some i =>
    show zJg E Γ R nL Q cx sx (if i < N then K i else none) σ pc lv (.ref (zad E (b + 2 * i)) :: rest)
    by_cases h : i < N
    · rw [if_pos h]; exact k2 i h rfl
    · rw [if_neg h]
      obtain ⟨p, e, s, m, args, below, meth, c⟩ := Γ
      intro z hz
      cases hz
theorem r_none : zJg E Γ R nL Q cx sx none σ pc lv rest := by
  obtain ⟨p, e, s, m, args, below, meth, c⟩ := Γ
  intro z hz
  cases hz
theorem zJ_if {q : Prop} [Decidable q] (h : q) (k : zJg E Γ R nL Q cx sx (if q then P else P2) σ pc lv rest) : zJg E Γ R nL Q cx sx P σ pc lv rest := by
  rw [if_pos h] at k
  exact k
theorem zJ_nif {q : Prop} [Decidable q] (h : ¬ q) (k : zJg E Γ R nL Q cx sx (if q then P1 else P) σ pc lv rest) : zJg E Γ R nL Q cx sx P σ pc lv rest := by
  rw [if_neg h] at k
  exact k
theorem zJ_zc {i : Int32} {n : Nat} (h : vp_in i n) (k : zJg E Γ R nL Q cx sx (zc i n P) σ pc lv rest) : zJg E Γ R nL Q cx sx P σ pc lv rest := by
  rw [zc_in h] at k
  exact k
theorem zJ_zcl {i : Int32} {n : Nat} {α : Type} (a : α) (h : vp_in i n) (k : zJg E Γ R nL Q cx sx (zc i n (zlet a (fun _ => P))) σ pc lv rest) : zJg E Γ R nL Q cx sx P σ pc lv rest := by
  rw [zc_in h] at k
  exact k
theorem r_mask {lv' : List (Option Value)} (mk : List Bool) (h : zmask lv mk = lv') (k : zJg E Γ R nL Q cx sx P σ pc lv' rest) : zJg E Γ R nL Q cx sx P σ pc lv rest := by
  subst h
  obtain ⟨p, e, s, m, args, below, meth, c⟩ := Γ
  intro z hz H locs ls hP hS hl
  exact k z hz H locs ls hP hS ⟨hl.1, hl.2.1, fun i v hv => hl.2.2 i v (zmask_at lv mk i v hv)⟩
end zRows
theorem zargs {n : Nat} : ∀ (av : List Value) (k i : Nat) (v : Value), av.all (fun v => v.category == 1) = true → (av.map some ++ List.replicate n none)[i]? = some (some v) → (k + i, v) ∈ lv_args k av ∧ v.category = 1
  | [], k, i, v, _, h => by
    rw [List.map_nil, List.nil_append, List.getElem?_replicate] at h
    split at h
    · cases h
    · cases h
  | a :: av, k, 0, v, hc, h => by
    have e : a = v := by simpa using h
    subst e
    have hc1 : a.category = 1 := by
      have := List.all_eq_true.mp hc a List.mem_cons_self
      simpa using this
    exact ⟨List.mem_cons_self, hc1⟩
  | a :: av, k, i + 1, v, hc, h => by
    have hc1 : a.category = 1 := by
      have := List.all_eq_true.mp hc a List.mem_cons_self
      simpa using this
    have hc2 : av.all (fun v => v.category == 1) = true := by
      rw [List.all_cons, Bool.and_eq_true] at hc
      exact hc.2
    have h2 : (av.map some ++ List.replicate n none)[i]? = some (some v) := by simpa using h
    obtain ⟨q1, q2⟩ := zargs av (k + 1) i v hc2 h2
    refine ⟨?_, q2⟩
    unfold lv_args
    rw [if_neg (by rw [hc1]; decide)]
    refine List.mem_cons_of_mem _ ?_
    rw [show k + (i + 1) = k + 1 + i by omega]
    exact q1
theorem zM_of {E : zG} {y : MethodName} {bytes : ByteArray} {maxL : Nat} {ret : Option FieldType} {rm : Room} {ρ : Type} {rv : ρ → Option Value} {av : List Value} {q : Option (ρ × zS)} {σ : zS} {lv : List (Option Value)} (hAp : zAp E) (hy : plainName y.cls = true) (hlen : (lg_sl av).length ≤ maxL) {nn : Nat} (hcat : av.all (fun v => v.category == 1) = true) (hlv : av.map some ++ List.replicate nn none = lv)
    (k : ∀ Γ : zX, zO E Γ y.cls bytes maxL ret → zJ E Γ rm maxL rv q σ 0 lv []) : zM E y bytes maxL ret rm rv av q σ := by
  intro z hz
  refine Met.ofW (cc := bytes) (maxL := maxL) (ret := ret) hy rfl ?_
  intro p e s m args below meth c s₁ B hml hv
  obtain ⟨rfl, hP, hK⟩ := hv
  have hts0 := atoms_spec (ws := zws y bytes maxL ret) B.pre
  have hown : s.vm.findClass y.cls = some m.cls := findClass_of_methodNamed B.named
  have hl := lv_entry av (n := maxL) hlen
  rw [lg_entry_eq]
  generalize (lg_sl av ++ List.replicate (maxL - (lg_sl av).length) Slot.unset).toArray = ls at hl ⊢
  exact k (p, e, s, m, av.toArray, below, meth, c) ⟨B.exec, B.bytes, hml, B.returns, hown, fun w hw => hts0 w (List.mem_cons_of_mem _ hw), hK, hAp, B.notSynchronized⟩ z hz s.heap [] ls hP va_S.rf ⟨hl.1, hl.2.1, fun i v h => by
      have q := zargs (n := nn) av 0 i v hcat (by rw [hlv]; exact h)
      rw [Nat.zero_add] at q
      exact ⟨hl.2.2 (i, v) q.1, q.2⟩⟩
end
section
theorem lk_f_X0_22 : Cond.fieldLink RX0 22 "ZMemory$Chance" "taped" "I" ∈ lw_good := lg_r13 _ (List.mem_of_getElem? (i := 15) rfl)
theorem lk_f_X0_9 : Cond.fieldLink RX0 9 "ZMemory$Chance" "numbers" "[I" ∈ lw_good := lg_r2 _ (List.mem_of_getElem? (i := 13) rfl)
theorem lk_f_X0_25 : Cond.fieldLink RX0 25 "ZMemory$Chance" "first" "I" ∈ lw_good := lg_r14 _ (List.mem_of_getElem? (i := 0) rfl)
theorem lk_f_X0_15 : Cond.fieldLink RX0 15 "ZMemory$Chance" "way" "I" ∈ lw_good := lg_r2 _ (List.mem_of_getElem? (i := 14) rfl)
theorem lk_f_X0_19 : Cond.fieldLink RX0 19 "ZMemory$Chance" "seed" "I" ∈ lw_good := lg_r2 _ (List.mem_of_getElem? (i := 15) rfl)
theorem lk_f_X0_32 : Cond.fieldLink RX0 32 "ZMemory$Chance" "round" "I" ∈ lw_good := lg_r13 _ (List.mem_of_getElem? (i := 9) rfl)
theorem lk_f_X0_35 : Cond.fieldLink RX0 35 "ZMemory$Chance" "counted" "I" ∈ lw_good := lg_r13 _ (List.mem_of_getElem? (i := 10) rfl)
theorem lk_m_X0_28 : Cond.methodLink RX0 28 yX0_next ∈ lw_good := lg_r13 _ (List.mem_of_getElem? (i := 11) rfl)
theorem lk_m_X0_44 : Cond.methodLink RX0 44 yX0_nextOfSeed ∈ lw_good := lg_r14 _ (List.mem_of_getElem? (i := 1) rfl)
theorem lk_m_X0_41 : Cond.methodLink RX0 41 yX0_nextOfTape ∈ lw_good := lg_r13 _ (List.mem_of_getElem? (i := 20) rfl)
theorem lk_m_X0_38 : Cond.methodLink RX0 38 yX0_nextOfCount ∈ lw_good := lg_r13 _ (List.mem_of_getElem? (i := 16) rfl)
theorem lk_k_X0_47 : Cond.constant RX0 47 (1103515245) ∈ lw_good := lg_r14 _ (List.mem_of_getElem? (i := 5) rfl)
theorem lk_k_X0_48 : Cond.constant RX0 48 (2147483647) ∈ lw_good := lg_r14 _ (List.mem_of_getElem? (i := 6) rfl)
theorem lk_m_X1_15 : Cond.methodLink RX1 15 yX1_hasLocal ∈ lw_good := lg_r19 _ (List.mem_of_getElem? (i := 15) rfl)
theorem lk_f_X1_9 : Cond.fieldLink RX1 9 "ZMemory$Frame" "locals" "[I" ∈ lw_good := lg_r4 _ (List.mem_of_getElem? (i := 9) rfl)
theorem lk_f_X1_19 : Cond.fieldLink RX1 19 "ZMemory$Frame" "localCount" "I" ∈ lw_good := lg_r19 _ (List.mem_of_getElem? (i := 19) rfl)
theorem lk_f_X2_22 : Cond.fieldLink RX2 22 "ZMemory$Frames" "height" "I" ∈ lw_good := lg_r18 _ (List.mem_of_getElem? (i := 18) rfl)
theorem lk_f_X2_26 : Cond.fieldLink RX2 26 "ZMemory$Frames" "count" "I" ∈ lw_good := lg_r18 _ (List.mem_of_getElem? (i := 19) rfl)
theorem lk_f_X2_29 : Cond.fieldLink RX2 29 "ZMemory$Frames" "most" "I" ∈ lw_good := lg_r18 _ (List.mem_of_getElem? (i := 20) rfl)
theorem lk_f_X2_11 : Cond.fieldLink RX2 11 "ZMemory$Frames" "frames" "[LZMemory$Frame;" ∈ lw_good := lg_r4 _ (List.mem_of_getElem? (i := 2) rfl)
theorem lk_fn_X2_32 : Cond.fieldLinkNest RX2 32 "ZMemory$Frame" "locals" "[I" "ZMemory" ∈ z_nest := List.mem_of_getElem? (i := 7) rfl
theorem lk_fn_X2_41 : Cond.fieldLinkNest RX2 41 "ZMemory$Frame" "floor" "I" "ZMemory" ∈ z_nest := List.mem_of_getElem? (i := 12) rfl
theorem lk_m_X2_44 : Cond.methodLink RX2 44 Lib.Math.max.name ∈ lw_good := lg_r19 _ (List.mem_of_getElem? (i := 7) rfl)
theorem lk_m_X2_35 : Cond.methodLink RX2 35 yJ7_fill_53178 ∈ lw_good := lg_r19 _ (List.mem_of_getElem? (i := 10) rfl)
theorem lk_m_X2_50 : Cond.methodLink RX2 50 yX2_top ∈ lw_good := lg_r20 _ (List.mem_of_getElem? (i := 21) rfl)
theorem lk_f_X2_17 : Cond.fieldLink RX2 17 "ZMemory$Frames" "stack" "[I" ∈ lw_good := lg_r4 _ (List.mem_of_getElem? (i := 3) rfl)
theorem lk_f_X3_9 : Cond.fieldLink RX3 9 "ZMemory$Memory" "bytes" "[I" ∈ lw_good := lg_r2 _ (List.mem_of_getElem? (i := 9) rfl)
theorem lk_f_X3_21 : Cond.fieldLink RX3 21 "ZMemory$Memory" "length" "I" ∈ lw_good := lg_r5 _ (List.mem_of_getElem? (i := 22) rfl)
theorem lk_f_X3_25 : Cond.fieldLink RX3 25 "ZMemory$Memory" "dynamic" "I" ∈ lw_good := lg_r5 _ (List.mem_of_getElem? (i := 23) rfl)
theorem lk_m_X3_15 : Cond.methodLink RX3 15 yJ7_fill_53178 ∈ lw_good := lg_r6 _ (List.mem_of_getElem? (i := 0) rfl)
theorem lk_m_X3_28 : Cond.methodLink RX3 28 yX3_isOutside ∈ lw_good := lg_r6 _ (List.mem_of_getElem? (i := 19) rfl)
theorem lk_m_X3_46 : Cond.methodLink RX3 46 yX3_copyInTurn ∈ lw_good := lg_r11 _ (List.mem_of_getElem? (i := 14) rfl)
theorem lk_m_X3_42 : Cond.methodLink RX3 42 yX3_copyAtOnce ∈ lw_good := lg_r11 _ (List.mem_of_getElem? (i := 6) rfl)
theorem lk_m_X3_38 : Cond.methodLink RX3 38 yX3_wipe ∈ lw_good := lg_r11 _ (List.mem_of_getElem? (i := 2) rfl)
theorem lk_m_X3_32 : Cond.methodLink RX3 32 Lib.Math.abs.name ∈ lw_good := lg_r10 _ (List.mem_of_getElem? (i := 23) rfl)
theorem lk_m_X3_49 : Cond.methodLink RX3 49 arraycopyName ∈ lw_good := lg_r11 _ (List.mem_of_getElem? (i := 10) rfl)
theorem lk_m_X3_55 : Cond.methodLink RX3 55 yX3_byteAt ∈ lw_good := lg_r11 _ (List.mem_of_getElem? (i := 18) rfl)
theorem lk_m_X3_58 : Cond.methodLink RX3 58 yX3_setByte ∈ lw_good := lg_r11 _ (List.mem_of_getElem? (i := 19) rfl)
theorem lk_m_X3_65 : Cond.methodLink RX3 65 yX3_wordAt ∈ lw_good := lg_r12 _ (List.mem_of_getElem? (i := 16) rfl)
theorem lk_m_X3_62 : Cond.methodLink RX3 62 Lib.Math.min.name ∈ lw_good := lg_r12 _ (List.mem_of_getElem? (i := 15) rfl)
theorem lk_f_X4_15 : Cond.fieldLink RX4 15 "ZMemory$Page" "length" "I" ∈ lw_good := lg_r23 _ (List.mem_of_getElem? (i := 15) rfl)
theorem lk_f_X4_9 : Cond.fieldLink RX4 9 "ZMemory$Page" "characters" "[I" ∈ lw_good := lg_r4 _ (List.mem_of_getElem? (i := 13) rfl)
theorem lk_m_X4_19 : Cond.methodLink RX4 19 yX4_print ∈ lw_good := lg_r23 _ (List.mem_of_getElem? (i := 11) rfl)
theorem lk_m_X4_23 : Cond.methodLink RX4 23 Lib.Math.abs.name ∈ lw_good := lg_r23 _ (List.mem_of_getElem? (i := 10) rfl)
theorem lk_f_X5_34 : Cond.fieldLink RX5 34 "ZMemory$Program" "length" "I" ∈ lw_good := lg_r16 _ (List.mem_of_getElem? (i := 13) rfl)
theorem lk_f_X5_9 : Cond.fieldLink RX5 9 "ZMemory$Program" "ops" "[I" ∈ lw_good := lg_r2 _ (List.mem_of_getElem? (i := 19) rfl)
theorem lk_f_X5_15 : Cond.fieldLink RX5 15 "ZMemory$Program" "operands" "[I" ∈ lw_good := lg_r2 _ (List.mem_of_getElem? (i := 20) rfl)
theorem lk_f_X5_18 : Cond.fieldLink RX5 18 "ZMemory$Program" "stores" "[I" ∈ lw_good := lg_r2 _ (List.mem_of_getElem? (i := 21) rfl)
theorem lk_f_X5_21 : Cond.fieldLink RX5 21 "ZMemory$Program" "defined" "[Z" ∈ lw_good := lg_r2 _ (List.mem_of_getElem? (i := 23) rfl)
theorem lk_f_X5_25 : Cond.fieldLink RX5 25 "ZMemory$Program" "starts" "[I" ∈ lw_good := lg_r3 _ (List.mem_of_getElem? (i := 0) rfl)
theorem lk_f_X5_28 : Cond.fieldLink RX5 28 "ZMemory$Program" "locals" "[I" ∈ lw_good := lg_r3 _ (List.mem_of_getElem? (i := 1) rfl)
theorem lk_f_X5_31 : Cond.fieldLink RX5 31 "ZMemory$Program" "guards" "[Z" ∈ lw_good := lg_r3 _ (List.mem_of_getElem? (i := 2) rfl)
theorem lk_mn_X5_38 : Cond.methodLinkNest RX5 38 yX7_isWithin "ZMemory" ∈ z_nest := List.mem_of_getElem? (i := 33) rfl
theorem lk_f_X6_12 : Cond.fieldLink RX6 12 "ZMemory$Runner" "frames" "LZMemory$Frames;" ∈ lw_good := lg_r3 _ (List.mem_of_getElem? (i := 10) rfl)
theorem lk_m_X6_48 : Cond.methodLink RX6 48 yX2_begin ∈ lw_good := lg_r18 _ (List.mem_of_getElem? (i := 14) rfl)
theorem lk_f_X6_21 : Cond.fieldLink RX6 21 "ZMemory$Runner" "page" "LZMemory$Page;" ∈ lw_good := lg_r3 _ (List.mem_of_getElem? (i := 14) rfl)
theorem lk_fn_X6_51 : Cond.fieldLinkNest RX6 51 "ZMemory$Page" "length" "I" "ZMemory" ∈ z_nest := List.mem_of_getElem? (i := 15) rfl
theorem lk_f_X6_25 : Cond.fieldLink RX6 25 "ZMemory$Runner" "leavings" "[I" ∈ lw_good := lg_r3 _ (List.mem_of_getElem? (i := 15) rfl)
theorem lk_f_X6_60 : Cond.fieldLink RX6 60 "ZMemory$Runner" "ending" "I" ∈ lw_good := lg_r18 _ (List.mem_of_getElem? (i := 7) rfl)
theorem lk_f_X6_63 : Cond.fieldLink RX6 63 "ZMemory$Runner" "steps" "I" ∈ lw_good := lg_r18 _ (List.mem_of_getElem? (i := 8) rfl)
theorem lk_f_X6_66 : Cond.fieldLink RX6 66 "ZMemory$Runner" "mishaps" "I" ∈ lw_good := lg_r18 _ (List.mem_of_getElem? (i := 9) rfl)
theorem lk_f_X6_69 : Cond.fieldLink RX6 69 "ZMemory$Runner" "returned" "I" ∈ lw_good := lg_r18 _ (List.mem_of_getElem? (i := 10) rfl)
theorem lk_f_X6_72 : Cond.fieldLink RX6 72 "ZMemory$Runner" "unguarded" "I" ∈ lw_good := lg_r18 _ (List.mem_of_getElem? (i := 11) rfl)
theorem lk_f_X6_75 : Cond.fieldLink RX6 75 "ZMemory$Runner" "guarded" "I" ∈ lw_good := lg_r18 _ (List.mem_of_getElem? (i := 12) rfl)
theorem lk_f_X6_78 : Cond.fieldLink RX6 78 "ZMemory$Runner" "arrived" "I" ∈ lw_good := lg_r18 _ (List.mem_of_getElem? (i := 13) rfl)
theorem lk_m_X6_81 : Cond.methodLink RX6 81 yX6_enter ∈ lw_good := lg_r18 _ (List.mem_of_getElem? (i := 22) rfl)
theorem lk_m_X6_54 : Cond.methodLink RX6 54 yJ7_fill_53178 ∈ lw_good := lg_r18 _ (List.mem_of_getElem? (i := 21) rfl)
theorem lk_m_X6_85 : Cond.methodLink RX6 85 yX6_leaveDownTo ∈ lw_good := lg_r22 _ (List.mem_of_getElem? (i := 7) rfl)
theorem lk_f_X6_89 : Cond.fieldLink RX6 89 "ZMemory$Runner" "store" "I" ∈ lw_good := lg_r20 _ (List.mem_of_getElem? (i := 4) rfl)
theorem lk_m_X6_92 : Cond.methodLink RX6 92 yX2_top ∈ lw_good := lg_r20 _ (List.mem_of_getElem? (i := 5) rfl)
theorem lk_fn_X6_96 : Cond.fieldLinkNest RX6 96 "ZMemory$Frame" "next" "I" "ZMemory" ∈ z_nest := List.mem_of_getElem? (i := 10) rfl
theorem lk_f_X6_44 : Cond.fieldLink RX6 44 "ZMemory$Runner" "program" "LZMemory$Program;" ∈ lw_good := lg_r3 _ (List.mem_of_getElem? (i := 20) rfl)
theorem lk_m_X6_101 : Cond.methodLink RX6 101 yX5_opAt ∈ lw_good := lg_r20 _ (List.mem_of_getElem? (i := 9) rfl)
theorem lk_fn_X6_107 : Cond.fieldLinkNest RX6 107 "ZMemory" "OPERANDS" "[I" "ZMemory" ∈ z_nest := List.mem_of_getElem? (i := 27) rfl
theorem lk_fn_X6_116 : Cond.fieldLinkNest RX6 116 "ZMemory$Program" "stores" "[I" "ZMemory" ∈ z_nest := List.mem_of_getElem? (i := 2) rfl
theorem lk_f_X6_29 : Cond.fieldLink RX6 29 "ZMemory$Runner" "values" "[I" ∈ lw_good := lg_r3 _ (List.mem_of_getElem? (i := 16) rfl)
theorem lk_m_X6_119 : Cond.methodLink RX6 119 yX6_carryOut ∈ lw_good := lg_r21 _ (List.mem_of_getElem? (i := 8) rfl)
theorem lk_fn_X6_110 : Cond.fieldLinkNest RX6 110 "ZMemory$Program" "operands" "[I" "ZMemory" ∈ z_nest := List.mem_of_getElem? (i := 1) rfl
theorem lk_m_X6_113 : Cond.methodLink RX6 113 yX6_ask ∈ lw_good := lg_r20 _ (List.mem_of_getElem? (i := 13) rfl)
theorem lk_m_X6_123 : Cond.methodLink RX6 123 yX6_keep ∈ lw_good := lg_r24 _ (List.mem_of_getElem? (i := 1) rfl)
theorem lk_m_X6_126 : Cond.methodLink RX6 126 yX6_raise ∈ lw_good := lg_r24 _ (List.mem_of_getElem? (i := 9) rfl)
theorem lk_m_X6_129 : Cond.methodLink RX6 129 yX6_set ∈ lw_good := lg_r24 _ (List.mem_of_getElem? (i := 5) rfl)
theorem lk_m_X6_143 : Cond.methodLink RX6 143 yX6_goOnIf ∈ lw_good := lg_r21 _ (List.mem_of_getElem? (i := 16) rfl)
theorem lk_mn_X6_133 : Cond.methodLinkNest RX6 133 yX7_number "ZMemory" ∈ z_nest := List.mem_of_getElem? (i := 34) rfl
theorem lk_m_X6_147 : Cond.methodLink RX6 147 yX6_change ∈ lw_good := lg_r21 _ (List.mem_of_getElem? (i := 20) rfl)
theorem lk_f_X6_36 : Cond.fieldLink RX6 36 "ZMemory$Runner" "memory" "LZMemory$Memory;" ∈ lw_good := lg_r3 _ (List.mem_of_getElem? (i := 18) rfl)
theorem lk_m_X6_150 : Cond.methodLink RX6 150 yX3_wordAt ∈ lw_good := lg_r21 _ (List.mem_of_getElem? (i := 7) rfl)
theorem lk_m_X6_140 : Cond.methodLink RX6 140 yX6_tell ∈ lw_good := lg_r21 _ (List.mem_of_getElem? (i := 12) rfl)
theorem lk_m_X6_155 : Cond.methodLink RX6 155 yX3_byteAt ∈ lw_good := lg_r22 _ (List.mem_of_getElem? (i := 0) rfl)
theorem lk_m_X6_158 : Cond.methodLink RX6 158 yX3_setWord ∈ lw_good := lg_r22 _ (List.mem_of_getElem? (i := 1) rfl)
theorem lk_m_X6_162 : Cond.methodLink RX6 162 yX3_setByte ∈ lw_good := lg_r22 _ (List.mem_of_getElem? (i := 2) rfl)
theorem lk_m_X6_165 : Cond.methodLink RX6 165 yX6_giveBack ∈ lw_good := lg_r22 _ (List.mem_of_getElem? (i := 3) rfl)
theorem lk_m_X6_168 : Cond.methodLink RX6 168 yX2_push ∈ lw_good := lg_r22 _ (List.mem_of_getElem? (i := 19) rfl)
theorem lk_m_X6_171 : Cond.methodLink RX6 171 yX2_pop ∈ lw_good := lg_r20 _ (List.mem_of_getElem? (i := 17) rfl)
theorem lk_fn_X6_175 : Cond.fieldLinkNest RX6 175 "ZMemory$Frames" "count" "I" "ZMemory" ∈ z_nest := List.mem_of_getElem? (i := 13) rfl
theorem lk_m_X6_178 : Cond.methodLink RX6 178 yX6_throwTo ∈ lw_good := lg_r22 _ (List.mem_of_getElem? (i := 23) rfl)
theorem lk_m_X6_181 : Cond.methodLink RX6 181 yX3_copyTable ∈ lw_good := lg_r23 _ (List.mem_of_getElem? (i := 3) rfl)
theorem lk_f_X6_32 : Cond.fieldLink RX6 32 "ZMemory$Runner" "form" "I" ∈ lw_good := lg_r3 _ (List.mem_of_getElem? (i := 17) rfl)
theorem lk_m_X6_184 : Cond.methodLink RX6 184 yX3_find ∈ lw_good := lg_r23 _ (List.mem_of_getElem? (i := 4) rfl)
theorem lk_f_X6_40 : Cond.fieldLink RX6 40 "ZMemory$Runner" "chance" "LZMemory$Chance;" ∈ lw_good := lg_r3 _ (List.mem_of_getElem? (i := 19) rfl)
theorem lk_m_X6_187 : Cond.methodLink RX6 187 yX0_draw ∈ lw_good := lg_r23 _ (List.mem_of_getElem? (i := 5) rfl)
theorem lk_m_X6_192 : Cond.methodLink RX6 192 yX4_printNumber ∈ lw_good := lg_r23 _ (List.mem_of_getElem? (i := 6) rfl)
theorem lk_m_X6_195 : Cond.methodLink RX6 195 yX4_print ∈ lw_good := lg_r23 _ (List.mem_of_getElem? (i := 16) rfl)
theorem lk_m_X6_198 : Cond.methodLink RX6 198 yX6_printRows ∈ lw_good := lg_r23 _ (List.mem_of_getElem? (i := 17) rfl)
theorem lk_m_X6_201 : Cond.methodLink RX6 201 yX6_end ∈ lw_good := lg_r22 _ (List.mem_of_getElem? (i := 15) rfl)
theorem lk_mn_X6_136 : Cond.methodLinkNest RX6 136 yX7_arithmetic "ZMemory" ∈ z_nest := List.mem_of_getElem? (i := 35) rfl
theorem lk_mn_X6_204 : Cond.methodLinkNest RX6 204 yX7_word "ZMemory" ∈ z_nest := List.mem_of_getElem? (i := 36) rfl
theorem lk_m_X6_210 : Cond.methodLink RX6 210 yX6_placeOfGlobal ∈ lw_good := lg_r21 _ (List.mem_of_getElem? (i := 2) rfl)
theorem lk_m_X6_207 : Cond.methodLink RX6 207 yX1_local ∈ lw_good := lg_r20 _ (List.mem_of_getElem? (i := 22) rfl)
theorem lk_m_X6_213 : Cond.methodLink RX6 213 yX1_setLocal ∈ lw_good := lg_r19 _ (List.mem_of_getElem? (i := 11) rfl)
theorem lk_f_X6_216 : Cond.fieldLink RX6 216 "ZMemory$Runner" "globe" "I" ∈ lw_good := lg_r21 _ (List.mem_of_getElem? (i := 6) rfl)
theorem lk_m_X6_219 : Cond.methodLink RX6 219 yX5_hasRoutine ∈ lw_good := lg_r19 _ (List.mem_of_getElem? (i := 2) rfl)
theorem lk_m_X6_223 : Cond.methodLink RX6 223 yX2_enter ∈ lw_good := lg_r19 _ (List.mem_of_getElem? (i := 3) rfl)
theorem lk_fn_X6_225 : Cond.fieldLinkNest RX6 225 "ZMemory$Frame" "routine" "I" "ZMemory" ∈ z_nest := List.mem_of_getElem? (i := 9) rfl
theorem lk_fn_X6_228 : Cond.fieldLinkNest RX6 228 "ZMemory$Program" "starts" "[I" "ZMemory" ∈ z_nest := List.mem_of_getElem? (i := 4) rfl
theorem lk_fn_X6_231 : Cond.fieldLinkNest RX6 231 "ZMemory$Program" "locals" "[I" "ZMemory" ∈ z_nest := List.mem_of_getElem? (i := 5) rfl
theorem lk_fn_X6_234 : Cond.fieldLinkNest RX6 234 "ZMemory$Frame" "localCount" "I" "ZMemory" ∈ z_nest := List.mem_of_getElem? (i := 8) rfl
theorem lk_fn_X6_237 : Cond.fieldLinkNest RX6 237 "ZMemory$Frame" "store" "I" "ZMemory" ∈ z_nest := List.mem_of_getElem? (i := 11) rfl
theorem lk_m_X6_238 : Cond.methodLink RX6 238 yX2_leave ∈ lw_good := lg_r22 _ (List.mem_of_getElem? (i := 11) rfl)
theorem lk_fn_X6_241 : Cond.fieldLinkNest RX6 241 "ZMemory$Program" "guards" "[Z" "ZMemory" ∈ z_nest := List.mem_of_getElem? (i := 6) rfl
theorem lk_f_X7_12 : Cond.fieldLink RX7 12 "ZMemory" "memory" "LZMemory$Memory;" ∈ lw_good := lg_r1 _ (List.mem_of_getElem? (i := 16) rfl)
theorem lk_m_X7_39 : Cond.methodLink RX7 39 yX3_begin ∈ lw_good := lg_r5 _ (List.mem_of_getElem? (i := 18) rfl)
theorem lk_m_X7_47 : Cond.methodLink RX7 47 yX3_byteAt ∈ lw_good := lg_r6 _ (List.mem_of_getElem? (i := 23) rfl)
theorem lk_m_X7_43 : Cond.methodLink RX7 43 yX3_wordAt ∈ lw_good := lg_r6 _ (List.mem_of_getElem? (i := 15) rfl)
theorem lk_m_X7_54 : Cond.methodLink RX7 54 yX3_setByte ∈ lw_good := lg_r8 _ (List.mem_of_getElem? (i := 0) rfl)
theorem lk_m_X7_50 : Cond.methodLink RX7 50 yX3_setWord ∈ lw_good := lg_r7 _ (List.mem_of_getElem? (i := 20) rfl)
theorem lk_m_X7_76 : Cond.methodLink RX7 76 yX7_word ∈ lw_good := lg_r9 _ (List.mem_of_getElem? (i := 8) rfl)
theorem lk_m_X7_64 : Cond.methodLink RX7 64 yX7_number ∈ lw_good := lg_r9 _ (List.mem_of_getElem? (i := 2) rfl)
theorem lk_m_X7_79 : Cond.methodLink RX7 79 yX3_copyTable ∈ lw_good := lg_r10 _ (List.mem_of_getElem? (i := 19) rfl)
theorem lk_m_X7_82 : Cond.methodLink RX7 82 yX7_isWithin ∈ lw_good := lg_r12 _ (List.mem_of_getElem? (i := 8) rfl)
theorem lk_m_X7_86 : Cond.methodLink RX7 86 yX3_find ∈ lw_good := lg_r12 _ (List.mem_of_getElem? (i := 11) rfl)
theorem lk_f_X7_19 : Cond.fieldLink RX7 19 "ZMemory" "chance" "LZMemory$Chance;" ∈ lw_good := lg_r1 _ (List.mem_of_getElem? (i := 20) rfl)
theorem lk_m_X7_90 : Cond.methodLink RX7 90 yX0_draw ∈ lw_good := lg_r13 _ (List.mem_of_getElem? (i := 5) rfl)
theorem lk_k_X7_93 : Cond.constant RX7 93 (65535) ∈ lw_good := lg_r9 _ (List.mem_of_getElem? (i := 11) rfl)
theorem lk_m_X7_94 : Cond.methodLink RX7 94 yX0_record ∈ lw_good := lg_r15 _ (List.mem_of_getElem? (i := 1) rfl)
theorem lk_f_X7_35 : Cond.fieldLink RX7 35 "ZMemory" "runner" "LZMemory$Runner;" ∈ lw_good := lg_r2 _ (List.mem_of_getElem? (i := 4) rfl)
theorem lk_fn_X7_97 : Cond.fieldLinkNest RX7 97 "ZMemory$Runner" "globe" "I" "ZMemory" ∈ z_nest := List.mem_of_getElem? (i := 20) rfl
theorem lk_fn_X7_101 : Cond.fieldLinkNest RX7 101 "ZMemory$Runner" "form" "I" "ZMemory" ∈ z_nest := List.mem_of_getElem? (i := 21) rfl
theorem lk_m_X7_104 : Cond.methodLink RX7 104 yX7_isOperand ∈ lw_good := lg_r16 _ (List.mem_of_getElem? (i := 6) rfl)
theorem lk_f_X7_26 : Cond.fieldLink RX7 26 "ZMemory" "program" "LZMemory$Program;" ∈ lw_good := lg_r2 _ (List.mem_of_getElem? (i := 0) rfl)
theorem lk_m_X7_108 : Cond.methodLink RX7 108 yX5_append ∈ lw_good := lg_r16 _ (List.mem_of_getElem? (i := 9) rfl)
theorem lk_m_X7_112 : Cond.methodLink RX7 112 yX5_define ∈ lw_good := lg_r16 _ (List.mem_of_getElem? (i := 23) rfl)
theorem lk_m_X7_116 : Cond.methodLink RX7 116 yX5_forget ∈ lw_good := lg_r17 _ (List.mem_of_getElem? (i := 11) rfl)
theorem lk_m_X7_120 : Cond.methodLink RX7 120 yX5_hasRoutine ∈ lw_good := lg_r17 _ (List.mem_of_getElem? (i := 23) rfl)
theorem lk_m_X7_123 : Cond.methodLink RX7 123 yX6_begin ∈ lw_good := lg_r18 _ (List.mem_of_getElem? (i := 3) rfl)
theorem lk_m_X7_137 : Cond.methodLink RX7 137 yX6_finish ∈ lw_good := lg_r24 _ (List.mem_of_getElem? (i := 13) rfl)
theorem lk_m_X7_126 : Cond.methodLink RX7 126 yX6_isGoing ∈ lw_good := lg_r19 _ (List.mem_of_getElem? (i := 20) rfl)
theorem lk_m_X7_130 : Cond.methodLink RX7 130 yX6_step ∈ lw_good := lg_r20 _ (List.mem_of_getElem? (i := 0) rfl)
theorem lk_m_X7_133 : Cond.methodLink RX7 133 yX6_settle ∈ lw_good := lg_r23 _ (List.mem_of_getElem? (i := 21) rfl)
theorem lk_fn_X7_140 : Cond.fieldLinkNest RX7 140 "ZMemory$Runner" "steps" "I" "ZMemory" ∈ z_nest := List.mem_of_getElem? (i := 22) rfl
theorem lk_fn_X7_143 : Cond.fieldLinkNest RX7 143 "ZMemory$Runner" "returned" "I" "ZMemory" ∈ z_nest := List.mem_of_getElem? (i := 23) rfl
theorem lk_fn_X7_146 : Cond.fieldLinkNest RX7 146 "ZMemory$Runner" "unguarded" "I" "ZMemory" ∈ z_nest := List.mem_of_getElem? (i := 24) rfl
theorem lk_fn_X7_149 : Cond.fieldLinkNest RX7 149 "ZMemory$Runner" "guarded" "I" "ZMemory" ∈ z_nest := List.mem_of_getElem? (i := 25) rfl
theorem lk_fn_X7_152 : Cond.fieldLinkNest RX7 152 "ZMemory$Runner" "arrived" "I" "ZMemory" ∈ z_nest := List.mem_of_getElem? (i := 26) rfl
theorem lk_fn_X7_155 : Cond.fieldLinkNest RX7 155 "ZMemory$Runner" "page" "LZMemory$Page;" "ZMemory" ∈ z_nest := List.mem_of_getElem? (i := 18) rfl
theorem lk_fn_X7_159 : Cond.fieldLinkNest RX7 159 "ZMemory$Page" "length" "I" "ZMemory" ∈ z_nest := List.mem_of_getElem? (i := 16) rfl
theorem lk_fn_X7_164 : Cond.fieldLinkNest RX7 164 "ZMemory$Runner" "frames" "LZMemory$Frames;" "ZMemory" ∈ z_nest := List.mem_of_getElem? (i := 17) rfl
theorem lk_fn_X7_168 : Cond.fieldLinkNest RX7 168 "ZMemory$Frames" "most" "I" "ZMemory" ∈ z_nest := List.mem_of_getElem? (i := 14) rfl
theorem lk_fn_X7_173 : Cond.fieldLinkNest RX7 173 "ZMemory$Program" "length" "I" "ZMemory" ∈ z_nest := List.mem_of_getElem? (i := 3) rfl
theorem lk_fn_X7_174 : Cond.fieldLinkNest RX7 174 "ZMemory$Chance" "taped" "I" "ZMemory" ∈ z_nest := List.mem_of_getElem? (i := 0) rfl
theorem lk_m_X7_177 : Cond.methodLink RX7 177 yX4_characterAt ∈ lw_good := lg_r29 _ (List.mem_of_getElem? (i := 1) rfl)
theorem lk_fn_X7_185 : Cond.fieldLinkNest RX7 185 "ZMemory$Runner" "leavings" "[I" "ZMemory" ∈ z_nest := List.mem_of_getElem? (i := 19) rfl
theorem lk_m_X7_189 : Cond.methodLink RX7 189 yX7_shiftNumber ∈ lw_good := lg_r9 _ (List.mem_of_getElem? (i := 12) rfl)
theorem lk_m_X7_193 : Cond.methodLink RX7 193 yX7_shiftBits ∈ lw_good := lg_r9 _ (List.mem_of_getElem? (i := 19) rfl)
theorem lk_m_X7_196 : Cond.methodLink RX7 196 Lib.Math.min.name ∈ lw_good := lg_r9 _ (List.mem_of_getElem? (i := 15) rfl)
theorem lk_c_X7_arithmetic : Cond.code yX7_arithmetic cX7_arithmetic 3 (some .int) ∈ lw_good := lg_r9 _ (List.mem_of_getElem? (i := 7) rfl)
theorem lk_s_X7_arithmetic : Cond.static yX7_arithmetic ∈ lw_good := lg_r9 _ (List.mem_of_getElem? (i := 6) rfl)
theorem lk_c_X7_isOperand : Cond.code yX7_isOperand cX7_isOperand 1 (some .boolean) ∈ lw_good := lg_r16 _ (List.mem_of_getElem? (i := 8) rfl)
theorem lk_s_X7_isOperand : Cond.static yX7_isOperand ∈ lw_good := lg_r16 _ (List.mem_of_getElem? (i := 7) rfl)
theorem lk_c_X7_isWithin : Cond.code yX7_isWithin cX7_isWithin 2 (some .boolean) ∈ lw_good := lg_r12 _ (List.mem_of_getElem? (i := 10) rfl)
theorem lk_s_X7_isWithin : Cond.static yX7_isWithin ∈ lw_good := lg_r12 _ (List.mem_of_getElem? (i := 9) rfl)
theorem lk_c_X7_number : Cond.code yX7_number cX7_number 1 (some .int) ∈ lw_good := lg_r9 _ (List.mem_of_getElem? (i := 4) rfl)
theorem lk_s_X7_number : Cond.static yX7_number ∈ lw_good := lg_r9 _ (List.mem_of_getElem? (i := 3) rfl)
theorem lk_c_X7_shiftBits : Cond.code yX7_shiftBits cX7_shiftBits 2 (some .int) ∈ lw_good := lg_r9 _ (List.mem_of_getElem? (i := 21) rfl)
theorem lk_s_X7_shiftBits : Cond.static yX7_shiftBits ∈ lw_good := lg_r9 _ (List.mem_of_getElem? (i := 20) rfl)
theorem lk_c_X7_shiftNumber : Cond.code yX7_shiftNumber cX7_shiftNumber 2 (some .int) ∈ lw_good := lg_r9 _ (List.mem_of_getElem? (i := 14) rfl)
theorem lk_s_X7_shiftNumber : Cond.static yX7_shiftNumber ∈ lw_good := lg_r9 _ (List.mem_of_getElem? (i := 13) rfl)
theorem lk_c_X7_word : Cond.code yX7_word cX7_word 1 (some .int) ∈ lw_good := lg_r9 _ (List.mem_of_getElem? (i := 10) rfl)
theorem lk_s_X7_word : Cond.static yX7_word ∈ lw_good := lg_r9 _ (List.mem_of_getElem? (i := 9) rfl)
theorem lk_c_X0_draw : Cond.code yX0_draw cX0_draw 2 (some .int) ∈ lw_good := lg_r13 _ (List.mem_of_getElem? (i := 8) rfl)
theorem lk_n_X0_draw : Cond.instanceMethod yX0_draw ∈ lw_good := lg_r13 _ (List.mem_of_getElem? (i := 6) rfl)
theorem lk_v_X0_draw : Cond.selects RX0 yX0_draw yX0_draw ∈ lw_good := lg_r13 _ (List.mem_of_getElem? (i := 7) rfl)
theorem lk_c_X0_next : Cond.code yX0_next cX0_next 1 (some .int) ∈ lw_good := lg_r13 _ (List.mem_of_getElem? (i := 14) rfl)
theorem lk_n_X0_next : Cond.instanceMethod yX0_next ∈ lw_good := lg_r13 _ (List.mem_of_getElem? (i := 12) rfl)
theorem lk_v_X0_next : Cond.selects RX0 yX0_next yX0_next ∈ lw_good := lg_r13 _ (List.mem_of_getElem? (i := 13) rfl)
theorem lk_c_X0_nextOfCount : Cond.code yX0_nextOfCount cX0_nextOfCount 2 (some .int) ∈ lw_good := lg_r13 _ (List.mem_of_getElem? (i := 19) rfl)
theorem lk_n_X0_nextOfCount : Cond.instanceMethod yX0_nextOfCount ∈ lw_good := lg_r13 _ (List.mem_of_getElem? (i := 17) rfl)
theorem lk_v_X0_nextOfCount : Cond.selects RX0 yX0_nextOfCount yX0_nextOfCount ∈ lw_good := lg_r13 _ (List.mem_of_getElem? (i := 18) rfl)
theorem lk_c_X0_nextOfSeed : Cond.code yX0_nextOfSeed cX0_nextOfSeed 1 (some .int) ∈ lw_good := lg_r14 _ (List.mem_of_getElem? (i := 4) rfl)
theorem lk_n_X0_nextOfSeed : Cond.instanceMethod yX0_nextOfSeed ∈ lw_good := lg_r14 _ (List.mem_of_getElem? (i := 2) rfl)
theorem lk_v_X0_nextOfSeed : Cond.selects RX0 yX0_nextOfSeed yX0_nextOfSeed ∈ lw_good := lg_r14 _ (List.mem_of_getElem? (i := 3) rfl)
theorem lk_c_X0_nextOfTape : Cond.code yX0_nextOfTape cX0_nextOfTape 2 (some .int) ∈ lw_good := lg_r13 _ (List.mem_of_getElem? (i := 23) rfl)
theorem lk_n_X0_nextOfTape : Cond.instanceMethod yX0_nextOfTape ∈ lw_good := lg_r13 _ (List.mem_of_getElem? (i := 21) rfl)
theorem lk_v_X0_nextOfTape : Cond.selects RX0 yX0_nextOfTape yX0_nextOfTape ∈ lw_good := lg_r13 _ (List.mem_of_getElem? (i := 22) rfl)
theorem lk_c_X0_record : Cond.code yX0_record cX0_record 2 (some .int) ∈ lw_good := lg_r15 _ (List.mem_of_getElem? (i := 4) rfl)
theorem lk_n_X0_record : Cond.instanceMethod yX0_record ∈ lw_good := lg_r15 _ (List.mem_of_getElem? (i := 2) rfl)
theorem lk_v_X0_record : Cond.selects RX0 yX0_record yX0_record ∈ lw_good := lg_r15 _ (List.mem_of_getElem? (i := 3) rfl)
theorem lk_c_X1_hasLocal : Cond.code yX1_hasLocal cX1_hasLocal 2 (some .boolean) ∈ lw_good := lg_r19 _ (List.mem_of_getElem? (i := 18) rfl)
theorem lk_n_X1_hasLocal : Cond.instanceMethod yX1_hasLocal ∈ lw_good := lg_r19 _ (List.mem_of_getElem? (i := 16) rfl)
theorem lk_v_X1_hasLocal : Cond.selects RX1 yX1_hasLocal yX1_hasLocal ∈ lw_good := lg_r19 _ (List.mem_of_getElem? (i := 17) rfl)
theorem lk_c_X1_local : Cond.code yX1_local cX1_local 2 (some .int) ∈ lw_good := lg_r21 _ (List.mem_of_getElem? (i := 1) rfl)
theorem lk_n_X1_local : Cond.instanceMethod yX1_local ∈ lw_good := lg_r20 _ (List.mem_of_getElem? (i := 23) rfl)
theorem lk_v_X1_local : Cond.selects RX1 yX1_local yX1_local ∈ lw_good := lg_r21 _ (List.mem_of_getElem? (i := 0) rfl)
theorem lk_c_X1_setLocal : Cond.code yX1_setLocal cX1_setLocal 3 (some .int) ∈ lw_good := lg_r19 _ (List.mem_of_getElem? (i := 14) rfl)
theorem lk_n_X1_setLocal : Cond.instanceMethod yX1_setLocal ∈ lw_good := lg_r19 _ (List.mem_of_getElem? (i := 12) rfl)
theorem lk_v_X1_setLocal : Cond.selects RX1 yX1_setLocal yX1_setLocal ∈ lw_good := lg_r19 _ (List.mem_of_getElem? (i := 13) rfl)
theorem lk_c_X2_begin : Cond.code yX2_begin cX2_begin 1 none ∈ lw_good := lg_r18 _ (List.mem_of_getElem? (i := 17) rfl)
theorem lk_n_X2_begin : Cond.instanceMethod yX2_begin ∈ lw_good := lg_r18 _ (List.mem_of_getElem? (i := 15) rfl)
theorem lk_v_X2_begin : Cond.selects RX2 yX2_begin yX2_begin ∈ lw_good := lg_r18 _ (List.mem_of_getElem? (i := 16) rfl)
theorem lk_c_X2_enter : Cond.code yX2_enter cX2_enter 2 (some (.object "ZMemory$Frame")) ∈ lw_good := lg_r19 _ (List.mem_of_getElem? (i := 6) rfl)
theorem lk_n_X2_enter : Cond.instanceMethod yX2_enter ∈ lw_good := lg_r19 _ (List.mem_of_getElem? (i := 4) rfl)
theorem lk_v_X2_enter : Cond.selects RX2 yX2_enter yX2_enter ∈ lw_good := lg_r19 _ (List.mem_of_getElem? (i := 5) rfl)
theorem lk_c_X2_leave : Cond.code yX2_leave cX2_leave 1 none ∈ lw_good := lg_r22 _ (List.mem_of_getElem? (i := 14) rfl)
theorem lk_n_X2_leave : Cond.instanceMethod yX2_leave ∈ lw_good := lg_r22 _ (List.mem_of_getElem? (i := 12) rfl)
theorem lk_v_X2_leave : Cond.selects RX2 yX2_leave yX2_leave ∈ lw_good := lg_r22 _ (List.mem_of_getElem? (i := 13) rfl)
theorem lk_c_X2_pop : Cond.code yX2_pop cX2_pop 1 (some .int) ∈ lw_good := lg_r20 _ (List.mem_of_getElem? (i := 20) rfl)
theorem lk_n_X2_pop : Cond.instanceMethod yX2_pop ∈ lw_good := lg_r20 _ (List.mem_of_getElem? (i := 18) rfl)
theorem lk_v_X2_pop : Cond.selects RX2 yX2_pop yX2_pop ∈ lw_good := lg_r20 _ (List.mem_of_getElem? (i := 19) rfl)
theorem lk_c_X2_push : Cond.code yX2_push cX2_push 2 (some .int) ∈ lw_good := lg_r22 _ (List.mem_of_getElem? (i := 22) rfl)
theorem lk_n_X2_push : Cond.instanceMethod yX2_push ∈ lw_good := lg_r22 _ (List.mem_of_getElem? (i := 20) rfl)
theorem lk_v_X2_push : Cond.selects RX2 yX2_push yX2_push ∈ lw_good := lg_r22 _ (List.mem_of_getElem? (i := 21) rfl)
theorem lk_c_X2_top : Cond.code yX2_top cX2_top 1 (some (.object "ZMemory$Frame")) ∈ lw_good := lg_r20 _ (List.mem_of_getElem? (i := 8) rfl)
theorem lk_n_X2_top : Cond.instanceMethod yX2_top ∈ lw_good := lg_r20 _ (List.mem_of_getElem? (i := 6) rfl)
theorem lk_v_X2_top : Cond.selects RX2 yX2_top yX2_top ∈ lw_good := lg_r20 _ (List.mem_of_getElem? (i := 7) rfl)
theorem lk_c_X3_begin : Cond.code yX3_begin cX3_begin 3 none ∈ lw_good := lg_r5 _ (List.mem_of_getElem? (i := 21) rfl)
theorem lk_n_X3_begin : Cond.instanceMethod yX3_begin ∈ lw_good := lg_r5 _ (List.mem_of_getElem? (i := 19) rfl)
theorem lk_v_X3_begin : Cond.selects RX3 yX3_begin yX3_begin ∈ lw_good := lg_r5 _ (List.mem_of_getElem? (i := 20) rfl)
theorem lk_c_X3_byteAt : Cond.code yX3_byteAt cX3_byteAt 2 (some .int) ∈ lw_good := lg_r7 _ (List.mem_of_getElem? (i := 2) rfl)
theorem lk_n_X3_byteAt : Cond.instanceMethod yX3_byteAt ∈ lw_good := lg_r7 _ (List.mem_of_getElem? (i := 0) rfl)
theorem lk_v_X3_byteAt : Cond.selects RX3 yX3_byteAt yX3_byteAt ∈ lw_good := lg_r7 _ (List.mem_of_getElem? (i := 1) rfl)
theorem lk_c_X3_copyAtOnce : Cond.code yX3_copyAtOnce cX3_copyAtOnce 4 (some .int) ∈ lw_good := lg_r11 _ (List.mem_of_getElem? (i := 9) rfl)
theorem lk_n_X3_copyAtOnce : Cond.instanceMethod yX3_copyAtOnce ∈ lw_good := lg_r11 _ (List.mem_of_getElem? (i := 7) rfl)
theorem lk_v_X3_copyAtOnce : Cond.selects RX3 yX3_copyAtOnce yX3_copyAtOnce ∈ lw_good := lg_r11 _ (List.mem_of_getElem? (i := 8) rfl)
theorem lk_c_X3_copyInTurn : Cond.code yX3_copyInTurn cX3_copyInTurn 7 (some .int) ∈ lw_good := lg_r11 _ (List.mem_of_getElem? (i := 17) rfl)
theorem lk_n_X3_copyInTurn : Cond.instanceMethod yX3_copyInTurn ∈ lw_good := lg_r11 _ (List.mem_of_getElem? (i := 15) rfl)
theorem lk_v_X3_copyInTurn : Cond.selects RX3 yX3_copyInTurn yX3_copyInTurn ∈ lw_good := lg_r11 _ (List.mem_of_getElem? (i := 16) rfl)
theorem lk_c_X3_copyTable : Cond.code yX3_copyTable cX3_copyTable 4 (some .int) ∈ lw_good := lg_r10 _ (List.mem_of_getElem? (i := 22) rfl)
theorem lk_n_X3_copyTable : Cond.instanceMethod yX3_copyTable ∈ lw_good := lg_r10 _ (List.mem_of_getElem? (i := 20) rfl)
theorem lk_v_X3_copyTable : Cond.selects RX3 yX3_copyTable yX3_copyTable ∈ lw_good := lg_r10 _ (List.mem_of_getElem? (i := 21) rfl)
theorem lk_c_X3_find : Cond.code yX3_find cX3_find 10 (some .int) ∈ lw_good := lg_r12 _ (List.mem_of_getElem? (i := 14) rfl)
theorem lk_n_X3_find : Cond.instanceMethod yX3_find ∈ lw_good := lg_r12 _ (List.mem_of_getElem? (i := 12) rfl)
theorem lk_v_X3_find : Cond.selects RX3 yX3_find yX3_find ∈ lw_good := lg_r12 _ (List.mem_of_getElem? (i := 13) rfl)
theorem lk_c_X3_isOutside : Cond.code yX3_isOutside cX3_isOutside 2 (some .boolean) ∈ lw_good := lg_r6 _ (List.mem_of_getElem? (i := 22) rfl)
theorem lk_n_X3_isOutside : Cond.instanceMethod yX3_isOutside ∈ lw_good := lg_r6 _ (List.mem_of_getElem? (i := 20) rfl)
theorem lk_v_X3_isOutside : Cond.selects RX3 yX3_isOutside yX3_isOutside ∈ lw_good := lg_r6 _ (List.mem_of_getElem? (i := 21) rfl)
theorem lk_c_X3_setByte : Cond.code yX3_setByte cX3_setByte 4 (some .int) ∈ lw_good := lg_r8 _ (List.mem_of_getElem? (i := 3) rfl)
theorem lk_n_X3_setByte : Cond.instanceMethod yX3_setByte ∈ lw_good := lg_r8 _ (List.mem_of_getElem? (i := 1) rfl)
theorem lk_v_X3_setByte : Cond.selects RX3 yX3_setByte yX3_setByte ∈ lw_good := lg_r8 _ (List.mem_of_getElem? (i := 2) rfl)
theorem lk_c_X3_setWord : Cond.code yX3_setWord cX3_setWord 4 (some .int) ∈ lw_good := lg_r7 _ (List.mem_of_getElem? (i := 23) rfl)
theorem lk_n_X3_setWord : Cond.instanceMethod yX3_setWord ∈ lw_good := lg_r7 _ (List.mem_of_getElem? (i := 21) rfl)
theorem lk_v_X3_setWord : Cond.selects RX3 yX3_setWord yX3_setWord ∈ lw_good := lg_r7 _ (List.mem_of_getElem? (i := 22) rfl)
theorem lk_c_X3_wipe : Cond.code yX3_wipe cX3_wipe 4 (some .int) ∈ lw_good := lg_r11 _ (List.mem_of_getElem? (i := 5) rfl)
theorem lk_n_X3_wipe : Cond.instanceMethod yX3_wipe ∈ lw_good := lg_r11 _ (List.mem_of_getElem? (i := 3) rfl)
theorem lk_v_X3_wipe : Cond.selects RX3 yX3_wipe yX3_wipe ∈ lw_good := lg_r11 _ (List.mem_of_getElem? (i := 4) rfl)
theorem lk_c_X3_wordAt : Cond.code yX3_wordAt cX3_wordAt 2 (some .int) ∈ lw_good := lg_r6 _ (List.mem_of_getElem? (i := 18) rfl)
theorem lk_n_X3_wordAt : Cond.instanceMethod yX3_wordAt ∈ lw_good := lg_r6 _ (List.mem_of_getElem? (i := 16) rfl)
theorem lk_v_X3_wordAt : Cond.selects RX3 yX3_wordAt yX3_wordAt ∈ lw_good := lg_r6 _ (List.mem_of_getElem? (i := 17) rfl)
theorem lk_c_X4_characterAt : Cond.code yX4_characterAt cX4_characterAt 2 (some .int) ∈ lw_good := lg_r29 _ (List.mem_of_getElem? (i := 4) rfl)
theorem lk_n_X4_characterAt : Cond.instanceMethod yX4_characterAt ∈ lw_good := lg_r29 _ (List.mem_of_getElem? (i := 2) rfl)
theorem lk_v_X4_characterAt : Cond.selects RX4 yX4_characterAt yX4_characterAt ∈ lw_good := lg_r29 _ (List.mem_of_getElem? (i := 3) rfl)
theorem lk_c_X4_print : Cond.code yX4_print cX4_print 2 (some .int) ∈ lw_good := lg_r23 _ (List.mem_of_getElem? (i := 14) rfl)
theorem lk_n_X4_print : Cond.instanceMethod yX4_print ∈ lw_good := lg_r23 _ (List.mem_of_getElem? (i := 12) rfl)
theorem lk_v_X4_print : Cond.selects RX4 yX4_print yX4_print ∈ lw_good := lg_r23 _ (List.mem_of_getElem? (i := 13) rfl)
theorem lk_c_X4_printNumber : Cond.code yX4_printNumber cX4_printNumber 5 (some .int) ∈ lw_good := lg_r23 _ (List.mem_of_getElem? (i := 9) rfl)
theorem lk_n_X4_printNumber : Cond.instanceMethod yX4_printNumber ∈ lw_good := lg_r23 _ (List.mem_of_getElem? (i := 7) rfl)
theorem lk_v_X4_printNumber : Cond.selects RX4 yX4_printNumber yX4_printNumber ∈ lw_good := lg_r23 _ (List.mem_of_getElem? (i := 8) rfl)
theorem lk_c_X5_append : Cond.code yX5_append cX5_append 7 (some .int) ∈ lw_good := lg_r16 _ (List.mem_of_getElem? (i := 12) rfl)
theorem lk_n_X5_append : Cond.instanceMethod yX5_append ∈ lw_good := lg_r16 _ (List.mem_of_getElem? (i := 10) rfl)
theorem lk_v_X5_append : Cond.selects RX5 yX5_append yX5_append ∈ lw_good := lg_r16 _ (List.mem_of_getElem? (i := 11) rfl)
theorem lk_c_X5_define : Cond.code yX5_define cX5_define 5 none ∈ lw_good := lg_r17 _ (List.mem_of_getElem? (i := 2) rfl)
theorem lk_n_X5_define : Cond.instanceMethod yX5_define ∈ lw_good := lg_r17 _ (List.mem_of_getElem? (i := 0) rfl)
theorem lk_v_X5_define : Cond.selects RX5 yX5_define yX5_define ∈ lw_good := lg_r17 _ (List.mem_of_getElem? (i := 1) rfl)
theorem lk_c_X5_forget : Cond.code yX5_forget cX5_forget 3 (some .int) ∈ lw_good := lg_r17 _ (List.mem_of_getElem? (i := 14) rfl)
theorem lk_n_X5_forget : Cond.instanceMethod yX5_forget ∈ lw_good := lg_r17 _ (List.mem_of_getElem? (i := 12) rfl)
theorem lk_v_X5_forget : Cond.selects RX5 yX5_forget yX5_forget ∈ lw_good := lg_r17 _ (List.mem_of_getElem? (i := 13) rfl)
theorem lk_c_X5_hasRoutine : Cond.code yX5_hasRoutine cX5_hasRoutine 2 (some .boolean) ∈ lw_good := lg_r18 _ (List.mem_of_getElem? (i := 2) rfl)
theorem lk_n_X5_hasRoutine : Cond.instanceMethod yX5_hasRoutine ∈ lw_good := lg_r18 _ (List.mem_of_getElem? (i := 0) rfl)
theorem lk_v_X5_hasRoutine : Cond.selects RX5 yX5_hasRoutine yX5_hasRoutine ∈ lw_good := lg_r18 _ (List.mem_of_getElem? (i := 1) rfl)
theorem lk_c_X5_opAt : Cond.code yX5_opAt cX5_opAt 2 (some .int) ∈ lw_good := lg_r20 _ (List.mem_of_getElem? (i := 12) rfl)
theorem lk_n_X5_opAt : Cond.instanceMethod yX5_opAt ∈ lw_good := lg_r20 _ (List.mem_of_getElem? (i := 10) rfl)
theorem lk_v_X5_opAt : Cond.selects RX5 yX5_opAt yX5_opAt ∈ lw_good := lg_r20 _ (List.mem_of_getElem? (i := 11) rfl)
theorem lk_c_X6_ask : Cond.code yX6_ask cX6_ask 2 (some .int) ∈ lw_good := lg_r20 _ (List.mem_of_getElem? (i := 16) rfl)
theorem lk_n_X6_ask : Cond.instanceMethod yX6_ask ∈ lw_good := lg_r20 _ (List.mem_of_getElem? (i := 14) rfl)
theorem lk_v_X6_ask : Cond.selects RX6 yX6_ask yX6_ask ∈ lw_good := lg_r20 _ (List.mem_of_getElem? (i := 15) rfl)
theorem lk_c_X6_begin : Cond.code yX6_begin cX6_begin 4 none ∈ lw_good := lg_r18 _ (List.mem_of_getElem? (i := 6) rfl)
theorem lk_n_X6_begin : Cond.instanceMethod yX6_begin ∈ lw_good := lg_r18 _ (List.mem_of_getElem? (i := 4) rfl)
theorem lk_v_X6_begin : Cond.selects RX6 yX6_begin yX6_begin ∈ lw_good := lg_r18 _ (List.mem_of_getElem? (i := 5) rfl)
theorem lk_c_X6_carryOut : Cond.code yX6_carryOut cX6_carryOut 6 (some .int) ∈ lw_good := lg_r21 _ (List.mem_of_getElem? (i := 11) rfl)
theorem lk_n_X6_carryOut : Cond.instanceMethod yX6_carryOut ∈ lw_good := lg_r21 _ (List.mem_of_getElem? (i := 9) rfl)
theorem lk_v_X6_carryOut : Cond.selects RX6 yX6_carryOut yX6_carryOut ∈ lw_good := lg_r21 _ (List.mem_of_getElem? (i := 10) rfl)
theorem lk_c_X6_change : Cond.code yX6_change cX6_change 4 (some .int) ∈ lw_good := lg_r21 _ (List.mem_of_getElem? (i := 23) rfl)
theorem lk_n_X6_change : Cond.instanceMethod yX6_change ∈ lw_good := lg_r21 _ (List.mem_of_getElem? (i := 21) rfl)
theorem lk_v_X6_change : Cond.selects RX6 yX6_change yX6_change ∈ lw_good := lg_r21 _ (List.mem_of_getElem? (i := 22) rfl)
theorem lk_c_X6_end : Cond.code yX6_end cX6_end 2 (some .int) ∈ lw_good := lg_r22 _ (List.mem_of_getElem? (i := 18) rfl)
theorem lk_n_X6_end : Cond.instanceMethod yX6_end ∈ lw_good := lg_r22 _ (List.mem_of_getElem? (i := 16) rfl)
theorem lk_v_X6_end : Cond.selects RX6 yX6_end yX6_end ∈ lw_good := lg_r22 _ (List.mem_of_getElem? (i := 17) rfl)
theorem lk_c_X6_enter : Cond.code yX6_enter cX6_enter 6 (some .int) ∈ lw_good := lg_r19 _ (List.mem_of_getElem? (i := 1) rfl)
theorem lk_n_X6_enter : Cond.instanceMethod yX6_enter ∈ lw_good := lg_r18 _ (List.mem_of_getElem? (i := 23) rfl)
theorem lk_v_X6_enter : Cond.selects RX6 yX6_enter yX6_enter ∈ lw_good := lg_r19 _ (List.mem_of_getElem? (i := 0) rfl)
theorem lk_c_X6_finish : Cond.code yX6_finish cX6_finish 1 (some .int) ∈ lw_good := lg_r24 _ (List.mem_of_getElem? (i := 16) rfl)
theorem lk_n_X6_finish : Cond.instanceMethod yX6_finish ∈ lw_good := lg_r24 _ (List.mem_of_getElem? (i := 14) rfl)
theorem lk_v_X6_finish : Cond.selects RX6 yX6_finish yX6_finish ∈ lw_good := lg_r24 _ (List.mem_of_getElem? (i := 15) rfl)
theorem lk_c_X6_giveBack : Cond.code yX6_giveBack cX6_giveBack 3 (some .int) ∈ lw_good := lg_r22 _ (List.mem_of_getElem? (i := 6) rfl)
theorem lk_n_X6_giveBack : Cond.instanceMethod yX6_giveBack ∈ lw_good := lg_r22 _ (List.mem_of_getElem? (i := 4) rfl)
theorem lk_v_X6_giveBack : Cond.selects RX6 yX6_giveBack yX6_giveBack ∈ lw_good := lg_r22 _ (List.mem_of_getElem? (i := 5) rfl)
theorem lk_c_X6_goOnIf : Cond.code yX6_goOnIf cX6_goOnIf 3 (some .int) ∈ lw_good := lg_r21 _ (List.mem_of_getElem? (i := 19) rfl)
theorem lk_n_X6_goOnIf : Cond.instanceMethod yX6_goOnIf ∈ lw_good := lg_r21 _ (List.mem_of_getElem? (i := 17) rfl)
theorem lk_v_X6_goOnIf : Cond.selects RX6 yX6_goOnIf yX6_goOnIf ∈ lw_good := lg_r21 _ (List.mem_of_getElem? (i := 18) rfl)
theorem lk_c_X6_isGoing : Cond.code yX6_isGoing cX6_isGoing 1 (some .boolean) ∈ lw_good := lg_r19 _ (List.mem_of_getElem? (i := 23) rfl)
theorem lk_n_X6_isGoing : Cond.instanceMethod yX6_isGoing ∈ lw_good := lg_r19 _ (List.mem_of_getElem? (i := 21) rfl)
theorem lk_v_X6_isGoing : Cond.selects RX6 yX6_isGoing yX6_isGoing ∈ lw_good := lg_r19 _ (List.mem_of_getElem? (i := 22) rfl)
theorem lk_c_X6_keep : Cond.code yX6_keep cX6_keep 2 (some .int) ∈ lw_good := lg_r24 _ (List.mem_of_getElem? (i := 4) rfl)
theorem lk_n_X6_keep : Cond.instanceMethod yX6_keep ∈ lw_good := lg_r24 _ (List.mem_of_getElem? (i := 2) rfl)
theorem lk_v_X6_keep : Cond.selects RX6 yX6_keep yX6_keep ∈ lw_good := lg_r24 _ (List.mem_of_getElem? (i := 3) rfl)
theorem lk_c_X6_leaveDownTo : Cond.code yX6_leaveDownTo cX6_leaveDownTo 3 none ∈ lw_good := lg_r22 _ (List.mem_of_getElem? (i := 10) rfl)
theorem lk_n_X6_leaveDownTo : Cond.instanceMethod yX6_leaveDownTo ∈ lw_good := lg_r22 _ (List.mem_of_getElem? (i := 8) rfl)
theorem lk_v_X6_leaveDownTo : Cond.selects RX6 yX6_leaveDownTo yX6_leaveDownTo ∈ lw_good := lg_r22 _ (List.mem_of_getElem? (i := 9) rfl)
theorem lk_c_X6_placeOfGlobal : Cond.code yX6_placeOfGlobal cX6_placeOfGlobal 2 (some .int) ∈ lw_good := lg_r21 _ (List.mem_of_getElem? (i := 5) rfl)
theorem lk_n_X6_placeOfGlobal : Cond.instanceMethod yX6_placeOfGlobal ∈ lw_good := lg_r21 _ (List.mem_of_getElem? (i := 3) rfl)
theorem lk_v_X6_placeOfGlobal : Cond.selects RX6 yX6_placeOfGlobal yX6_placeOfGlobal ∈ lw_good := lg_r21 _ (List.mem_of_getElem? (i := 4) rfl)
theorem lk_c_X6_printRows : Cond.code yX6_printRows cX6_printRows 9 (some .int) ∈ lw_good := lg_r23 _ (List.mem_of_getElem? (i := 20) rfl)
theorem lk_n_X6_printRows : Cond.instanceMethod yX6_printRows ∈ lw_good := lg_r23 _ (List.mem_of_getElem? (i := 18) rfl)
theorem lk_v_X6_printRows : Cond.selects RX6 yX6_printRows yX6_printRows ∈ lw_good := lg_r23 _ (List.mem_of_getElem? (i := 19) rfl)
theorem lk_c_X6_raise : Cond.code yX6_raise cX6_raise 3 (some .int) ∈ lw_good := lg_r24 _ (List.mem_of_getElem? (i := 12) rfl)
theorem lk_n_X6_raise : Cond.instanceMethod yX6_raise ∈ lw_good := lg_r24 _ (List.mem_of_getElem? (i := 10) rfl)
theorem lk_v_X6_raise : Cond.selects RX6 yX6_raise yX6_raise ∈ lw_good := lg_r24 _ (List.mem_of_getElem? (i := 11) rfl)
theorem lk_c_X6_set : Cond.code yX6_set cX6_set 3 (some .int) ∈ lw_good := lg_r24 _ (List.mem_of_getElem? (i := 8) rfl)
theorem lk_n_X6_set : Cond.instanceMethod yX6_set ∈ lw_good := lg_r24 _ (List.mem_of_getElem? (i := 6) rfl)
theorem lk_v_X6_set : Cond.selects RX6 yX6_set yX6_set ∈ lw_good := lg_r24 _ (List.mem_of_getElem? (i := 7) rfl)
theorem lk_c_X6_settle : Cond.code yX6_settle cX6_settle 4 none ∈ lw_good := lg_r24 _ (List.mem_of_getElem? (i := 0) rfl)
theorem lk_n_X6_settle : Cond.instanceMethod yX6_settle ∈ lw_good := lg_r23 _ (List.mem_of_getElem? (i := 22) rfl)
theorem lk_v_X6_settle : Cond.selects RX6 yX6_settle yX6_settle ∈ lw_good := lg_r23 _ (List.mem_of_getElem? (i := 23) rfl)
theorem lk_c_X6_step : Cond.code yX6_step cX6_step 6 (some .int) ∈ lw_good := lg_r20 _ (List.mem_of_getElem? (i := 3) rfl)
theorem lk_n_X6_step : Cond.instanceMethod yX6_step ∈ lw_good := lg_r20 _ (List.mem_of_getElem? (i := 1) rfl)
theorem lk_v_X6_step : Cond.selects RX6 yX6_step yX6_step ∈ lw_good := lg_r20 _ (List.mem_of_getElem? (i := 2) rfl)
theorem lk_c_X6_tell : Cond.code yX6_tell cX6_tell 3 (some .int) ∈ lw_good := lg_r21 _ (List.mem_of_getElem? (i := 15) rfl)
theorem lk_n_X6_tell : Cond.instanceMethod yX6_tell ∈ lw_good := lg_r21 _ (List.mem_of_getElem? (i := 13) rfl)
theorem lk_v_X6_tell : Cond.selects RX6 yX6_tell yX6_tell ∈ lw_good := lg_r21 _ (List.mem_of_getElem? (i := 14) rfl)
theorem lk_c_X6_throwTo : Cond.code yX6_throwTo cX6_throwTo 3 (some .int) ∈ lw_good := lg_r23 _ (List.mem_of_getElem? (i := 2) rfl)
theorem lk_n_X6_throwTo : Cond.instanceMethod yX6_throwTo ∈ lw_good := lg_r23 _ (List.mem_of_getElem? (i := 0) rfl)
theorem lk_v_X6_throwTo : Cond.selects RX6 yX6_throwTo yX6_throwTo ∈ lw_good := lg_r23 _ (List.mem_of_getElem? (i := 1) rfl)
theorem lk_i_X7 : Cond.initialized RX7 ∈ lw_good := lg_r1 _ (List.mem_of_getElem? (i := 2) rfl)
theorem lk_i_X0 : Cond.initialized RX0 ∈ lw_good := lg_r1 _ (List.mem_of_getElem? (i := 19) rfl)
theorem lk_i_X1 : Cond.initialized RX1 ∈ lw_good := lg_r4 _ (List.mem_of_getElem? (i := 5) rfl)
theorem lk_i_X2 : Cond.initialized RX2 ∈ lw_good := lg_r3 _ (List.mem_of_getElem? (i := 9) rfl)
theorem lk_i_X3 : Cond.initialized RX3 ∈ lw_good := lg_r1 _ (List.mem_of_getElem? (i := 15) rfl)
theorem lk_i_X4 : Cond.initialized RX4 ∈ lw_good := lg_r3 _ (List.mem_of_getElem? (i := 13) rfl)
theorem lk_i_X5 : Cond.initialized RX5 ∈ lw_good := lg_r1 _ (List.mem_of_getElem? (i := 23) rfl)
theorem lk_i_X6 : Cond.initialized RX6 ∈ lw_good := lg_r2 _ (List.mem_of_getElem? (i := 3) rfl)
theorem lk_ms_abs : Cond.static Lib.Math.abs.name ∈ lw_good := lg_r11 _ (List.mem_of_getElem? (i := 0) rfl)
theorem lk_mc_abs : Cond.code Lib.Math.abs.name Lib.Math.abs.code 1 (some .int) ∈ lw_good := lg_r11 _ (List.mem_of_getElem? (i := 1) rfl)
theorem lk_ms_max : Cond.static Lib.Math.max.name ∈ lw_good := lg_r19 _ (List.mem_of_getElem? (i := 8) rfl)
theorem lk_mc_max : Cond.code Lib.Math.max.name Lib.Math.max.code 2 (some .int) ∈ lw_good := lg_r19 _ (List.mem_of_getElem? (i := 9) rfl)
theorem lk_ms_min : Cond.static Lib.Math.min.name ∈ lw_good := lg_r9 _ (List.mem_of_getElem? (i := 16) rfl)
theorem lk_mc_min : Cond.code Lib.Math.min.name Lib.Math.min.code 2 (some .int) ∈ lw_good := lg_r9 _ (List.mem_of_getElem? (i := 18) rfl)
theorem lk_mi : Cond.initialized "java/lang/Math" ∈ lw_good := lg_r9 _ (List.mem_of_getElem? (i := 17) rfl)
theorem lk_acn : Cond.native arraycopyName ∈ lw_good := lg_r11 _ (List.mem_of_getElem? (i := 11) rfl)
theorem lk_acs : Cond.static arraycopyName ∈ lw_good := lg_r11 _ (List.mem_of_getElem? (i := 12) rfl)
theorem lk_aci : Cond.initialized "java/lang/System" ∈ lw_good := lg_r11 _ (List.mem_of_getElem? (i := 13) rfl)
theorem lk_fc : Cond.code yJ7_fill_53178 cJ7_fill_53178 4 none ∈ lw_good := lg_r6 _ (List.mem_of_getElem? (i := 3) rfl)
theorem lk_fs : Cond.static yJ7_fill_53178 ∈ lw_good := lg_r6 _ (List.mem_of_getElem? (i := 1) rfl)
theorem lk_fi : Cond.initialized RJ7 ∈ lw_good := lg_r6 _ (List.mem_of_getElem? (i := 2) rfl)
end
section
theorem dX0_init_0 : decode cX0_init 0 = .ok (.aload_n 0, 1) := by decide +kernel
theorem dX0_init_1 : decode cX0_init 1 = .ok (.invokespecial 3, 3) := by decide +kernel
theorem dX0_init_4 : decode cX0_init 4 = .ok (.aload_n 0, 1) := by decide +kernel
theorem dX0_init_5 : decode cX0_init 5 = .ok (.bipush 50, 2) := by decide +kernel
theorem dX0_init_7 : decode cX0_init 7 = .ok (.newarray .int, 2) := by decide +kernel
theorem dX0_init_9 : decode cX0_init 9 = .ok (.putfield 9, 3) := by decide +kernel
theorem dX0_init_12 : decode cX0_init 12 = .ok (.aload_n 0, 1) := by decide +kernel
theorem dX0_init_13 : decode cX0_init 13 = .ok (.iconst 0, 1) := by decide +kernel
theorem dX0_init_14 : decode cX0_init 14 = .ok (.putfield 15, 3) := by decide +kernel
theorem dX0_init_17 : decode cX0_init 17 = .ok (.aload_n 0, 1) := by decide +kernel
theorem dX0_init_18 : decode cX0_init 18 = .ok (.iconst 1, 1) := by decide +kernel
theorem dX0_init_19 : decode cX0_init 19 = .ok (.putfield 19, 3) := by decide +kernel
theorem dX0_init_22 : decode cX0_init 22 = .ok (.return_, 1) := by decide +kernel
theorem dX0_record_0 : decode cX0_record 0 = .ok (.aload_n 0, 1) := by decide +kernel
theorem dX0_record_1 : decode cX0_record 1 = .ok (.getfield 22, 3) := by decide +kernel
theorem dX0_record_4 : decode cX0_record 4 = .ok (.bipush 50, 2) := by decide +kernel
theorem dX0_record_6 : decode cX0_record 6 = .ok (.if_icmp .lt 6, 3) := by decide +kernel
theorem dX0_record_9 : decode cX0_record 9 = .ok (.bipush (-3), 2) := by decide +kernel
theorem dX0_record_11 : decode cX0_record 11 = .ok (.ireturn, 1) := by decide +kernel
theorem dX0_record_12 : decode cX0_record 12 = .ok (.aload_n 0, 1) := by decide +kernel
theorem dX0_record_13 : decode cX0_record 13 = .ok (.getfield 9, 3) := by decide +kernel
theorem dX0_record_16 : decode cX0_record 16 = .ok (.aload_n 0, 1) := by decide +kernel
theorem dX0_record_17 : decode cX0_record 17 = .ok (.getfield 25, 3) := by decide +kernel
theorem dX0_record_20 : decode cX0_record 20 = .ok (.aload_n 0, 1) := by decide +kernel
theorem dX0_record_21 : decode cX0_record 21 = .ok (.getfield 22, 3) := by decide +kernel
theorem dX0_record_24 : decode cX0_record 24 = .ok (.iadd, 1) := by decide +kernel
theorem dX0_record_25 : decode cX0_record 25 = .ok (.bipush 50, 2) := by decide +kernel
theorem dX0_record_27 : decode cX0_record 27 = .ok (.irem, 1) := by decide +kernel
theorem dX0_record_28 : decode cX0_record 28 = .ok (.iload_n 1, 1) := by decide +kernel
theorem dX0_record_29 : decode cX0_record 29 = .ok (.iastore, 1) := by decide +kernel
theorem dX0_record_30 : decode cX0_record 30 = .ok (.aload_n 0, 1) := by decide +kernel
theorem dX0_record_31 : decode cX0_record 31 = .ok (.dup, 1) := by decide +kernel
theorem dX0_record_32 : decode cX0_record 32 = .ok (.getfield 22, 3) := by decide +kernel
theorem dX0_record_35 : decode cX0_record 35 = .ok (.iconst 1, 1) := by decide +kernel
theorem dX0_record_36 : decode cX0_record 36 = .ok (.iadd, 1) := by decide +kernel
theorem dX0_record_37 : decode cX0_record 37 = .ok (.putfield 22, 3) := by decide +kernel
theorem dX0_record_40 : decode cX0_record 40 = .ok (.aload_n 0, 1) := by decide +kernel
theorem dX0_record_41 : decode cX0_record 41 = .ok (.getfield 22, 3) := by decide +kernel
theorem dX0_record_44 : decode cX0_record 44 = .ok (.ireturn, 1) := by decide +kernel
theorem dX0_draw_0 : decode cX0_draw 0 = .ok (.iload_n 1, 1) := by decide +kernel
theorem dX0_draw_1 : decode cX0_draw 1 = .ok (.ifCond .le 12, 3) := by decide +kernel
theorem dX0_draw_4 : decode cX0_draw 4 = .ok (.aload_n 0, 1) := by decide +kernel
theorem dX0_draw_5 : decode cX0_draw 5 = .ok (.invokevirtual 28, 3) := by decide +kernel
theorem dX0_draw_8 : decode cX0_draw 8 = .ok (.iload_n 1, 1) := by decide +kernel
theorem dX0_draw_9 : decode cX0_draw 9 = .ok (.irem, 1) := by decide +kernel
theorem dX0_draw_10 : decode cX0_draw 10 = .ok (.iconst 1, 1) := by decide +kernel
theorem dX0_draw_11 : decode cX0_draw 11 = .ok (.iadd, 1) := by decide +kernel
theorem dX0_draw_12 : decode cX0_draw 12 = .ok (.ireturn, 1) := by decide +kernel
theorem dX0_draw_13 : decode cX0_draw 13 = .ok (.iload_n 1, 1) := by decide +kernel
theorem dX0_draw_14 : decode cX0_draw 14 = .ok (.ifCond .ne 11, 3) := by decide +kernel
theorem dX0_draw_17 : decode cX0_draw 17 = .ok (.aload_n 0, 1) := by decide +kernel
theorem dX0_draw_18 : decode cX0_draw 18 = .ok (.iconst 2, 1) := by decide +kernel
theorem dX0_draw_19 : decode cX0_draw 19 = .ok (.putfield 15, 3) := by decide +kernel
theorem dX0_draw_22 : decode cX0_draw 22 = .ok (.goto 41, 3) := by decide +kernel
theorem dX0_draw_25 : decode cX0_draw 25 = .ok (.iload_n 1, 1) := by decide +kernel
theorem dX0_draw_26 : decode cX0_draw 26 = .ok (.ineg, 1) := by decide +kernel
theorem dX0_draw_27 : decode cX0_draw 27 = .ok (.sipush 1000, 3) := by decide +kernel
theorem dX0_draw_30 : decode cX0_draw 30 = .ok (.if_icmp .ge 22, 3) := by decide +kernel
theorem dX0_draw_33 : decode cX0_draw 33 = .ok (.aload_n 0, 1) := by decide +kernel
theorem dX0_draw_34 : decode cX0_draw 34 = .ok (.iconst 1, 1) := by decide +kernel
theorem dX0_draw_35 : decode cX0_draw 35 = .ok (.putfield 15, 3) := by decide +kernel
theorem dX0_draw_38 : decode cX0_draw 38 = .ok (.aload_n 0, 1) := by decide +kernel
theorem dX0_draw_39 : decode cX0_draw 39 = .ok (.iload_n 1, 1) := by decide +kernel
theorem dX0_draw_40 : decode cX0_draw 40 = .ok (.ineg, 1) := by decide +kernel
theorem dX0_draw_41 : decode cX0_draw 41 = .ok (.putfield 32, 3) := by decide +kernel
theorem dX0_draw_44 : decode cX0_draw 44 = .ok (.aload_n 0, 1) := by decide +kernel
theorem dX0_draw_45 : decode cX0_draw 45 = .ok (.iconst 0, 1) := by decide +kernel
theorem dX0_draw_46 : decode cX0_draw 46 = .ok (.putfield 35, 3) := by decide +kernel
theorem dX0_draw_49 : decode cX0_draw 49 = .ok (.goto 14, 3) := by decide +kernel
theorem dX0_draw_52 : decode cX0_draw 52 = .ok (.aload_n 0, 1) := by decide +kernel
theorem dX0_draw_53 : decode cX0_draw 53 = .ok (.iconst 0, 1) := by decide +kernel
theorem dX0_draw_54 : decode cX0_draw 54 = .ok (.putfield 15, 3) := by decide +kernel
theorem dX0_draw_57 : decode cX0_draw 57 = .ok (.aload_n 0, 1) := by decide +kernel
theorem dX0_draw_58 : decode cX0_draw 58 = .ok (.iload_n 1, 1) := by decide +kernel
theorem dX0_draw_59 : decode cX0_draw 59 = .ok (.ineg, 1) := by decide +kernel
theorem dX0_draw_60 : decode cX0_draw 60 = .ok (.putfield 19, 3) := by decide +kernel
theorem dX0_draw_63 : decode cX0_draw 63 = .ok (.iconst 0, 1) := by decide +kernel
theorem dX0_draw_64 : decode cX0_draw 64 = .ok (.ireturn, 1) := by decide +kernel
theorem dX0_next_0 : decode cX0_next 0 = .ok (.aload_n 0, 1) := by decide +kernel
theorem dX0_next_1 : decode cX0_next 1 = .ok (.getfield 15, 3) := by decide +kernel
theorem dX0_next_4 : decode cX0_next 4 = .ok (.iconst 1, 1) := by decide +kernel
theorem dX0_next_5 : decode cX0_next 5 = .ok (.if_icmp .ne 8, 3) := by decide +kernel
theorem dX0_next_8 : decode cX0_next 8 = .ok (.aload_n 0, 1) := by decide +kernel
theorem dX0_next_9 : decode cX0_next 9 = .ok (.invokevirtual 38, 3) := by decide +kernel
theorem dX0_next_12 : decode cX0_next 12 = .ok (.ireturn, 1) := by decide +kernel
theorem dX0_next_13 : decode cX0_next 13 = .ok (.aload_n 0, 1) := by decide +kernel
theorem dX0_next_14 : decode cX0_next 14 = .ok (.getfield 15, 3) := by decide +kernel
theorem dX0_next_17 : decode cX0_next 17 = .ok (.iconst 2, 1) := by decide +kernel
theorem dX0_next_18 : decode cX0_next 18 = .ok (.if_icmp .ne 17, 3) := by decide +kernel
theorem dX0_next_21 : decode cX0_next 21 = .ok (.aload_n 0, 1) := by decide +kernel
theorem dX0_next_22 : decode cX0_next 22 = .ok (.getfield 22, 3) := by decide +kernel
theorem dX0_next_25 : decode cX0_next 25 = .ok (.ifCond .le 10, 3) := by decide +kernel
theorem dX0_next_28 : decode cX0_next 28 = .ok (.aload_n 0, 1) := by decide +kernel
theorem dX0_next_29 : decode cX0_next 29 = .ok (.invokevirtual 41, 3) := by decide +kernel
theorem dX0_next_32 : decode cX0_next 32 = .ok (.goto 7, 3) := by decide +kernel
theorem dX0_next_35 : decode cX0_next 35 = .ok (.aload_n 0, 1) := by decide +kernel
theorem dX0_next_36 : decode cX0_next 36 = .ok (.invokevirtual 44, 3) := by decide +kernel
theorem dX0_next_39 : decode cX0_next 39 = .ok (.ireturn, 1) := by decide +kernel
theorem dX0_nextOfCount_0 : decode cX0_nextOfCount 0 = .ok (.aload_n 0, 1) := by decide +kernel
theorem dX0_nextOfCount_1 : decode cX0_nextOfCount 1 = .ok (.getfield 35, 3) := by decide +kernel
theorem dX0_nextOfCount_4 : decode cX0_nextOfCount 4 = .ok (.istore_n 1, 1) := by decide +kernel
theorem dX0_nextOfCount_5 : decode cX0_nextOfCount 5 = .ok (.aload_n 0, 1) := by decide +kernel
theorem dX0_nextOfCount_6 : decode cX0_nextOfCount 6 = .ok (.iload_n 1, 1) := by decide +kernel
theorem dX0_nextOfCount_7 : decode cX0_nextOfCount 7 = .ok (.iconst 1, 1) := by decide +kernel
theorem dX0_nextOfCount_8 : decode cX0_nextOfCount 8 = .ok (.iadd, 1) := by decide +kernel
theorem dX0_nextOfCount_9 : decode cX0_nextOfCount 9 = .ok (.aload_n 0, 1) := by decide +kernel
theorem dX0_nextOfCount_10 : decode cX0_nextOfCount 10 = .ok (.getfield 32, 3) := by decide +kernel
theorem dX0_nextOfCount_13 : decode cX0_nextOfCount 13 = .ok (.if_icmp .ge 9, 3) := by decide +kernel
theorem dX0_nextOfCount_16 : decode cX0_nextOfCount 16 = .ok (.iload_n 1, 1) := by decide +kernel
theorem dX0_nextOfCount_17 : decode cX0_nextOfCount 17 = .ok (.iconst 1, 1) := by decide +kernel
theorem dX0_nextOfCount_18 : decode cX0_nextOfCount 18 = .ok (.iadd, 1) := by decide +kernel
theorem dX0_nextOfCount_19 : decode cX0_nextOfCount 19 = .ok (.goto 4, 3) := by decide +kernel
theorem dX0_nextOfCount_22 : decode cX0_nextOfCount 22 = .ok (.iconst 0, 1) := by decide +kernel
theorem dX0_nextOfCount_23 : decode cX0_nextOfCount 23 = .ok (.putfield 35, 3) := by decide +kernel
theorem dX0_nextOfCount_26 : decode cX0_nextOfCount 26 = .ok (.iload_n 1, 1) := by decide +kernel
theorem dX0_nextOfCount_27 : decode cX0_nextOfCount 27 = .ok (.ireturn, 1) := by decide +kernel
theorem dX0_nextOfTape_0 : decode cX0_nextOfTape 0 = .ok (.aload_n 0, 1) := by decide +kernel
theorem dX0_nextOfTape_1 : decode cX0_nextOfTape 1 = .ok (.getfield 9, 3) := by decide +kernel
theorem dX0_nextOfTape_4 : decode cX0_nextOfTape 4 = .ok (.aload_n 0, 1) := by decide +kernel
theorem dX0_nextOfTape_5 : decode cX0_nextOfTape 5 = .ok (.getfield 25, 3) := by decide +kernel
theorem dX0_nextOfTape_8 : decode cX0_nextOfTape 8 = .ok (.iaload, 1) := by decide +kernel
theorem dX0_nextOfTape_9 : decode cX0_nextOfTape 9 = .ok (.istore_n 1, 1) := by decide +kernel
theorem dX0_nextOfTape_10 : decode cX0_nextOfTape 10 = .ok (.aload_n 0, 1) := by decide +kernel
theorem dX0_nextOfTape_11 : decode cX0_nextOfTape 11 = .ok (.aload_n 0, 1) := by decide +kernel
theorem dX0_nextOfTape_12 : decode cX0_nextOfTape 12 = .ok (.getfield 25, 3) := by decide +kernel
theorem dX0_nextOfTape_15 : decode cX0_nextOfTape 15 = .ok (.iconst 1, 1) := by decide +kernel
theorem dX0_nextOfTape_16 : decode cX0_nextOfTape 16 = .ok (.iadd, 1) := by decide +kernel
theorem dX0_nextOfTape_17 : decode cX0_nextOfTape 17 = .ok (.bipush 50, 2) := by decide +kernel
theorem dX0_nextOfTape_19 : decode cX0_nextOfTape 19 = .ok (.irem, 1) := by decide +kernel
theorem dX0_nextOfTape_20 : decode cX0_nextOfTape 20 = .ok (.putfield 25, 3) := by decide +kernel
theorem dX0_nextOfTape_23 : decode cX0_nextOfTape 23 = .ok (.aload_n 0, 1) := by decide +kernel
theorem dX0_nextOfTape_24 : decode cX0_nextOfTape 24 = .ok (.dup, 1) := by decide +kernel
theorem dX0_nextOfTape_25 : decode cX0_nextOfTape 25 = .ok (.getfield 22, 3) := by decide +kernel
theorem dX0_nextOfTape_28 : decode cX0_nextOfTape 28 = .ok (.iconst 1, 1) := by decide +kernel
theorem dX0_nextOfTape_29 : decode cX0_nextOfTape 29 = .ok (.isub, 1) := by decide +kernel
theorem dX0_nextOfTape_30 : decode cX0_nextOfTape 30 = .ok (.putfield 22, 3) := by decide +kernel
theorem dX0_nextOfTape_33 : decode cX0_nextOfTape 33 = .ok (.iload_n 1, 1) := by decide +kernel
theorem dX0_nextOfTape_34 : decode cX0_nextOfTape 34 = .ok (.ireturn, 1) := by decide +kernel
theorem dX0_nextOfSeed_0 : decode cX0_nextOfSeed 0 = .ok (.aload_n 0, 1) := by decide +kernel
theorem dX0_nextOfSeed_1 : decode cX0_nextOfSeed 1 = .ok (.aload_n 0, 1) := by decide +kernel
theorem dX0_nextOfSeed_2 : decode cX0_nextOfSeed 2 = .ok (.getfield 19, 3) := by decide +kernel
theorem dX0_nextOfSeed_5 : decode cX0_nextOfSeed 5 = .ok (.ldc 47, 2) := by decide +kernel
theorem dX0_nextOfSeed_7 : decode cX0_nextOfSeed 7 = .ok (.imul, 1) := by decide +kernel
theorem dX0_nextOfSeed_8 : decode cX0_nextOfSeed 8 = .ok (.sipush 12345, 3) := by decide +kernel
theorem dX0_nextOfSeed_11 : decode cX0_nextOfSeed 11 = .ok (.iadd, 1) := by decide +kernel
theorem dX0_nextOfSeed_12 : decode cX0_nextOfSeed 12 = .ok (.ldc 48, 2) := by decide +kernel
theorem dX0_nextOfSeed_14 : decode cX0_nextOfSeed 14 = .ok (.iand, 1) := by decide +kernel
theorem dX0_nextOfSeed_15 : decode cX0_nextOfSeed 15 = .ok (.putfield 19, 3) := by decide +kernel
theorem dX0_nextOfSeed_18 : decode cX0_nextOfSeed 18 = .ok (.aload_n 0, 1) := by decide +kernel
theorem dX0_nextOfSeed_19 : decode cX0_nextOfSeed 19 = .ok (.getfield 19, 3) := by decide +kernel
theorem dX0_nextOfSeed_22 : decode cX0_nextOfSeed 22 = .ok (.bipush 16, 2) := by decide +kernel
theorem dX0_nextOfSeed_24 : decode cX0_nextOfSeed 24 = .ok (.iushr, 1) := by decide +kernel
theorem dX0_nextOfSeed_25 : decode cX0_nextOfSeed 25 = .ok (.ireturn, 1) := by decide +kernel
theorem dX1_init_0 : decode cX1_init 0 = .ok (.aload_n 0, 1) := by decide +kernel
theorem dX1_init_1 : decode cX1_init 1 = .ok (.invokespecial 3, 3) := by decide +kernel
theorem dX1_init_4 : decode cX1_init 4 = .ok (.aload_n 0, 1) := by decide +kernel
theorem dX1_init_5 : decode cX1_init 5 = .ok (.bipush 15, 2) := by decide +kernel
theorem dX1_init_7 : decode cX1_init 7 = .ok (.newarray .int, 2) := by decide +kernel
theorem dX1_init_9 : decode cX1_init 9 = .ok (.putfield 9, 3) := by decide +kernel
theorem dX1_init_12 : decode cX1_init 12 = .ok (.return_, 1) := by decide +kernel
theorem dX1_local_0 : decode cX1_local 0 = .ok (.aload_n 0, 1) := by decide +kernel
theorem dX1_local_1 : decode cX1_local 1 = .ok (.iload_n 1, 1) := by decide +kernel
theorem dX1_local_2 : decode cX1_local 2 = .ok (.invokevirtual 15, 3) := by decide +kernel
theorem dX1_local_5 : decode cX1_local 5 = .ok (.ifCond .eq 14, 3) := by decide +kernel
theorem dX1_local_8 : decode cX1_local 8 = .ok (.aload_n 0, 1) := by decide +kernel
theorem dX1_local_9 : decode cX1_local 9 = .ok (.getfield 9, 3) := by decide +kernel
theorem dX1_local_12 : decode cX1_local 12 = .ok (.iload_n 1, 1) := by decide +kernel
theorem dX1_local_13 : decode cX1_local 13 = .ok (.iconst 1, 1) := by decide +kernel
theorem dX1_local_14 : decode cX1_local 14 = .ok (.isub, 1) := by decide +kernel
theorem dX1_local_15 : decode cX1_local 15 = .ok (.iaload, 1) := by decide +kernel
theorem dX1_local_16 : decode cX1_local 16 = .ok (.goto 5, 3) := by decide +kernel
theorem dX1_local_19 : decode cX1_local 19 = .ok (.bipush (-17), 2) := by decide +kernel
theorem dX1_local_21 : decode cX1_local 21 = .ok (.ireturn, 1) := by decide +kernel
theorem dX1_setLocal_0 : decode cX1_setLocal 0 = .ok (.aload_n 0, 1) := by decide +kernel
theorem dX1_setLocal_1 : decode cX1_setLocal 1 = .ok (.iload_n 1, 1) := by decide +kernel
theorem dX1_setLocal_2 : decode cX1_setLocal 2 = .ok (.invokevirtual 15, 3) := by decide +kernel
theorem dX1_setLocal_5 : decode cX1_setLocal 5 = .ok (.ifCond .ne 6, 3) := by decide +kernel
theorem dX1_setLocal_8 : decode cX1_setLocal 8 = .ok (.bipush (-17), 2) := by decide +kernel
theorem dX1_setLocal_10 : decode cX1_setLocal 10 = .ok (.ireturn, 1) := by decide +kernel
theorem dX1_setLocal_11 : decode cX1_setLocal 11 = .ok (.aload_n 0, 1) := by decide +kernel
theorem dX1_setLocal_12 : decode cX1_setLocal 12 = .ok (.getfield 9, 3) := by decide +kernel
theorem dX1_setLocal_15 : decode cX1_setLocal 15 = .ok (.iload_n 1, 1) := by decide +kernel
theorem dX1_setLocal_16 : decode cX1_setLocal 16 = .ok (.iconst 1, 1) := by decide +kernel
theorem dX1_setLocal_17 : decode cX1_setLocal 17 = .ok (.isub, 1) := by decide +kernel
theorem dX1_setLocal_18 : decode cX1_setLocal 18 = .ok (.iload_n 2, 1) := by decide +kernel
theorem dX1_setLocal_19 : decode cX1_setLocal 19 = .ok (.iastore, 1) := by decide +kernel
theorem dX1_setLocal_20 : decode cX1_setLocal 20 = .ok (.iconst 1, 1) := by decide +kernel
theorem dX1_setLocal_21 : decode cX1_setLocal 21 = .ok (.ireturn, 1) := by decide +kernel
theorem dX1_hasLocal_0 : decode cX1_hasLocal 0 = .ok (.iload_n 1, 1) := by decide +kernel
theorem dX1_hasLocal_1 : decode cX1_hasLocal 1 = .ok (.iconst 1, 1) := by decide +kernel
theorem dX1_hasLocal_2 : decode cX1_hasLocal 2 = .ok (.if_icmp .lt 15, 3) := by decide +kernel
theorem dX1_hasLocal_5 : decode cX1_hasLocal 5 = .ok (.iload_n 1, 1) := by decide +kernel
theorem dX1_hasLocal_6 : decode cX1_hasLocal 6 = .ok (.aload_n 0, 1) := by decide +kernel
theorem dX1_hasLocal_7 : decode cX1_hasLocal 7 = .ok (.getfield 19, 3) := by decide +kernel
theorem dX1_hasLocal_10 : decode cX1_hasLocal 10 = .ok (.if_icmp .gt 7, 3) := by decide +kernel
theorem dX1_hasLocal_13 : decode cX1_hasLocal 13 = .ok (.iconst 1, 1) := by decide +kernel
theorem dX1_hasLocal_14 : decode cX1_hasLocal 14 = .ok (.goto 4, 3) := by decide +kernel
theorem dX1_hasLocal_17 : decode cX1_hasLocal 17 = .ok (.iconst 0, 1) := by decide +kernel
theorem dX1_hasLocal_18 : decode cX1_hasLocal 18 = .ok (.ireturn, 1) := by decide +kernel
theorem dX2_init_0 : decode cX2_init 0 = .ok (.aload_n 0, 1) := by decide +kernel
theorem dX2_init_1 : decode cX2_init 1 = .ok (.invokespecial 3, 3) := by decide +kernel
theorem dX2_init_4 : decode cX2_init 4 = .ok (.aload_n 0, 1) := by decide +kernel
theorem dX2_init_5 : decode cX2_init 5 = .ok (.bipush 12, 2) := by decide +kernel
theorem dX2_init_7 : decode cX2_init 7 = .ok (.anewarray 9, 3) := by decide +kernel
theorem dX2_init_10 : decode cX2_init 10 = .ok (.putfield 11, 3) := by decide +kernel
theorem dX2_init_13 : decode cX2_init 13 = .ok (.aload_n 0, 1) := by decide +kernel
theorem dX2_init_14 : decode cX2_init 14 = .ok (.bipush 100, 2) := by decide +kernel
theorem dX2_init_16 : decode cX2_init 16 = .ok (.newarray .int, 2) := by decide +kernel
theorem dX2_init_18 : decode cX2_init 18 = .ok (.putfield 17, 3) := by decide +kernel
theorem dX2_init_21 : decode cX2_init 21 = .ok (.iconst 0, 1) := by decide +kernel
theorem dX2_init_22 : decode cX2_init 22 = .ok (.istore_n 1, 1) := by decide +kernel
theorem dX2_init_23 : decode cX2_init 23 = .ok (.iload_n 1, 1) := by decide +kernel
theorem dX2_init_24 : decode cX2_init 24 = .ok (.bipush 12, 2) := by decide +kernel
theorem dX2_init_26 : decode cX2_init 26 = .ok (.if_icmp .ge 22, 3) := by decide +kernel
theorem dX2_init_29 : decode cX2_init 29 = .ok (.aload_n 0, 1) := by decide +kernel
theorem dX2_init_30 : decode cX2_init 30 = .ok (.getfield 11, 3) := by decide +kernel
theorem dX2_init_33 : decode cX2_init 33 = .ok (.iload_n 1, 1) := by decide +kernel
theorem dX2_init_34 : decode cX2_init 34 = .ok (.new 9, 3) := by decide +kernel
theorem dX2_init_37 : decode cX2_init 37 = .ok (.dup, 1) := by decide +kernel
theorem dX2_init_38 : decode cX2_init 38 = .ok (.invokespecial 21, 3) := by decide +kernel
theorem dX2_init_41 : decode cX2_init 41 = .ok (.aastore, 1) := by decide +kernel
theorem dX2_init_42 : decode cX2_init 42 = .ok (.iinc 1 1, 3) := by decide +kernel
theorem dX2_init_45 : decode cX2_init 45 = .ok (.goto (-22), 3) := by decide +kernel
theorem dX2_init_48 : decode cX2_init 48 = .ok (.return_, 1) := by decide +kernel
theorem dX2_begin_0 : decode cX2_begin 0 = .ok (.aload_n 0, 1) := by decide +kernel
theorem dX2_begin_1 : decode cX2_begin 1 = .ok (.iconst 0, 1) := by decide +kernel
theorem dX2_begin_2 : decode cX2_begin 2 = .ok (.putfield 22, 3) := by decide +kernel
theorem dX2_begin_5 : decode cX2_begin 5 = .ok (.aload_n 0, 1) := by decide +kernel
theorem dX2_begin_6 : decode cX2_begin 6 = .ok (.iconst 0, 1) := by decide +kernel
theorem dX2_begin_7 : decode cX2_begin 7 = .ok (.putfield 26, 3) := by decide +kernel
theorem dX2_begin_10 : decode cX2_begin 10 = .ok (.aload_n 0, 1) := by decide +kernel
theorem dX2_begin_11 : decode cX2_begin 11 = .ok (.iconst 0, 1) := by decide +kernel
theorem dX2_begin_12 : decode cX2_begin 12 = .ok (.putfield 29, 3) := by decide +kernel
theorem dX2_begin_15 : decode cX2_begin 15 = .ok (.return_, 1) := by decide +kernel
theorem dX2_top_0 : decode cX2_top 0 = .ok (.aload_n 0, 1) := by decide +kernel
theorem dX2_top_1 : decode cX2_top 1 = .ok (.getfield 11, 3) := by decide +kernel
theorem dX2_top_4 : decode cX2_top 4 = .ok (.aload_n 0, 1) := by decide +kernel
theorem dX2_top_5 : decode cX2_top 5 = .ok (.getfield 26, 3) := by decide +kernel
theorem dX2_top_8 : decode cX2_top 8 = .ok (.ifCond .le 12, 3) := by decide +kernel
theorem dX2_top_11 : decode cX2_top 11 = .ok (.aload_n 0, 1) := by decide +kernel
theorem dX2_top_12 : decode cX2_top 12 = .ok (.getfield 26, 3) := by decide +kernel
theorem dX2_top_15 : decode cX2_top 15 = .ok (.iconst 1, 1) := by decide +kernel
theorem dX2_top_16 : decode cX2_top 16 = .ok (.isub, 1) := by decide +kernel
theorem dX2_top_17 : decode cX2_top 17 = .ok (.goto 4, 3) := by decide +kernel
theorem dX2_top_20 : decode cX2_top 20 = .ok (.iconst 0, 1) := by decide +kernel
theorem dX2_top_21 : decode cX2_top 21 = .ok (.aaload, 1) := by decide +kernel
theorem dX2_top_22 : decode cX2_top 22 = .ok (.areturn, 1) := by decide +kernel
theorem dX2_enter_0 : decode cX2_enter 0 = .ok (.aload_n 0, 1) := by decide +kernel
theorem dX2_enter_1 : decode cX2_enter 1 = .ok (.getfield 26, 3) := by decide +kernel
theorem dX2_enter_4 : decode cX2_enter 4 = .ok (.bipush 12, 2) := by decide +kernel
theorem dX2_enter_6 : decode cX2_enter 6 = .ok (.if_icmp .lt 5, 3) := by decide +kernel
theorem dX2_enter_9 : decode cX2_enter 9 = .ok (.aconst_null, 1) := by decide +kernel
theorem dX2_enter_10 : decode cX2_enter 10 = .ok (.areturn, 1) := by decide +kernel
theorem dX2_enter_11 : decode cX2_enter 11 = .ok (.aload_n 0, 1) := by decide +kernel
theorem dX2_enter_12 : decode cX2_enter 12 = .ok (.getfield 11, 3) := by decide +kernel
theorem dX2_enter_15 : decode cX2_enter 15 = .ok (.aload_n 0, 1) := by decide +kernel
theorem dX2_enter_16 : decode cX2_enter 16 = .ok (.getfield 26, 3) := by decide +kernel
theorem dX2_enter_19 : decode cX2_enter 19 = .ok (.aaload, 1) := by decide +kernel
theorem dX2_enter_20 : decode cX2_enter 20 = .ok (.astore_n 1, 1) := by decide +kernel
theorem dX2_enter_21 : decode cX2_enter 21 = .ok (.aload_n 1, 1) := by decide +kernel
theorem dX2_enter_22 : decode cX2_enter 22 = .ok (.getfield 32, 3) := by decide +kernel
theorem dX2_enter_25 : decode cX2_enter 25 = .ok (.iconst 0, 1) := by decide +kernel
theorem dX2_enter_26 : decode cX2_enter 26 = .ok (.invokestatic 35, 3) := by decide +kernel
theorem dX2_enter_29 : decode cX2_enter 29 = .ok (.aload_n 1, 1) := by decide +kernel
theorem dX2_enter_30 : decode cX2_enter 30 = .ok (.aload_n 0, 1) := by decide +kernel
theorem dX2_enter_31 : decode cX2_enter 31 = .ok (.getfield 22, 3) := by decide +kernel
theorem dX2_enter_34 : decode cX2_enter 34 = .ok (.putfield 41, 3) := by decide +kernel
theorem dX2_enter_37 : decode cX2_enter 37 = .ok (.aload_n 0, 1) := by decide +kernel
theorem dX2_enter_38 : decode cX2_enter 38 = .ok (.dup, 1) := by decide +kernel
theorem dX2_enter_39 : decode cX2_enter 39 = .ok (.getfield 26, 3) := by decide +kernel
theorem dX2_enter_42 : decode cX2_enter 42 = .ok (.iconst 1, 1) := by decide +kernel
theorem dX2_enter_43 : decode cX2_enter 43 = .ok (.iadd, 1) := by decide +kernel
theorem dX2_enter_44 : decode cX2_enter 44 = .ok (.putfield 26, 3) := by decide +kernel
theorem dX2_enter_47 : decode cX2_enter 47 = .ok (.aload_n 0, 1) := by decide +kernel
theorem dX2_enter_48 : decode cX2_enter 48 = .ok (.aload_n 0, 1) := by decide +kernel
theorem dX2_enter_49 : decode cX2_enter 49 = .ok (.getfield 29, 3) := by decide +kernel
theorem dX2_enter_52 : decode cX2_enter 52 = .ok (.aload_n 0, 1) := by decide +kernel
theorem dX2_enter_53 : decode cX2_enter 53 = .ok (.getfield 26, 3) := by decide +kernel
theorem dX2_enter_56 : decode cX2_enter 56 = .ok (.invokestatic 44, 3) := by decide +kernel
theorem dX2_enter_59 : decode cX2_enter 59 = .ok (.putfield 29, 3) := by decide +kernel
theorem dX2_enter_62 : decode cX2_enter 62 = .ok (.aload_n 1, 1) := by decide +kernel
theorem dX2_enter_63 : decode cX2_enter 63 = .ok (.areturn, 1) := by decide +kernel
theorem dX2_leave_0 : decode cX2_leave 0 = .ok (.aload_n 0, 1) := by decide +kernel
theorem dX2_leave_1 : decode cX2_leave 1 = .ok (.getfield 26, 3) := by decide +kernel
theorem dX2_leave_4 : decode cX2_leave 4 = .ok (.ifCond .le 29, 3) := by decide +kernel
theorem dX2_leave_7 : decode cX2_leave 7 = .ok (.aload_n 0, 1) := by decide +kernel
theorem dX2_leave_8 : decode cX2_leave 8 = .ok (.dup, 1) := by decide +kernel
theorem dX2_leave_9 : decode cX2_leave 9 = .ok (.getfield 26, 3) := by decide +kernel
theorem dX2_leave_12 : decode cX2_leave 12 = .ok (.iconst 1, 1) := by decide +kernel
theorem dX2_leave_13 : decode cX2_leave 13 = .ok (.isub, 1) := by decide +kernel
theorem dX2_leave_14 : decode cX2_leave 14 = .ok (.putfield 26, 3) := by decide +kernel
theorem dX2_leave_17 : decode cX2_leave 17 = .ok (.aload_n 0, 1) := by decide +kernel
theorem dX2_leave_18 : decode cX2_leave 18 = .ok (.aload_n 0, 1) := by decide +kernel
theorem dX2_leave_19 : decode cX2_leave 19 = .ok (.getfield 11, 3) := by decide +kernel
theorem dX2_leave_22 : decode cX2_leave 22 = .ok (.aload_n 0, 1) := by decide +kernel
theorem dX2_leave_23 : decode cX2_leave 23 = .ok (.getfield 26, 3) := by decide +kernel
theorem dX2_leave_26 : decode cX2_leave 26 = .ok (.aaload, 1) := by decide +kernel
theorem dX2_leave_27 : decode cX2_leave 27 = .ok (.getfield 41, 3) := by decide +kernel
theorem dX2_leave_30 : decode cX2_leave 30 = .ok (.putfield 22, 3) := by decide +kernel
theorem dX2_leave_33 : decode cX2_leave 33 = .ok (.return_, 1) := by decide +kernel
theorem dX2_pop_0 : decode cX2_pop 0 = .ok (.aload_n 0, 1) := by decide +kernel
theorem dX2_pop_1 : decode cX2_pop 1 = .ok (.getfield 22, 3) := by decide +kernel
theorem dX2_pop_4 : decode cX2_pop 4 = .ok (.aload_n 0, 1) := by decide +kernel
theorem dX2_pop_5 : decode cX2_pop 5 = .ok (.invokevirtual 50, 3) := by decide +kernel
theorem dX2_pop_8 : decode cX2_pop 8 = .ok (.getfield 41, 3) := by decide +kernel
theorem dX2_pop_11 : decode cX2_pop 11 = .ok (.if_icmp .gt 6, 3) := by decide +kernel
theorem dX2_pop_14 : decode cX2_pop 14 = .ok (.bipush (-14), 2) := by decide +kernel
theorem dX2_pop_16 : decode cX2_pop 16 = .ok (.ireturn, 1) := by decide +kernel
theorem dX2_pop_17 : decode cX2_pop 17 = .ok (.aload_n 0, 1) := by decide +kernel
theorem dX2_pop_18 : decode cX2_pop 18 = .ok (.dup, 1) := by decide +kernel
theorem dX2_pop_19 : decode cX2_pop 19 = .ok (.getfield 22, 3) := by decide +kernel
theorem dX2_pop_22 : decode cX2_pop 22 = .ok (.iconst 1, 1) := by decide +kernel
theorem dX2_pop_23 : decode cX2_pop 23 = .ok (.isub, 1) := by decide +kernel
theorem dX2_pop_24 : decode cX2_pop 24 = .ok (.putfield 22, 3) := by decide +kernel
theorem dX2_pop_27 : decode cX2_pop 27 = .ok (.aload_n 0, 1) := by decide +kernel
theorem dX2_pop_28 : decode cX2_pop 28 = .ok (.getfield 17, 3) := by decide +kernel
theorem dX2_pop_31 : decode cX2_pop 31 = .ok (.aload_n 0, 1) := by decide +kernel
theorem dX2_pop_32 : decode cX2_pop 32 = .ok (.getfield 22, 3) := by decide +kernel
theorem dX2_pop_35 : decode cX2_pop 35 = .ok (.iaload, 1) := by decide +kernel
theorem dX2_pop_36 : decode cX2_pop 36 = .ok (.ireturn, 1) := by decide +kernel
theorem dX2_push_0 : decode cX2_push 0 = .ok (.aload_n 0, 1) := by decide +kernel
theorem dX2_push_1 : decode cX2_push 1 = .ok (.getfield 22, 3) := by decide +kernel
theorem dX2_push_4 : decode cX2_push 4 = .ok (.bipush 100, 2) := by decide +kernel
theorem dX2_push_6 : decode cX2_push 6 = .ok (.if_icmp .lt 6, 3) := by decide +kernel
theorem dX2_push_9 : decode cX2_push 9 = .ok (.bipush (-15), 2) := by decide +kernel
theorem dX2_push_11 : decode cX2_push 11 = .ok (.ireturn, 1) := by decide +kernel
theorem dX2_push_12 : decode cX2_push 12 = .ok (.aload_n 0, 1) := by decide +kernel
theorem dX2_push_13 : decode cX2_push 13 = .ok (.getfield 17, 3) := by decide +kernel
theorem dX2_push_16 : decode cX2_push 16 = .ok (.aload_n 0, 1) := by decide +kernel
theorem dX2_push_17 : decode cX2_push 17 = .ok (.getfield 22, 3) := by decide +kernel
theorem dX2_push_20 : decode cX2_push 20 = .ok (.iload_n 1, 1) := by decide +kernel
theorem dX2_push_21 : decode cX2_push 21 = .ok (.iastore, 1) := by decide +kernel
theorem dX2_push_22 : decode cX2_push 22 = .ok (.aload_n 0, 1) := by decide +kernel
theorem dX2_push_23 : decode cX2_push 23 = .ok (.dup, 1) := by decide +kernel
theorem dX2_push_24 : decode cX2_push 24 = .ok (.getfield 22, 3) := by decide +kernel
theorem dX2_push_27 : decode cX2_push 27 = .ok (.iconst 1, 1) := by decide +kernel
theorem dX2_push_28 : decode cX2_push 28 = .ok (.iadd, 1) := by decide +kernel
theorem dX2_push_29 : decode cX2_push 29 = .ok (.putfield 22, 3) := by decide +kernel
theorem dX2_push_32 : decode cX2_push 32 = .ok (.iconst 1, 1) := by decide +kernel
theorem dX2_push_33 : decode cX2_push 33 = .ok (.ireturn, 1) := by decide +kernel
theorem dX3_init_0 : decode cX3_init 0 = .ok (.aload_n 0, 1) := by decide +kernel
theorem dX3_init_1 : decode cX3_init 1 = .ok (.invokespecial 3, 3) := by decide +kernel
theorem dX3_init_4 : decode cX3_init 4 = .ok (.aload_n 0, 1) := by decide +kernel
theorem dX3_init_5 : decode cX3_init 5 = .ok (.sipush 2000, 3) := by decide +kernel
theorem dX3_init_8 : decode cX3_init 8 = .ok (.newarray .int, 2) := by decide +kernel
theorem dX3_init_10 : decode cX3_init 10 = .ok (.putfield 9, 3) := by decide +kernel
theorem dX3_init_13 : decode cX3_init 13 = .ok (.return_, 1) := by decide +kernel
theorem dX3_begin_0 : decode cX3_begin 0 = .ok (.aload_n 0, 1) := by decide +kernel
theorem dX3_begin_1 : decode cX3_begin 1 = .ok (.getfield 9, 3) := by decide +kernel
theorem dX3_begin_4 : decode cX3_begin 4 = .ok (.iconst 0, 1) := by decide +kernel
theorem dX3_begin_5 : decode cX3_begin 5 = .ok (.invokestatic 15, 3) := by decide +kernel
theorem dX3_begin_8 : decode cX3_begin 8 = .ok (.aload_n 0, 1) := by decide +kernel
theorem dX3_begin_9 : decode cX3_begin 9 = .ok (.iload_n 1, 1) := by decide +kernel
theorem dX3_begin_10 : decode cX3_begin 10 = .ok (.putfield 21, 3) := by decide +kernel
theorem dX3_begin_13 : decode cX3_begin 13 = .ok (.aload_n 0, 1) := by decide +kernel
theorem dX3_begin_14 : decode cX3_begin 14 = .ok (.iload_n 2, 1) := by decide +kernel
theorem dX3_begin_15 : decode cX3_begin 15 = .ok (.putfield 25, 3) := by decide +kernel
theorem dX3_begin_18 : decode cX3_begin 18 = .ok (.return_, 1) := by decide +kernel
theorem dX3_isOutside_0 : decode cX3_isOutside 0 = .ok (.iload_n 1, 1) := by decide +kernel
theorem dX3_isOutside_1 : decode cX3_isOutside 1 = .ok (.ifCond .lt 11, 3) := by decide +kernel
theorem dX3_isOutside_4 : decode cX3_isOutside 4 = .ok (.iload_n 1, 1) := by decide +kernel
theorem dX3_isOutside_5 : decode cX3_isOutside 5 = .ok (.aload_n 0, 1) := by decide +kernel
theorem dX3_isOutside_6 : decode cX3_isOutside 6 = .ok (.getfield 21, 3) := by decide +kernel
theorem dX3_isOutside_9 : decode cX3_isOutside 9 = .ok (.if_icmp .lt 7, 3) := by decide +kernel
theorem dX3_isOutside_12 : decode cX3_isOutside 12 = .ok (.iconst 1, 1) := by decide +kernel
theorem dX3_isOutside_13 : decode cX3_isOutside 13 = .ok (.goto 4, 3) := by decide +kernel
theorem dX3_isOutside_16 : decode cX3_isOutside 16 = .ok (.iconst 0, 1) := by decide +kernel
theorem dX3_isOutside_17 : decode cX3_isOutside 17 = .ok (.ireturn, 1) := by decide +kernel
theorem dX3_byteAt_0 : decode cX3_byteAt 0 = .ok (.aload_n 0, 1) := by decide +kernel
theorem dX3_byteAt_1 : decode cX3_byteAt 1 = .ok (.iload_n 1, 1) := by decide +kernel
theorem dX3_byteAt_2 : decode cX3_byteAt 2 = .ok (.invokevirtual 28, 3) := by decide +kernel
theorem dX3_byteAt_5 : decode cX3_byteAt 5 = .ok (.ifCond .eq 8, 3) := by decide +kernel
theorem dX3_byteAt_8 : decode cX3_byteAt 8 = .ok (.bipush (-12), 2) := by decide +kernel
theorem dX3_byteAt_10 : decode cX3_byteAt 10 = .ok (.goto 9, 3) := by decide +kernel
theorem dX3_byteAt_13 : decode cX3_byteAt 13 = .ok (.aload_n 0, 1) := by decide +kernel
theorem dX3_byteAt_14 : decode cX3_byteAt 14 = .ok (.getfield 9, 3) := by decide +kernel
theorem dX3_byteAt_17 : decode cX3_byteAt 17 = .ok (.iload_n 1, 1) := by decide +kernel
theorem dX3_byteAt_18 : decode cX3_byteAt 18 = .ok (.iaload, 1) := by decide +kernel
theorem dX3_byteAt_19 : decode cX3_byteAt 19 = .ok (.ireturn, 1) := by decide +kernel
theorem dX3_wordAt_0 : decode cX3_wordAt 0 = .ok (.aload_n 0, 1) := by decide +kernel
theorem dX3_wordAt_1 : decode cX3_wordAt 1 = .ok (.iload_n 1, 1) := by decide +kernel
theorem dX3_wordAt_2 : decode cX3_wordAt 2 = .ok (.invokevirtual 28, 3) := by decide +kernel
theorem dX3_wordAt_5 : decode cX3_wordAt 5 = .ok (.ifCond .ne 13, 3) := by decide +kernel
theorem dX3_wordAt_8 : decode cX3_wordAt 8 = .ok (.aload_n 0, 1) := by decide +kernel
theorem dX3_wordAt_9 : decode cX3_wordAt 9 = .ok (.iload_n 1, 1) := by decide +kernel
theorem dX3_wordAt_10 : decode cX3_wordAt 10 = .ok (.iconst 1, 1) := by decide +kernel
theorem dX3_wordAt_11 : decode cX3_wordAt 11 = .ok (.iadd, 1) := by decide +kernel
theorem dX3_wordAt_12 : decode cX3_wordAt 12 = .ok (.invokevirtual 28, 3) := by decide +kernel
theorem dX3_wordAt_15 : decode cX3_wordAt 15 = .ok (.ifCond .eq 6, 3) := by decide +kernel
theorem dX3_wordAt_18 : decode cX3_wordAt 18 = .ok (.bipush (-12), 2) := by decide +kernel
theorem dX3_wordAt_20 : decode cX3_wordAt 20 = .ok (.ireturn, 1) := by decide +kernel
theorem dX3_wordAt_21 : decode cX3_wordAt 21 = .ok (.aload_n 0, 1) := by decide +kernel
theorem dX3_wordAt_22 : decode cX3_wordAt 22 = .ok (.getfield 9, 3) := by decide +kernel
theorem dX3_wordAt_25 : decode cX3_wordAt 25 = .ok (.iload_n 1, 1) := by decide +kernel
theorem dX3_wordAt_26 : decode cX3_wordAt 26 = .ok (.iaload, 1) := by decide +kernel
theorem dX3_wordAt_27 : decode cX3_wordAt 27 = .ok (.bipush 8, 2) := by decide +kernel
theorem dX3_wordAt_29 : decode cX3_wordAt 29 = .ok (.ishl, 1) := by decide +kernel
theorem dX3_wordAt_30 : decode cX3_wordAt 30 = .ok (.aload_n 0, 1) := by decide +kernel
theorem dX3_wordAt_31 : decode cX3_wordAt 31 = .ok (.getfield 9, 3) := by decide +kernel
theorem dX3_wordAt_34 : decode cX3_wordAt 34 = .ok (.iload_n 1, 1) := by decide +kernel
theorem dX3_wordAt_35 : decode cX3_wordAt 35 = .ok (.iconst 1, 1) := by decide +kernel
theorem dX3_wordAt_36 : decode cX3_wordAt 36 = .ok (.iadd, 1) := by decide +kernel
theorem dX3_wordAt_37 : decode cX3_wordAt 37 = .ok (.iaload, 1) := by decide +kernel
theorem dX3_wordAt_38 : decode cX3_wordAt 38 = .ok (.ior, 1) := by decide +kernel
theorem dX3_wordAt_39 : decode cX3_wordAt 39 = .ok (.ireturn, 1) := by decide +kernel
theorem dX3_setByte_0 : decode cX3_setByte 0 = .ok (.aload_n 0, 1) := by decide +kernel
theorem dX3_setByte_1 : decode cX3_setByte 1 = .ok (.iload_n 1, 1) := by decide +kernel
theorem dX3_setByte_2 : decode cX3_setByte 2 = .ok (.invokevirtual 28, 3) := by decide +kernel
theorem dX3_setByte_5 : decode cX3_setByte 5 = .ok (.ifCond .eq 6, 3) := by decide +kernel
theorem dX3_setByte_8 : decode cX3_setByte 8 = .ok (.bipush (-12), 2) := by decide +kernel
theorem dX3_setByte_10 : decode cX3_setByte 10 = .ok (.ireturn, 1) := by decide +kernel
theorem dX3_setByte_11 : decode cX3_setByte 11 = .ok (.iload_n 3, 1) := by decide +kernel
theorem dX3_setByte_12 : decode cX3_setByte 12 = .ok (.ifCond .ne 14, 3) := by decide +kernel
theorem dX3_setByte_15 : decode cX3_setByte 15 = .ok (.iload_n 1, 1) := by decide +kernel
theorem dX3_setByte_16 : decode cX3_setByte 16 = .ok (.aload_n 0, 1) := by decide +kernel
theorem dX3_setByte_17 : decode cX3_setByte 17 = .ok (.getfield 25, 3) := by decide +kernel
theorem dX3_setByte_20 : decode cX3_setByte 20 = .ok (.if_icmp .lt 6, 3) := by decide +kernel
theorem dX3_setByte_23 : decode cX3_setByte 23 = .ok (.bipush (-13), 2) := by decide +kernel
theorem dX3_setByte_25 : decode cX3_setByte 25 = .ok (.ireturn, 1) := by decide +kernel
theorem dX3_setByte_26 : decode cX3_setByte 26 = .ok (.aload_n 0, 1) := by decide +kernel
theorem dX3_setByte_27 : decode cX3_setByte 27 = .ok (.getfield 9, 3) := by decide +kernel
theorem dX3_setByte_30 : decode cX3_setByte 30 = .ok (.iload_n 1, 1) := by decide +kernel
theorem dX3_setByte_31 : decode cX3_setByte 31 = .ok (.iload_n 2, 1) := by decide +kernel
theorem dX3_setByte_32 : decode cX3_setByte 32 = .ok (.sipush 255, 3) := by decide +kernel
theorem dX3_setByte_35 : decode cX3_setByte 35 = .ok (.iand, 1) := by decide +kernel
theorem dX3_setByte_36 : decode cX3_setByte 36 = .ok (.iastore, 1) := by decide +kernel
theorem dX3_setByte_37 : decode cX3_setByte 37 = .ok (.iconst 1, 1) := by decide +kernel
theorem dX3_setByte_38 : decode cX3_setByte 38 = .ok (.ireturn, 1) := by decide +kernel
theorem dX3_setWord_0 : decode cX3_setWord 0 = .ok (.aload_n 0, 1) := by decide +kernel
theorem dX3_setWord_1 : decode cX3_setWord 1 = .ok (.iload_n 1, 1) := by decide +kernel
theorem dX3_setWord_2 : decode cX3_setWord 2 = .ok (.invokevirtual 28, 3) := by decide +kernel
theorem dX3_setWord_5 : decode cX3_setWord 5 = .ok (.ifCond .ne 13, 3) := by decide +kernel
theorem dX3_setWord_8 : decode cX3_setWord 8 = .ok (.aload_n 0, 1) := by decide +kernel
theorem dX3_setWord_9 : decode cX3_setWord 9 = .ok (.iload_n 1, 1) := by decide +kernel
theorem dX3_setWord_10 : decode cX3_setWord 10 = .ok (.iconst 1, 1) := by decide +kernel
theorem dX3_setWord_11 : decode cX3_setWord 11 = .ok (.iadd, 1) := by decide +kernel
theorem dX3_setWord_12 : decode cX3_setWord 12 = .ok (.invokevirtual 28, 3) := by decide +kernel
theorem dX3_setWord_15 : decode cX3_setWord 15 = .ok (.ifCond .eq 6, 3) := by decide +kernel
theorem dX3_setWord_18 : decode cX3_setWord 18 = .ok (.bipush (-12), 2) := by decide +kernel
theorem dX3_setWord_20 : decode cX3_setWord 20 = .ok (.ireturn, 1) := by decide +kernel
theorem dX3_setWord_21 : decode cX3_setWord 21 = .ok (.iload_n 3, 1) := by decide +kernel
theorem dX3_setWord_22 : decode cX3_setWord 22 = .ok (.ifCond .ne 16, 3) := by decide +kernel
theorem dX3_setWord_25 : decode cX3_setWord 25 = .ok (.iload_n 1, 1) := by decide +kernel
theorem dX3_setWord_26 : decode cX3_setWord 26 = .ok (.iconst 1, 1) := by decide +kernel
theorem dX3_setWord_27 : decode cX3_setWord 27 = .ok (.iadd, 1) := by decide +kernel
theorem dX3_setWord_28 : decode cX3_setWord 28 = .ok (.aload_n 0, 1) := by decide +kernel
theorem dX3_setWord_29 : decode cX3_setWord 29 = .ok (.getfield 25, 3) := by decide +kernel
theorem dX3_setWord_32 : decode cX3_setWord 32 = .ok (.if_icmp .lt 6, 3) := by decide +kernel
theorem dX3_setWord_35 : decode cX3_setWord 35 = .ok (.bipush (-13), 2) := by decide +kernel
theorem dX3_setWord_37 : decode cX3_setWord 37 = .ok (.ireturn, 1) := by decide +kernel
theorem dX3_setWord_38 : decode cX3_setWord 38 = .ok (.aload_n 0, 1) := by decide +kernel
theorem dX3_setWord_39 : decode cX3_setWord 39 = .ok (.getfield 9, 3) := by decide +kernel
theorem dX3_setWord_42 : decode cX3_setWord 42 = .ok (.iload_n 1, 1) := by decide +kernel
theorem dX3_setWord_43 : decode cX3_setWord 43 = .ok (.iload_n 2, 1) := by decide +kernel
theorem dX3_setWord_44 : decode cX3_setWord 44 = .ok (.bipush 8, 2) := by decide +kernel
theorem dX3_setWord_46 : decode cX3_setWord 46 = .ok (.ishr, 1) := by decide +kernel
theorem dX3_setWord_47 : decode cX3_setWord 47 = .ok (.sipush 255, 3) := by decide +kernel
theorem dX3_setWord_50 : decode cX3_setWord 50 = .ok (.iand, 1) := by decide +kernel
theorem dX3_setWord_51 : decode cX3_setWord 51 = .ok (.iastore, 1) := by decide +kernel
theorem dX3_setWord_52 : decode cX3_setWord 52 = .ok (.aload_n 0, 1) := by decide +kernel
theorem dX3_setWord_53 : decode cX3_setWord 53 = .ok (.getfield 9, 3) := by decide +kernel
theorem dX3_setWord_56 : decode cX3_setWord 56 = .ok (.iload_n 1, 1) := by decide +kernel
theorem dX3_setWord_57 : decode cX3_setWord 57 = .ok (.iconst 1, 1) := by decide +kernel
theorem dX3_setWord_58 : decode cX3_setWord 58 = .ok (.iadd, 1) := by decide +kernel
theorem dX3_setWord_59 : decode cX3_setWord 59 = .ok (.iload_n 2, 1) := by decide +kernel
theorem dX3_setWord_60 : decode cX3_setWord 60 = .ok (.sipush 255, 3) := by decide +kernel
theorem dX3_setWord_63 : decode cX3_setWord 63 = .ok (.iand, 1) := by decide +kernel
theorem dX3_setWord_64 : decode cX3_setWord 64 = .ok (.iastore, 1) := by decide +kernel
theorem dX3_setWord_65 : decode cX3_setWord 65 = .ok (.iconst 1, 1) := by decide +kernel
theorem dX3_setWord_66 : decode cX3_setWord 66 = .ok (.ireturn, 1) := by decide +kernel
theorem dX3_copyTable_0 : decode cX3_copyTable 0 = .ok (.iload_n 3, 1) := by decide +kernel
theorem dX3_copyTable_1 : decode cX3_copyTable 1 = .ok (.ifCond .ne 5, 3) := by decide +kernel
theorem dX3_copyTable_4 : decode cX3_copyTable 4 = .ok (.iconst 1, 1) := by decide +kernel
theorem dX3_copyTable_5 : decode cX3_copyTable 5 = .ok (.ireturn, 1) := by decide +kernel
theorem dX3_copyTable_6 : decode cX3_copyTable 6 = .ok (.iload_n 2, 1) := by decide +kernel
theorem dX3_copyTable_7 : decode cX3_copyTable 7 = .ok (.ifCond .ne 13, 3) := by decide +kernel
theorem dX3_copyTable_10 : decode cX3_copyTable 10 = .ok (.aload_n 0, 1) := by decide +kernel
theorem dX3_copyTable_11 : decode cX3_copyTable 11 = .ok (.iload_n 1, 1) := by decide +kernel
theorem dX3_copyTable_12 : decode cX3_copyTable 12 = .ok (.iload_n 3, 1) := by decide +kernel
theorem dX3_copyTable_13 : decode cX3_copyTable 13 = .ok (.invokestatic 32, 3) := by decide +kernel
theorem dX3_copyTable_16 : decode cX3_copyTable 16 = .ok (.invokevirtual 38, 3) := by decide +kernel
theorem dX3_copyTable_19 : decode cX3_copyTable 19 = .ok (.ireturn, 1) := by decide +kernel
theorem dX3_copyTable_20 : decode cX3_copyTable 20 = .ok (.iload_n 3, 1) := by decide +kernel
theorem dX3_copyTable_21 : decode cX3_copyTable 21 = .ok (.ifCond .le 13, 3) := by decide +kernel
theorem dX3_copyTable_24 : decode cX3_copyTable 24 = .ok (.aload_n 0, 1) := by decide +kernel
theorem dX3_copyTable_25 : decode cX3_copyTable 25 = .ok (.iload_n 1, 1) := by decide +kernel
theorem dX3_copyTable_26 : decode cX3_copyTable 26 = .ok (.iload_n 2, 1) := by decide +kernel
theorem dX3_copyTable_27 : decode cX3_copyTable 27 = .ok (.iload_n 3, 1) := by decide +kernel
theorem dX3_copyTable_28 : decode cX3_copyTable 28 = .ok (.invokevirtual 42, 3) := by decide +kernel
theorem dX3_copyTable_31 : decode cX3_copyTable 31 = .ok (.goto 11, 3) := by decide +kernel
theorem dX3_copyTable_34 : decode cX3_copyTable 34 = .ok (.aload_n 0, 1) := by decide +kernel
theorem dX3_copyTable_35 : decode cX3_copyTable 35 = .ok (.iload_n 1, 1) := by decide +kernel
theorem dX3_copyTable_36 : decode cX3_copyTable 36 = .ok (.iload_n 2, 1) := by decide +kernel
theorem dX3_copyTable_37 : decode cX3_copyTable 37 = .ok (.iload_n 3, 1) := by decide +kernel
theorem dX3_copyTable_38 : decode cX3_copyTable 38 = .ok (.ineg, 1) := by decide +kernel
theorem dX3_copyTable_39 : decode cX3_copyTable 39 = .ok (.invokevirtual 46, 3) := by decide +kernel
theorem dX3_copyTable_42 : decode cX3_copyTable 42 = .ok (.ireturn, 1) := by decide +kernel
theorem dX3_wipe_0 : decode cX3_wipe 0 = .ok (.aload_n 0, 1) := by decide +kernel
theorem dX3_wipe_1 : decode cX3_wipe 1 = .ok (.iload_n 1, 1) := by decide +kernel
theorem dX3_wipe_2 : decode cX3_wipe 2 = .ok (.invokevirtual 28, 3) := by decide +kernel
theorem dX3_wipe_5 : decode cX3_wipe 5 = .ok (.ifCond .ne 15, 3) := by decide +kernel
theorem dX3_wipe_8 : decode cX3_wipe 8 = .ok (.aload_n 0, 1) := by decide +kernel
theorem dX3_wipe_9 : decode cX3_wipe 9 = .ok (.iload_n 1, 1) := by decide +kernel
theorem dX3_wipe_10 : decode cX3_wipe 10 = .ok (.iload_n 2, 1) := by decide +kernel
theorem dX3_wipe_11 : decode cX3_wipe 11 = .ok (.iadd, 1) := by decide +kernel
theorem dX3_wipe_12 : decode cX3_wipe 12 = .ok (.iconst 1, 1) := by decide +kernel
theorem dX3_wipe_13 : decode cX3_wipe 13 = .ok (.isub, 1) := by decide +kernel
theorem dX3_wipe_14 : decode cX3_wipe 14 = .ok (.invokevirtual 28, 3) := by decide +kernel
theorem dX3_wipe_17 : decode cX3_wipe 17 = .ok (.ifCond .eq 6, 3) := by decide +kernel
theorem dX3_wipe_20 : decode cX3_wipe 20 = .ok (.bipush (-12), 2) := by decide +kernel
theorem dX3_wipe_22 : decode cX3_wipe 22 = .ok (.ireturn, 1) := by decide +kernel
theorem dX3_wipe_23 : decode cX3_wipe 23 = .ok (.iload_n 1, 1) := by decide +kernel
theorem dX3_wipe_24 : decode cX3_wipe 24 = .ok (.iload_n 2, 1) := by decide +kernel
theorem dX3_wipe_25 : decode cX3_wipe 25 = .ok (.iadd, 1) := by decide +kernel
theorem dX3_wipe_26 : decode cX3_wipe 26 = .ok (.aload_n 0, 1) := by decide +kernel
theorem dX3_wipe_27 : decode cX3_wipe 27 = .ok (.getfield 25, 3) := by decide +kernel
theorem dX3_wipe_30 : decode cX3_wipe 30 = .ok (.if_icmp .le 6, 3) := by decide +kernel
theorem dX3_wipe_33 : decode cX3_wipe 33 = .ok (.bipush (-13), 2) := by decide +kernel
theorem dX3_wipe_35 : decode cX3_wipe 35 = .ok (.ireturn, 1) := by decide +kernel
theorem dX3_wipe_36 : decode cX3_wipe 36 = .ok (.iconst 0, 1) := by decide +kernel
theorem dX3_wipe_37 : decode cX3_wipe 37 = .ok (.istore_n 3, 1) := by decide +kernel
theorem dX3_wipe_38 : decode cX3_wipe 38 = .ok (.iload_n 3, 1) := by decide +kernel
theorem dX3_wipe_39 : decode cX3_wipe 39 = .ok (.iload_n 2, 1) := by decide +kernel
theorem dX3_wipe_40 : decode cX3_wipe 40 = .ok (.if_icmp .ge 18, 3) := by decide +kernel
theorem dX3_wipe_43 : decode cX3_wipe 43 = .ok (.aload_n 0, 1) := by decide +kernel
theorem dX3_wipe_44 : decode cX3_wipe 44 = .ok (.getfield 9, 3) := by decide +kernel
theorem dX3_wipe_47 : decode cX3_wipe 47 = .ok (.iload_n 1, 1) := by decide +kernel
theorem dX3_wipe_48 : decode cX3_wipe 48 = .ok (.iload_n 3, 1) := by decide +kernel
theorem dX3_wipe_49 : decode cX3_wipe 49 = .ok (.iadd, 1) := by decide +kernel
theorem dX3_wipe_50 : decode cX3_wipe 50 = .ok (.iconst 0, 1) := by decide +kernel
theorem dX3_wipe_51 : decode cX3_wipe 51 = .ok (.iastore, 1) := by decide +kernel
theorem dX3_wipe_52 : decode cX3_wipe 52 = .ok (.iinc 3 1, 3) := by decide +kernel
theorem dX3_wipe_55 : decode cX3_wipe 55 = .ok (.goto (-17), 3) := by decide +kernel
theorem dX3_wipe_58 : decode cX3_wipe 58 = .ok (.iconst 1, 1) := by decide +kernel
theorem dX3_wipe_59 : decode cX3_wipe 59 = .ok (.ireturn, 1) := by decide +kernel
theorem dX3_copyAtOnce_0 : decode cX3_copyAtOnce 0 = .ok (.aload_n 0, 1) := by decide +kernel
theorem dX3_copyAtOnce_1 : decode cX3_copyAtOnce 1 = .ok (.iload_n 1, 1) := by decide +kernel
theorem dX3_copyAtOnce_2 : decode cX3_copyAtOnce 2 = .ok (.invokevirtual 28, 3) := by decide +kernel
theorem dX3_copyAtOnce_5 : decode cX3_copyAtOnce 5 = .ok (.ifCond .ne 35, 3) := by decide +kernel
theorem dX3_copyAtOnce_8 : decode cX3_copyAtOnce 8 = .ok (.aload_n 0, 1) := by decide +kernel
theorem dX3_copyAtOnce_9 : decode cX3_copyAtOnce 9 = .ok (.iload_n 1, 1) := by decide +kernel
theorem dX3_copyAtOnce_10 : decode cX3_copyAtOnce 10 = .ok (.iload_n 3, 1) := by decide +kernel
theorem dX3_copyAtOnce_11 : decode cX3_copyAtOnce 11 = .ok (.iadd, 1) := by decide +kernel
theorem dX3_copyAtOnce_12 : decode cX3_copyAtOnce 12 = .ok (.iconst 1, 1) := by decide +kernel
theorem dX3_copyAtOnce_13 : decode cX3_copyAtOnce 13 = .ok (.isub, 1) := by decide +kernel
theorem dX3_copyAtOnce_14 : decode cX3_copyAtOnce 14 = .ok (.invokevirtual 28, 3) := by decide +kernel
theorem dX3_copyAtOnce_17 : decode cX3_copyAtOnce 17 = .ok (.ifCond .ne 23, 3) := by decide +kernel
theorem dX3_copyAtOnce_20 : decode cX3_copyAtOnce 20 = .ok (.aload_n 0, 1) := by decide +kernel
theorem dX3_copyAtOnce_21 : decode cX3_copyAtOnce 21 = .ok (.iload_n 2, 1) := by decide +kernel
theorem dX3_copyAtOnce_22 : decode cX3_copyAtOnce 22 = .ok (.invokevirtual 28, 3) := by decide +kernel
theorem dX3_copyAtOnce_25 : decode cX3_copyAtOnce 25 = .ok (.ifCond .ne 15, 3) := by decide +kernel
theorem dX3_copyAtOnce_28 : decode cX3_copyAtOnce 28 = .ok (.aload_n 0, 1) := by decide +kernel
theorem dX3_copyAtOnce_29 : decode cX3_copyAtOnce 29 = .ok (.iload_n 2, 1) := by decide +kernel
theorem dX3_copyAtOnce_30 : decode cX3_copyAtOnce 30 = .ok (.iload_n 3, 1) := by decide +kernel
theorem dX3_copyAtOnce_31 : decode cX3_copyAtOnce 31 = .ok (.iadd, 1) := by decide +kernel
theorem dX3_copyAtOnce_32 : decode cX3_copyAtOnce 32 = .ok (.iconst 1, 1) := by decide +kernel
theorem dX3_copyAtOnce_33 : decode cX3_copyAtOnce 33 = .ok (.isub, 1) := by decide +kernel
theorem dX3_copyAtOnce_34 : decode cX3_copyAtOnce 34 = .ok (.invokevirtual 28, 3) := by decide +kernel
theorem dX3_copyAtOnce_37 : decode cX3_copyAtOnce 37 = .ok (.ifCond .eq 6, 3) := by decide +kernel
theorem dX3_copyAtOnce_40 : decode cX3_copyAtOnce 40 = .ok (.bipush (-12), 2) := by decide +kernel
theorem dX3_copyAtOnce_42 : decode cX3_copyAtOnce 42 = .ok (.ireturn, 1) := by decide +kernel
theorem dX3_copyAtOnce_43 : decode cX3_copyAtOnce 43 = .ok (.iload_n 2, 1) := by decide +kernel
theorem dX3_copyAtOnce_44 : decode cX3_copyAtOnce 44 = .ok (.iload_n 3, 1) := by decide +kernel
theorem dX3_copyAtOnce_45 : decode cX3_copyAtOnce 45 = .ok (.iadd, 1) := by decide +kernel
theorem dX3_copyAtOnce_46 : decode cX3_copyAtOnce 46 = .ok (.aload_n 0, 1) := by decide +kernel
theorem dX3_copyAtOnce_47 : decode cX3_copyAtOnce 47 = .ok (.getfield 25, 3) := by decide +kernel
theorem dX3_copyAtOnce_50 : decode cX3_copyAtOnce 50 = .ok (.if_icmp .le 6, 3) := by decide +kernel
theorem dX3_copyAtOnce_53 : decode cX3_copyAtOnce 53 = .ok (.bipush (-13), 2) := by decide +kernel
theorem dX3_copyAtOnce_55 : decode cX3_copyAtOnce 55 = .ok (.ireturn, 1) := by decide +kernel
theorem dX3_copyAtOnce_56 : decode cX3_copyAtOnce 56 = .ok (.aload_n 0, 1) := by decide +kernel
theorem dX3_copyAtOnce_57 : decode cX3_copyAtOnce 57 = .ok (.getfield 9, 3) := by decide +kernel
theorem dX3_copyAtOnce_60 : decode cX3_copyAtOnce 60 = .ok (.iload_n 1, 1) := by decide +kernel
theorem dX3_copyAtOnce_61 : decode cX3_copyAtOnce 61 = .ok (.aload_n 0, 1) := by decide +kernel
theorem dX3_copyAtOnce_62 : decode cX3_copyAtOnce 62 = .ok (.getfield 9, 3) := by decide +kernel
theorem dX3_copyAtOnce_65 : decode cX3_copyAtOnce 65 = .ok (.iload_n 2, 1) := by decide +kernel
theorem dX3_copyAtOnce_66 : decode cX3_copyAtOnce 66 = .ok (.iload_n 3, 1) := by decide +kernel
theorem dX3_copyAtOnce_67 : decode cX3_copyAtOnce 67 = .ok (.invokestatic 49, 3) := by decide +kernel
theorem dX3_copyAtOnce_70 : decode cX3_copyAtOnce 70 = .ok (.iconst 1, 1) := by decide +kernel
theorem dX3_copyAtOnce_71 : decode cX3_copyAtOnce 71 = .ok (.ireturn, 1) := by decide +kernel
theorem dX3_copyInTurn_0 : decode cX3_copyInTurn 0 = .ok (.iconst 0, 1) := by decide +kernel
theorem dX3_copyInTurn_1 : decode cX3_copyInTurn 1 = .ok (.istore 4, 2) := by decide +kernel
theorem dX3_copyInTurn_3 : decode cX3_copyInTurn 3 = .ok (.iload 4, 2) := by decide +kernel
theorem dX3_copyInTurn_5 : decode cX3_copyInTurn 5 = .ok (.iload_n 3, 1) := by decide +kernel
theorem dX3_copyInTurn_6 : decode cX3_copyInTurn 6 = .ok (.if_icmp .ge 48, 3) := by decide +kernel
theorem dX3_copyInTurn_9 : decode cX3_copyInTurn 9 = .ok (.aload_n 0, 1) := by decide +kernel
theorem dX3_copyInTurn_10 : decode cX3_copyInTurn 10 = .ok (.iload_n 1, 1) := by decide +kernel
theorem dX3_copyInTurn_11 : decode cX3_copyInTurn 11 = .ok (.iload 4, 2) := by decide +kernel
theorem dX3_copyInTurn_13 : decode cX3_copyInTurn 13 = .ok (.iadd, 1) := by decide +kernel
theorem dX3_copyInTurn_14 : decode cX3_copyInTurn 14 = .ok (.invokevirtual 55, 3) := by decide +kernel
theorem dX3_copyInTurn_17 : decode cX3_copyInTurn 17 = .ok (.istore 5, 2) := by decide +kernel
theorem dX3_copyInTurn_19 : decode cX3_copyInTurn 19 = .ok (.iload 5, 2) := by decide +kernel
theorem dX3_copyInTurn_21 : decode cX3_copyInTurn 21 = .ok (.ifCond .ge 6, 3) := by decide +kernel
theorem dX3_copyInTurn_24 : decode cX3_copyInTurn 24 = .ok (.iload 5, 2) := by decide +kernel
theorem dX3_copyInTurn_26 : decode cX3_copyInTurn 26 = .ok (.ireturn, 1) := by decide +kernel
theorem dX3_copyInTurn_27 : decode cX3_copyInTurn 27 = .ok (.aload_n 0, 1) := by decide +kernel
theorem dX3_copyInTurn_28 : decode cX3_copyInTurn 28 = .ok (.iload_n 2, 1) := by decide +kernel
theorem dX3_copyInTurn_29 : decode cX3_copyInTurn 29 = .ok (.iload 4, 2) := by decide +kernel
theorem dX3_copyInTurn_31 : decode cX3_copyInTurn 31 = .ok (.iadd, 1) := by decide +kernel
theorem dX3_copyInTurn_32 : decode cX3_copyInTurn 32 = .ok (.iload 5, 2) := by decide +kernel
theorem dX3_copyInTurn_34 : decode cX3_copyInTurn 34 = .ok (.iconst 0, 1) := by decide +kernel
theorem dX3_copyInTurn_35 : decode cX3_copyInTurn 35 = .ok (.invokevirtual 58, 3) := by decide +kernel
theorem dX3_copyInTurn_38 : decode cX3_copyInTurn 38 = .ok (.istore 6, 2) := by decide +kernel
theorem dX3_copyInTurn_40 : decode cX3_copyInTurn 40 = .ok (.iload 6, 2) := by decide +kernel
theorem dX3_copyInTurn_42 : decode cX3_copyInTurn 42 = .ok (.ifCond .ge 6, 3) := by decide +kernel
theorem dX3_copyInTurn_45 : decode cX3_copyInTurn 45 = .ok (.iload 6, 2) := by decide +kernel
theorem dX3_copyInTurn_47 : decode cX3_copyInTurn 47 = .ok (.ireturn, 1) := by decide +kernel
theorem dX3_copyInTurn_48 : decode cX3_copyInTurn 48 = .ok (.iinc 4 1, 3) := by decide +kernel
theorem dX3_copyInTurn_51 : decode cX3_copyInTurn 51 = .ok (.goto (-48), 3) := by decide +kernel
theorem dX3_copyInTurn_54 : decode cX3_copyInTurn 54 = .ok (.iconst 1, 1) := by decide +kernel
theorem dX3_copyInTurn_55 : decode cX3_copyInTurn 55 = .ok (.ireturn, 1) := by decide +kernel
theorem dX3_find_0 : decode cX3_find 0 = .ok (.iload 4, 2) := by decide +kernel
theorem dX3_find_2 : decode cX3_find 2 = .ok (.bipush 127, 2) := by decide +kernel
theorem dX3_find_4 : decode cX3_find 4 = .ok (.iand, 1) := by decide +kernel
theorem dX3_find_5 : decode cX3_find 5 = .ok (.istore 5, 2) := by decide +kernel
theorem dX3_find_7 : decode cX3_find 7 = .ok (.iload 5, 2) := by decide +kernel
theorem dX3_find_9 : decode cX3_find 9 = .ok (.ifCond .ne 11, 3) := by decide +kernel
theorem dX3_find_12 : decode cX3_find 12 = .ok (.iload_n 3, 1) := by decide +kernel
theorem dX3_find_13 : decode cX3_find 13 = .ok (.iconst 1, 1) := by decide +kernel
theorem dX3_find_14 : decode cX3_find 14 = .ok (.invokestatic 62, 3) := by decide +kernel
theorem dX3_find_17 : decode cX3_find 17 = .ok (.goto 4, 3) := by decide +kernel
theorem dX3_find_20 : decode cX3_find 20 = .ok (.iload_n 3, 1) := by decide +kernel
theorem dX3_find_21 : decode cX3_find 21 = .ok (.istore 6, 2) := by decide +kernel
theorem dX3_find_23 : decode cX3_find 23 = .ok (.iconst 0, 1) := by decide +kernel
theorem dX3_find_24 : decode cX3_find 24 = .ok (.istore 7, 2) := by decide +kernel
theorem dX3_find_26 : decode cX3_find 26 = .ok (.iload 7, 2) := by decide +kernel
theorem dX3_find_28 : decode cX3_find 28 = .ok (.iload 6, 2) := by decide +kernel
theorem dX3_find_30 : decode cX3_find 30 = .ok (.if_icmp .ge 59, 3) := by decide +kernel
theorem dX3_find_33 : decode cX3_find 33 = .ok (.iload_n 2, 1) := by decide +kernel
theorem dX3_find_34 : decode cX3_find 34 = .ok (.iload 7, 2) := by decide +kernel
theorem dX3_find_36 : decode cX3_find 36 = .ok (.iload 5, 2) := by decide +kernel
theorem dX3_find_38 : decode cX3_find 38 = .ok (.imul, 1) := by decide +kernel
theorem dX3_find_39 : decode cX3_find 39 = .ok (.iadd, 1) := by decide +kernel
theorem dX3_find_40 : decode cX3_find 40 = .ok (.istore 8, 2) := by decide +kernel
theorem dX3_find_42 : decode cX3_find 42 = .ok (.iload 4, 2) := by decide +kernel
theorem dX3_find_44 : decode cX3_find 44 = .ok (.bipush 127, 2) := by decide +kernel
theorem dX3_find_46 : decode cX3_find 46 = .ok (.if_icmp .le 12, 3) := by decide +kernel
theorem dX3_find_49 : decode cX3_find 49 = .ok (.aload_n 0, 1) := by decide +kernel
theorem dX3_find_50 : decode cX3_find 50 = .ok (.iload 8, 2) := by decide +kernel
theorem dX3_find_52 : decode cX3_find 52 = .ok (.invokevirtual 65, 3) := by decide +kernel
theorem dX3_find_55 : decode cX3_find 55 = .ok (.goto 9, 3) := by decide +kernel
theorem dX3_find_58 : decode cX3_find 58 = .ok (.aload_n 0, 1) := by decide +kernel
theorem dX3_find_59 : decode cX3_find 59 = .ok (.iload 8, 2) := by decide +kernel
theorem dX3_find_61 : decode cX3_find 61 = .ok (.invokevirtual 55, 3) := by decide +kernel
theorem dX3_find_64 : decode cX3_find 64 = .ok (.istore 9, 2) := by decide +kernel
theorem dX3_find_66 : decode cX3_find 66 = .ok (.iload 9, 2) := by decide +kernel
theorem dX3_find_68 : decode cX3_find 68 = .ok (.ifCond .ge 6, 3) := by decide +kernel
theorem dX3_find_71 : decode cX3_find 71 = .ok (.iload 9, 2) := by decide +kernel
theorem dX3_find_73 : decode cX3_find 73 = .ok (.ireturn, 1) := by decide +kernel
theorem dX3_find_74 : decode cX3_find 74 = .ok (.iload 9, 2) := by decide +kernel
theorem dX3_find_76 : decode cX3_find 76 = .ok (.iload_n 1, 1) := by decide +kernel
theorem dX3_find_77 : decode cX3_find 77 = .ok (.if_icmp .ne 6, 3) := by decide +kernel
theorem dX3_find_80 : decode cX3_find 80 = .ok (.iload 8, 2) := by decide +kernel
theorem dX3_find_82 : decode cX3_find 82 = .ok (.ireturn, 1) := by decide +kernel
theorem dX3_find_83 : decode cX3_find 83 = .ok (.iinc 7 1, 3) := by decide +kernel
theorem dX3_find_86 : decode cX3_find 86 = .ok (.goto (-60), 3) := by decide +kernel
theorem dX3_find_89 : decode cX3_find 89 = .ok (.iconst 0, 1) := by decide +kernel
theorem dX3_find_90 : decode cX3_find 90 = .ok (.ireturn, 1) := by decide +kernel
theorem dX4_init_0 : decode cX4_init 0 = .ok (.aload_n 0, 1) := by decide +kernel
theorem dX4_init_1 : decode cX4_init 1 = .ok (.invokespecial 3, 3) := by decide +kernel
theorem dX4_init_4 : decode cX4_init 4 = .ok (.aload_n 0, 1) := by decide +kernel
theorem dX4_init_5 : decode cX4_init 5 = .ok (.bipush 120, 2) := by decide +kernel
theorem dX4_init_7 : decode cX4_init 7 = .ok (.newarray .int, 2) := by decide +kernel
theorem dX4_init_9 : decode cX4_init 9 = .ok (.putfield 9, 3) := by decide +kernel
theorem dX4_init_12 : decode cX4_init 12 = .ok (.return_, 1) := by decide +kernel
theorem dX4_characterAt_0 : decode cX4_characterAt 0 = .ok (.iload_n 1, 1) := by decide +kernel
theorem dX4_characterAt_1 : decode cX4_characterAt 1 = .ok (.ifCond .lt 20, 3) := by decide +kernel
theorem dX4_characterAt_4 : decode cX4_characterAt 4 = .ok (.iload_n 1, 1) := by decide +kernel
theorem dX4_characterAt_5 : decode cX4_characterAt 5 = .ok (.aload_n 0, 1) := by decide +kernel
theorem dX4_characterAt_6 : decode cX4_characterAt 6 = .ok (.getfield 15, 3) := by decide +kernel
theorem dX4_characterAt_9 : decode cX4_characterAt 9 = .ok (.if_icmp .ge 12, 3) := by decide +kernel
theorem dX4_characterAt_12 : decode cX4_characterAt 12 = .ok (.aload_n 0, 1) := by decide +kernel
theorem dX4_characterAt_13 : decode cX4_characterAt 13 = .ok (.getfield 9, 3) := by decide +kernel
theorem dX4_characterAt_16 : decode cX4_characterAt 16 = .ok (.iload_n 1, 1) := by decide +kernel
theorem dX4_characterAt_17 : decode cX4_characterAt 17 = .ok (.iaload, 1) := by decide +kernel
theorem dX4_characterAt_18 : decode cX4_characterAt 18 = .ok (.goto 4, 3) := by decide +kernel
theorem dX4_characterAt_21 : decode cX4_characterAt 21 = .ok (.iconst (-1), 1) := by decide +kernel
theorem dX4_characterAt_22 : decode cX4_characterAt 22 = .ok (.ireturn, 1) := by decide +kernel
theorem dX4_print_0 : decode cX4_print 0 = .ok (.aload_n 0, 1) := by decide +kernel
theorem dX4_print_1 : decode cX4_print 1 = .ok (.getfield 15, 3) := by decide +kernel
theorem dX4_print_4 : decode cX4_print 4 = .ok (.bipush 120, 2) := by decide +kernel
theorem dX4_print_6 : decode cX4_print 6 = .ok (.if_icmp .lt 6, 3) := by decide +kernel
theorem dX4_print_9 : decode cX4_print 9 = .ok (.bipush (-21), 2) := by decide +kernel
theorem dX4_print_11 : decode cX4_print 11 = .ok (.ireturn, 1) := by decide +kernel
theorem dX4_print_12 : decode cX4_print 12 = .ok (.aload_n 0, 1) := by decide +kernel
theorem dX4_print_13 : decode cX4_print 13 = .ok (.getfield 9, 3) := by decide +kernel
theorem dX4_print_16 : decode cX4_print 16 = .ok (.aload_n 0, 1) := by decide +kernel
theorem dX4_print_17 : decode cX4_print 17 = .ok (.getfield 15, 3) := by decide +kernel
theorem dX4_print_20 : decode cX4_print 20 = .ok (.iload_n 1, 1) := by decide +kernel
theorem dX4_print_21 : decode cX4_print 21 = .ok (.sipush 255, 3) := by decide +kernel
theorem dX4_print_24 : decode cX4_print 24 = .ok (.iand, 1) := by decide +kernel
theorem dX4_print_25 : decode cX4_print 25 = .ok (.iastore, 1) := by decide +kernel
theorem dX4_print_26 : decode cX4_print 26 = .ok (.aload_n 0, 1) := by decide +kernel
theorem dX4_print_27 : decode cX4_print 27 = .ok (.dup, 1) := by decide +kernel
theorem dX4_print_28 : decode cX4_print 28 = .ok (.getfield 15, 3) := by decide +kernel
theorem dX4_print_31 : decode cX4_print 31 = .ok (.iconst 1, 1) := by decide +kernel
theorem dX4_print_32 : decode cX4_print 32 = .ok (.iadd, 1) := by decide +kernel
theorem dX4_print_33 : decode cX4_print 33 = .ok (.putfield 15, 3) := by decide +kernel
theorem dX4_print_36 : decode cX4_print 36 = .ok (.iconst 1, 1) := by decide +kernel
theorem dX4_print_37 : decode cX4_print 37 = .ok (.ireturn, 1) := by decide +kernel
theorem dX4_printNumber_0 : decode cX4_printNumber 0 = .ok (.iload_n 1, 1) := by decide +kernel
theorem dX4_printNumber_1 : decode cX4_printNumber 1 = .ok (.ifCond .ge 12, 3) := by decide +kernel
theorem dX4_printNumber_4 : decode cX4_printNumber 4 = .ok (.aload_n 0, 1) := by decide +kernel
theorem dX4_printNumber_5 : decode cX4_printNumber 5 = .ok (.bipush 45, 2) := by decide +kernel
theorem dX4_printNumber_7 : decode cX4_printNumber 7 = .ok (.invokevirtual 19, 3) := by decide +kernel
theorem dX4_printNumber_10 : decode cX4_printNumber 10 = .ok (.goto 4, 3) := by decide +kernel
theorem dX4_printNumber_13 : decode cX4_printNumber 13 = .ok (.iconst 1, 1) := by decide +kernel
theorem dX4_printNumber_14 : decode cX4_printNumber 14 = .ok (.istore_n 2, 1) := by decide +kernel
theorem dX4_printNumber_15 : decode cX4_printNumber 15 = .ok (.iload_n 1, 1) := by decide +kernel
theorem dX4_printNumber_16 : decode cX4_printNumber 16 = .ok (.invokestatic 23, 3) := by decide +kernel
theorem dX4_printNumber_19 : decode cX4_printNumber 19 = .ok (.istore_n 3, 1) := by decide +kernel
theorem dX4_printNumber_20 : decode cX4_printNumber 20 = .ok (.sipush 10000, 3) := by decide +kernel
theorem dX4_printNumber_23 : decode cX4_printNumber 23 = .ok (.istore 4, 2) := by decide +kernel
theorem dX4_printNumber_25 : decode cX4_printNumber 25 = .ok (.iload 4, 2) := by decide +kernel
theorem dX4_printNumber_27 : decode cX4_printNumber 27 = .ok (.ifCond .le 44, 3) := by decide +kernel
theorem dX4_printNumber_30 : decode cX4_printNumber 30 = .ok (.iload_n 2, 1) := by decide +kernel
theorem dX4_printNumber_31 : decode cX4_printNumber 31 = .ok (.ifCond .lt 40, 3) := by decide +kernel
theorem dX4_printNumber_34 : decode cX4_printNumber 34 = .ok (.iload_n 3, 1) := by decide +kernel
theorem dX4_printNumber_35 : decode cX4_printNumber 35 = .ok (.iload 4, 2) := by decide +kernel
theorem dX4_printNumber_37 : decode cX4_printNumber 37 = .ok (.if_icmp .ge 9, 3) := by decide +kernel
theorem dX4_printNumber_40 : decode cX4_printNumber 40 = .ok (.iload 4, 2) := by decide +kernel
theorem dX4_printNumber_42 : decode cX4_printNumber 42 = .ok (.iconst 1, 1) := by decide +kernel
theorem dX4_printNumber_43 : decode cX4_printNumber 43 = .ok (.if_icmp .ne 18, 3) := by decide +kernel
theorem dX4_printNumber_46 : decode cX4_printNumber 46 = .ok (.aload_n 0, 1) := by decide +kernel
theorem dX4_printNumber_47 : decode cX4_printNumber 47 = .ok (.bipush 48, 2) := by decide +kernel
theorem dX4_printNumber_49 : decode cX4_printNumber 49 = .ok (.iload_n 3, 1) := by decide +kernel
theorem dX4_printNumber_50 : decode cX4_printNumber 50 = .ok (.iload 4, 2) := by decide +kernel
theorem dX4_printNumber_52 : decode cX4_printNumber 52 = .ok (.idiv, 1) := by decide +kernel
theorem dX4_printNumber_53 : decode cX4_printNumber 53 = .ok (.bipush 10, 2) := by decide +kernel
theorem dX4_printNumber_55 : decode cX4_printNumber 55 = .ok (.irem, 1) := by decide +kernel
theorem dX4_printNumber_56 : decode cX4_printNumber 56 = .ok (.iadd, 1) := by decide +kernel
theorem dX4_printNumber_57 : decode cX4_printNumber 57 = .ok (.invokevirtual 19, 3) := by decide +kernel
theorem dX4_printNumber_60 : decode cX4_printNumber 60 = .ok (.istore_n 2, 1) := by decide +kernel
theorem dX4_printNumber_61 : decode cX4_printNumber 61 = .ok (.iload 4, 2) := by decide +kernel
theorem dX4_printNumber_63 : decode cX4_printNumber 63 = .ok (.bipush 10, 2) := by decide +kernel
theorem dX4_printNumber_65 : decode cX4_printNumber 65 = .ok (.idiv, 1) := by decide +kernel
theorem dX4_printNumber_66 : decode cX4_printNumber 66 = .ok (.istore 4, 2) := by decide +kernel
theorem dX4_printNumber_68 : decode cX4_printNumber 68 = .ok (.goto (-43), 3) := by decide +kernel
theorem dX4_printNumber_71 : decode cX4_printNumber 71 = .ok (.iload_n 2, 1) := by decide +kernel
theorem dX4_printNumber_72 : decode cX4_printNumber 72 = .ok (.ireturn, 1) := by decide +kernel
theorem dX5_init_0 : decode cX5_init 0 = .ok (.aload_n 0, 1) := by decide +kernel
theorem dX5_init_1 : decode cX5_init 1 = .ok (.invokespecial 3, 3) := by decide +kernel
theorem dX5_init_4 : decode cX5_init 4 = .ok (.aload_n 0, 1) := by decide +kernel
theorem dX5_init_5 : decode cX5_init 5 = .ok (.bipush 100, 2) := by decide +kernel
theorem dX5_init_7 : decode cX5_init 7 = .ok (.newarray .int, 2) := by decide +kernel
theorem dX5_init_9 : decode cX5_init 9 = .ok (.putfield 9, 3) := by decide +kernel
theorem dX5_init_12 : decode cX5_init 12 = .ok (.aload_n 0, 1) := by decide +kernel
theorem dX5_init_13 : decode cX5_init 13 = .ok (.sipush 300, 3) := by decide +kernel
theorem dX5_init_16 : decode cX5_init 16 = .ok (.newarray .int, 2) := by decide +kernel
theorem dX5_init_18 : decode cX5_init 18 = .ok (.putfield 15, 3) := by decide +kernel
theorem dX5_init_21 : decode cX5_init 21 = .ok (.aload_n 0, 1) := by decide +kernel
theorem dX5_init_22 : decode cX5_init 22 = .ok (.bipush 100, 2) := by decide +kernel
theorem dX5_init_24 : decode cX5_init 24 = .ok (.newarray .int, 2) := by decide +kernel
theorem dX5_init_26 : decode cX5_init 26 = .ok (.putfield 18, 3) := by decide +kernel
theorem dX5_init_29 : decode cX5_init 29 = .ok (.aload_n 0, 1) := by decide +kernel
theorem dX5_init_30 : decode cX5_init 30 = .ok (.bipush 8, 2) := by decide +kernel
theorem dX5_init_32 : decode cX5_init 32 = .ok (.newarray .boolean, 2) := by decide +kernel
theorem dX5_init_34 : decode cX5_init 34 = .ok (.putfield 21, 3) := by decide +kernel
theorem dX5_init_37 : decode cX5_init 37 = .ok (.aload_n 0, 1) := by decide +kernel
theorem dX5_init_38 : decode cX5_init 38 = .ok (.bipush 8, 2) := by decide +kernel
theorem dX5_init_40 : decode cX5_init 40 = .ok (.newarray .int, 2) := by decide +kernel
theorem dX5_init_42 : decode cX5_init 42 = .ok (.putfield 25, 3) := by decide +kernel
theorem dX5_init_45 : decode cX5_init 45 = .ok (.aload_n 0, 1) := by decide +kernel
theorem dX5_init_46 : decode cX5_init 46 = .ok (.bipush 8, 2) := by decide +kernel
theorem dX5_init_48 : decode cX5_init 48 = .ok (.newarray .int, 2) := by decide +kernel
theorem dX5_init_50 : decode cX5_init 50 = .ok (.putfield 28, 3) := by decide +kernel
theorem dX5_init_53 : decode cX5_init 53 = .ok (.aload_n 0, 1) := by decide +kernel
theorem dX5_init_54 : decode cX5_init 54 = .ok (.bipush 8, 2) := by decide +kernel
theorem dX5_init_56 : decode cX5_init 56 = .ok (.newarray .boolean, 2) := by decide +kernel
theorem dX5_init_58 : decode cX5_init 58 = .ok (.putfield 31, 3) := by decide +kernel
theorem dX5_init_61 : decode cX5_init 61 = .ok (.return_, 1) := by decide +kernel
theorem dX5_append_0 : decode cX5_append 0 = .ok (.aload_n 0, 1) := by decide +kernel
theorem dX5_append_1 : decode cX5_append 1 = .ok (.getfield 34, 3) := by decide +kernel
theorem dX5_append_4 : decode cX5_append 4 = .ok (.bipush 100, 2) := by decide +kernel
theorem dX5_append_6 : decode cX5_append 6 = .ok (.if_icmp .lt 6, 3) := by decide +kernel
theorem dX5_append_9 : decode cX5_append 9 = .ok (.bipush (-3), 2) := by decide +kernel
theorem dX5_append_11 : decode cX5_append 11 = .ok (.ireturn, 1) := by decide +kernel
theorem dX5_append_12 : decode cX5_append 12 = .ok (.aload_n 0, 1) := by decide +kernel
theorem dX5_append_13 : decode cX5_append 13 = .ok (.getfield 34, 3) := by decide +kernel
theorem dX5_append_16 : decode cX5_append 16 = .ok (.istore 6, 2) := by decide +kernel
theorem dX5_append_18 : decode cX5_append 18 = .ok (.aload_n 0, 1) := by decide +kernel
theorem dX5_append_19 : decode cX5_append 19 = .ok (.getfield 9, 3) := by decide +kernel
theorem dX5_append_22 : decode cX5_append 22 = .ok (.iload 6, 2) := by decide +kernel
theorem dX5_append_24 : decode cX5_append 24 = .ok (.iload_n 1, 1) := by decide +kernel
theorem dX5_append_25 : decode cX5_append 25 = .ok (.iastore, 1) := by decide +kernel
theorem dX5_append_26 : decode cX5_append 26 = .ok (.aload_n 0, 1) := by decide +kernel
theorem dX5_append_27 : decode cX5_append 27 = .ok (.getfield 15, 3) := by decide +kernel
theorem dX5_append_30 : decode cX5_append 30 = .ok (.iconst 3, 1) := by decide +kernel
theorem dX5_append_31 : decode cX5_append 31 = .ok (.iload 6, 2) := by decide +kernel
theorem dX5_append_33 : decode cX5_append 33 = .ok (.imul, 1) := by decide +kernel
theorem dX5_append_34 : decode cX5_append 34 = .ok (.iload_n 2, 1) := by decide +kernel
theorem dX5_append_35 : decode cX5_append 35 = .ok (.iastore, 1) := by decide +kernel
theorem dX5_append_36 : decode cX5_append 36 = .ok (.aload_n 0, 1) := by decide +kernel
theorem dX5_append_37 : decode cX5_append 37 = .ok (.getfield 15, 3) := by decide +kernel
theorem dX5_append_40 : decode cX5_append 40 = .ok (.iconst 3, 1) := by decide +kernel
theorem dX5_append_41 : decode cX5_append 41 = .ok (.iload 6, 2) := by decide +kernel
theorem dX5_append_43 : decode cX5_append 43 = .ok (.imul, 1) := by decide +kernel
theorem dX5_append_44 : decode cX5_append 44 = .ok (.iconst 1, 1) := by decide +kernel
theorem dX5_append_45 : decode cX5_append 45 = .ok (.iadd, 1) := by decide +kernel
theorem dX5_append_46 : decode cX5_append 46 = .ok (.iload_n 3, 1) := by decide +kernel
theorem dX5_append_47 : decode cX5_append 47 = .ok (.iastore, 1) := by decide +kernel
theorem dX5_append_48 : decode cX5_append 48 = .ok (.aload_n 0, 1) := by decide +kernel
theorem dX5_append_49 : decode cX5_append 49 = .ok (.getfield 15, 3) := by decide +kernel
theorem dX5_append_52 : decode cX5_append 52 = .ok (.iconst 3, 1) := by decide +kernel
theorem dX5_append_53 : decode cX5_append 53 = .ok (.iload 6, 2) := by decide +kernel
theorem dX5_append_55 : decode cX5_append 55 = .ok (.imul, 1) := by decide +kernel
theorem dX5_append_56 : decode cX5_append 56 = .ok (.iconst 2, 1) := by decide +kernel
theorem dX5_append_57 : decode cX5_append 57 = .ok (.iadd, 1) := by decide +kernel
theorem dX5_append_58 : decode cX5_append 58 = .ok (.iload 4, 2) := by decide +kernel
theorem dX5_append_60 : decode cX5_append 60 = .ok (.iastore, 1) := by decide +kernel
theorem dX5_append_61 : decode cX5_append 61 = .ok (.aload_n 0, 1) := by decide +kernel
theorem dX5_append_62 : decode cX5_append 62 = .ok (.getfield 18, 3) := by decide +kernel
theorem dX5_append_65 : decode cX5_append 65 = .ok (.iload 6, 2) := by decide +kernel
theorem dX5_append_67 : decode cX5_append 67 = .ok (.iload 5, 2) := by decide +kernel
theorem dX5_append_69 : decode cX5_append 69 = .ok (.iastore, 1) := by decide +kernel
theorem dX5_append_70 : decode cX5_append 70 = .ok (.aload_n 0, 1) := by decide +kernel
theorem dX5_append_71 : decode cX5_append 71 = .ok (.dup, 1) := by decide +kernel
theorem dX5_append_72 : decode cX5_append 72 = .ok (.getfield 34, 3) := by decide +kernel
theorem dX5_append_75 : decode cX5_append 75 = .ok (.iconst 1, 1) := by decide +kernel
theorem dX5_append_76 : decode cX5_append 76 = .ok (.iadd, 1) := by decide +kernel
theorem dX5_append_77 : decode cX5_append 77 = .ok (.putfield 34, 3) := by decide +kernel
theorem dX5_append_80 : decode cX5_append 80 = .ok (.iload 6, 2) := by decide +kernel
theorem dX5_append_82 : decode cX5_append 82 = .ok (.ireturn, 1) := by decide +kernel
theorem dX5_define_0 : decode cX5_define 0 = .ok (.aload_n 0, 1) := by decide +kernel
theorem dX5_define_1 : decode cX5_define 1 = .ok (.getfield 21, 3) := by decide +kernel
theorem dX5_define_4 : decode cX5_define 4 = .ok (.iload_n 1, 1) := by decide +kernel
theorem dX5_define_5 : decode cX5_define 5 = .ok (.iconst 1, 1) := by decide +kernel
theorem dX5_define_6 : decode cX5_define 6 = .ok (.bastore, 1) := by decide +kernel
theorem dX5_define_7 : decode cX5_define 7 = .ok (.aload_n 0, 1) := by decide +kernel
theorem dX5_define_8 : decode cX5_define 8 = .ok (.getfield 25, 3) := by decide +kernel
theorem dX5_define_11 : decode cX5_define 11 = .ok (.iload_n 1, 1) := by decide +kernel
theorem dX5_define_12 : decode cX5_define 12 = .ok (.iload_n 2, 1) := by decide +kernel
theorem dX5_define_13 : decode cX5_define 13 = .ok (.iastore, 1) := by decide +kernel
theorem dX5_define_14 : decode cX5_define 14 = .ok (.aload_n 0, 1) := by decide +kernel
theorem dX5_define_15 : decode cX5_define 15 = .ok (.getfield 28, 3) := by decide +kernel
theorem dX5_define_18 : decode cX5_define 18 = .ok (.iload_n 1, 1) := by decide +kernel
theorem dX5_define_19 : decode cX5_define 19 = .ok (.iload_n 3, 1) := by decide +kernel
theorem dX5_define_20 : decode cX5_define 20 = .ok (.iastore, 1) := by decide +kernel
theorem dX5_define_21 : decode cX5_define 21 = .ok (.aload_n 0, 1) := by decide +kernel
theorem dX5_define_22 : decode cX5_define 22 = .ok (.getfield 31, 3) := by decide +kernel
theorem dX5_define_25 : decode cX5_define 25 = .ok (.iload_n 1, 1) := by decide +kernel
theorem dX5_define_26 : decode cX5_define 26 = .ok (.iload 4, 2) := by decide +kernel
theorem dX5_define_28 : decode cX5_define 28 = .ok (.bastore, 1) := by decide +kernel
theorem dX5_define_29 : decode cX5_define 29 = .ok (.return_, 1) := by decide +kernel
theorem dX5_forget_0 : decode cX5_forget 0 = .ok (.aload_n 0, 1) := by decide +kernel
theorem dX5_forget_1 : decode cX5_forget 1 = .ok (.getfield 34, 3) := by decide +kernel
theorem dX5_forget_4 : decode cX5_forget 4 = .ok (.istore_n 1, 1) := by decide +kernel
theorem dX5_forget_5 : decode cX5_forget 5 = .ok (.aload_n 0, 1) := by decide +kernel
theorem dX5_forget_6 : decode cX5_forget 6 = .ok (.iconst 0, 1) := by decide +kernel
theorem dX5_forget_7 : decode cX5_forget 7 = .ok (.putfield 34, 3) := by decide +kernel
theorem dX5_forget_10 : decode cX5_forget 10 = .ok (.iconst 0, 1) := by decide +kernel
theorem dX5_forget_11 : decode cX5_forget 11 = .ok (.istore_n 2, 1) := by decide +kernel
theorem dX5_forget_12 : decode cX5_forget 12 = .ok (.iload_n 2, 1) := by decide +kernel
theorem dX5_forget_13 : decode cX5_forget 13 = .ok (.bipush 8, 2) := by decide +kernel
theorem dX5_forget_15 : decode cX5_forget 15 = .ok (.if_icmp .ge 16, 3) := by decide +kernel
theorem dX5_forget_18 : decode cX5_forget 18 = .ok (.aload_n 0, 1) := by decide +kernel
theorem dX5_forget_19 : decode cX5_forget 19 = .ok (.getfield 21, 3) := by decide +kernel
theorem dX5_forget_22 : decode cX5_forget 22 = .ok (.iload_n 2, 1) := by decide +kernel
theorem dX5_forget_23 : decode cX5_forget 23 = .ok (.iconst 0, 1) := by decide +kernel
theorem dX5_forget_24 : decode cX5_forget 24 = .ok (.bastore, 1) := by decide +kernel
theorem dX5_forget_25 : decode cX5_forget 25 = .ok (.iinc 2 1, 3) := by decide +kernel
theorem dX5_forget_28 : decode cX5_forget 28 = .ok (.goto (-16), 3) := by decide +kernel
theorem dX5_forget_31 : decode cX5_forget 31 = .ok (.iload_n 1, 1) := by decide +kernel
theorem dX5_forget_32 : decode cX5_forget 32 = .ok (.ireturn, 1) := by decide +kernel
theorem dX5_opAt_0 : decode cX5_opAt 0 = .ok (.iload_n 1, 1) := by decide +kernel
theorem dX5_opAt_1 : decode cX5_opAt 1 = .ok (.ifCond .lt 20, 3) := by decide +kernel
theorem dX5_opAt_4 : decode cX5_opAt 4 = .ok (.iload_n 1, 1) := by decide +kernel
theorem dX5_opAt_5 : decode cX5_opAt 5 = .ok (.aload_n 0, 1) := by decide +kernel
theorem dX5_opAt_6 : decode cX5_opAt 6 = .ok (.getfield 34, 3) := by decide +kernel
theorem dX5_opAt_9 : decode cX5_opAt 9 = .ok (.if_icmp .ge 12, 3) := by decide +kernel
theorem dX5_opAt_12 : decode cX5_opAt 12 = .ok (.aload_n 0, 1) := by decide +kernel
theorem dX5_opAt_13 : decode cX5_opAt 13 = .ok (.getfield 9, 3) := by decide +kernel
theorem dX5_opAt_16 : decode cX5_opAt 16 = .ok (.iload_n 1, 1) := by decide +kernel
theorem dX5_opAt_17 : decode cX5_opAt 17 = .ok (.iaload, 1) := by decide +kernel
theorem dX5_opAt_18 : decode cX5_opAt 18 = .ok (.goto 4, 3) := by decide +kernel
theorem dX5_opAt_21 : decode cX5_opAt 21 = .ok (.iconst (-1), 1) := by decide +kernel
theorem dX5_opAt_22 : decode cX5_opAt 22 = .ok (.ireturn, 1) := by decide +kernel
theorem dX5_hasRoutine_0 : decode cX5_hasRoutine 0 = .ok (.iload_n 1, 1) := by decide +kernel
theorem dX5_hasRoutine_1 : decode cX5_hasRoutine 1 = .ok (.bipush 7, 2) := by decide +kernel
theorem dX5_hasRoutine_3 : decode cX5_hasRoutine 3 = .ok (.invokestatic 38, 3) := by decide +kernel
theorem dX5_hasRoutine_6 : decode cX5_hasRoutine 6 = .ok (.ifCond .eq 16, 3) := by decide +kernel
theorem dX5_hasRoutine_9 : decode cX5_hasRoutine 9 = .ok (.aload_n 0, 1) := by decide +kernel
theorem dX5_hasRoutine_10 : decode cX5_hasRoutine 10 = .ok (.getfield 21, 3) := by decide +kernel
theorem dX5_hasRoutine_13 : decode cX5_hasRoutine 13 = .ok (.iload_n 1, 1) := by decide +kernel
theorem dX5_hasRoutine_14 : decode cX5_hasRoutine 14 = .ok (.baload, 1) := by decide +kernel
theorem dX5_hasRoutine_15 : decode cX5_hasRoutine 15 = .ok (.ifCond .eq 7, 3) := by decide +kernel
theorem dX5_hasRoutine_18 : decode cX5_hasRoutine 18 = .ok (.iconst 1, 1) := by decide +kernel
theorem dX5_hasRoutine_19 : decode cX5_hasRoutine 19 = .ok (.goto 4, 3) := by decide +kernel
theorem dX5_hasRoutine_22 : decode cX5_hasRoutine 22 = .ok (.iconst 0, 1) := by decide +kernel
theorem dX5_hasRoutine_23 : decode cX5_hasRoutine 23 = .ok (.ireturn, 1) := by decide +kernel
theorem dX6_init_0 : decode cX6_init 0 = .ok (.aload_n 0, 1) := by decide +kernel
theorem dX6_init_1 : decode cX6_init 1 = .ok (.invokespecial 3, 3) := by decide +kernel
theorem dX6_init_4 : decode cX6_init 4 = .ok (.aload_n 0, 1) := by decide +kernel
theorem dX6_init_5 : decode cX6_init 5 = .ok (.new 9, 3) := by decide +kernel
theorem dX6_init_8 : decode cX6_init 8 = .ok (.dup, 1) := by decide +kernel
theorem dX6_init_9 : decode cX6_init 9 = .ok (.invokespecial 11, 3) := by decide +kernel
theorem dX6_init_12 : decode cX6_init 12 = .ok (.putfield 12, 3) := by decide +kernel
theorem dX6_init_15 : decode cX6_init 15 = .ok (.aload_n 0, 1) := by decide +kernel
theorem dX6_init_16 : decode cX6_init 16 = .ok (.new 18, 3) := by decide +kernel
theorem dX6_init_19 : decode cX6_init 19 = .ok (.dup, 1) := by decide +kernel
theorem dX6_init_20 : decode cX6_init 20 = .ok (.invokespecial 20, 3) := by decide +kernel
theorem dX6_init_23 : decode cX6_init 23 = .ok (.putfield 21, 3) := by decide +kernel
theorem dX6_init_26 : decode cX6_init 26 = .ok (.aload_n 0, 1) := by decide +kernel
theorem dX6_init_27 : decode cX6_init 27 = .ok (.bipush 8, 2) := by decide +kernel
theorem dX6_init_29 : decode cX6_init 29 = .ok (.newarray .int, 2) := by decide +kernel
theorem dX6_init_31 : decode cX6_init 31 = .ok (.putfield 25, 3) := by decide +kernel
theorem dX6_init_34 : decode cX6_init 34 = .ok (.aload_n 0, 1) := by decide +kernel
theorem dX6_init_35 : decode cX6_init 35 = .ok (.iconst 3, 1) := by decide +kernel
theorem dX6_init_36 : decode cX6_init 36 = .ok (.newarray .int, 2) := by decide +kernel
theorem dX6_init_38 : decode cX6_init 38 = .ok (.putfield 29, 3) := by decide +kernel
theorem dX6_init_41 : decode cX6_init 41 = .ok (.aload_n 0, 1) := by decide +kernel
theorem dX6_init_42 : decode cX6_init 42 = .ok (.sipush 130, 3) := by decide +kernel
theorem dX6_init_45 : decode cX6_init 45 = .ok (.putfield 32, 3) := by decide +kernel
theorem dX6_init_48 : decode cX6_init 48 = .ok (.aload_n 0, 1) := by decide +kernel
theorem dX6_init_49 : decode cX6_init 49 = .ok (.aload_n 1, 1) := by decide +kernel
theorem dX6_init_50 : decode cX6_init 50 = .ok (.putfield 36, 3) := by decide +kernel
theorem dX6_init_53 : decode cX6_init 53 = .ok (.aload_n 0, 1) := by decide +kernel
theorem dX6_init_54 : decode cX6_init 54 = .ok (.aload_n 2, 1) := by decide +kernel
theorem dX6_init_55 : decode cX6_init 55 = .ok (.putfield 40, 3) := by decide +kernel
theorem dX6_init_58 : decode cX6_init 58 = .ok (.aload_n 0, 1) := by decide +kernel
theorem dX6_init_59 : decode cX6_init 59 = .ok (.aload_n 3, 1) := by decide +kernel
theorem dX6_init_60 : decode cX6_init 60 = .ok (.putfield 44, 3) := by decide +kernel
theorem dX6_init_63 : decode cX6_init 63 = .ok (.return_, 1) := by decide +kernel
theorem dX6_begin_0 : decode cX6_begin 0 = .ok (.aload_n 0, 1) := by decide +kernel
theorem dX6_begin_1 : decode cX6_begin 1 = .ok (.getfield 12, 3) := by decide +kernel
theorem dX6_begin_4 : decode cX6_begin 4 = .ok (.invokevirtual 48, 3) := by decide +kernel
theorem dX6_begin_7 : decode cX6_begin 7 = .ok (.aload_n 0, 1) := by decide +kernel
theorem dX6_begin_8 : decode cX6_begin 8 = .ok (.getfield 21, 3) := by decide +kernel
theorem dX6_begin_11 : decode cX6_begin 11 = .ok (.iconst 0, 1) := by decide +kernel
theorem dX6_begin_12 : decode cX6_begin 12 = .ok (.putfield 51, 3) := by decide +kernel
theorem dX6_begin_15 : decode cX6_begin 15 = .ok (.aload_n 0, 1) := by decide +kernel
theorem dX6_begin_16 : decode cX6_begin 16 = .ok (.getfield 25, 3) := by decide +kernel
theorem dX6_begin_19 : decode cX6_begin 19 = .ok (.iconst 0, 1) := by decide +kernel
theorem dX6_begin_20 : decode cX6_begin 20 = .ok (.invokestatic 54, 3) := by decide +kernel
theorem dX6_begin_23 : decode cX6_begin 23 = .ok (.aload_n 0, 1) := by decide +kernel
theorem dX6_begin_24 : decode cX6_begin 24 = .ok (.iconst (-1), 1) := by decide +kernel
theorem dX6_begin_25 : decode cX6_begin 25 = .ok (.putfield 60, 3) := by decide +kernel
theorem dX6_begin_28 : decode cX6_begin 28 = .ok (.aload_n 0, 1) := by decide +kernel
theorem dX6_begin_29 : decode cX6_begin 29 = .ok (.iconst 0, 1) := by decide +kernel
theorem dX6_begin_30 : decode cX6_begin 30 = .ok (.putfield 63, 3) := by decide +kernel
theorem dX6_begin_33 : decode cX6_begin 33 = .ok (.aload_n 0, 1) := by decide +kernel
theorem dX6_begin_34 : decode cX6_begin 34 = .ok (.iconst 0, 1) := by decide +kernel
theorem dX6_begin_35 : decode cX6_begin 35 = .ok (.putfield 66, 3) := by decide +kernel
theorem dX6_begin_38 : decode cX6_begin 38 = .ok (.aload_n 0, 1) := by decide +kernel
theorem dX6_begin_39 : decode cX6_begin 39 = .ok (.iconst 0, 1) := by decide +kernel
theorem dX6_begin_40 : decode cX6_begin 40 = .ok (.putfield 69, 3) := by decide +kernel
theorem dX6_begin_43 : decode cX6_begin 43 = .ok (.aload_n 0, 1) := by decide +kernel
theorem dX6_begin_44 : decode cX6_begin 44 = .ok (.iconst 0, 1) := by decide +kernel
theorem dX6_begin_45 : decode cX6_begin 45 = .ok (.putfield 72, 3) := by decide +kernel
theorem dX6_begin_48 : decode cX6_begin 48 = .ok (.aload_n 0, 1) := by decide +kernel
theorem dX6_begin_49 : decode cX6_begin 49 = .ok (.iconst 0, 1) := by decide +kernel
theorem dX6_begin_50 : decode cX6_begin 50 = .ok (.putfield 75, 3) := by decide +kernel
theorem dX6_begin_53 : decode cX6_begin 53 = .ok (.aload_n 0, 1) := by decide +kernel
theorem dX6_begin_54 : decode cX6_begin 54 = .ok (.iconst 0, 1) := by decide +kernel
theorem dX6_begin_55 : decode cX6_begin 55 = .ok (.putfield 78, 3) := by decide +kernel
theorem dX6_begin_58 : decode cX6_begin 58 = .ok (.aload_n 0, 1) := by decide +kernel
theorem dX6_begin_59 : decode cX6_begin 59 = .ok (.iload_n 1, 1) := by decide +kernel
theorem dX6_begin_60 : decode cX6_begin 60 = .ok (.iload_n 2, 1) := by decide +kernel
theorem dX6_begin_61 : decode cX6_begin 61 = .ok (.iload_n 3, 1) := by decide +kernel
theorem dX6_begin_62 : decode cX6_begin 62 = .ok (.iconst (-1), 1) := by decide +kernel
theorem dX6_begin_63 : decode cX6_begin 63 = .ok (.invokevirtual 81, 3) := by decide +kernel
theorem dX6_begin_66 : decode cX6_begin 66 = .ok (.pop, 1) := by decide +kernel
theorem dX6_begin_67 : decode cX6_begin 67 = .ok (.return_, 1) := by decide +kernel
theorem dX6_isGoing_0 : decode cX6_isGoing 0 = .ok (.aload_n 0, 1) := by decide +kernel
theorem dX6_isGoing_1 : decode cX6_isGoing 1 = .ok (.getfield 60, 3) := by decide +kernel
theorem dX6_isGoing_4 : decode cX6_isGoing 4 = .ok (.iconst (-1), 1) := by decide +kernel
theorem dX6_isGoing_5 : decode cX6_isGoing 5 = .ok (.if_icmp .ne 7, 3) := by decide +kernel
theorem dX6_isGoing_8 : decode cX6_isGoing 8 = .ok (.iconst 1, 1) := by decide +kernel
theorem dX6_isGoing_9 : decode cX6_isGoing 9 = .ok (.goto 4, 3) := by decide +kernel
theorem dX6_isGoing_12 : decode cX6_isGoing 12 = .ok (.iconst 0, 1) := by decide +kernel
theorem dX6_isGoing_13 : decode cX6_isGoing 13 = .ok (.ireturn, 1) := by decide +kernel
theorem dX6_finish_0 : decode cX6_finish 0 = .ok (.aload_n 0, 1) := by decide +kernel
theorem dX6_finish_1 : decode cX6_finish 1 = .ok (.getfield 60, 3) := by decide +kernel
theorem dX6_finish_4 : decode cX6_finish 4 = .ok (.iconst (-1), 1) := by decide +kernel
theorem dX6_finish_5 : decode cX6_finish 5 = .ok (.if_icmp .ne 8, 3) := by decide +kernel
theorem dX6_finish_8 : decode cX6_finish 8 = .ok (.aload_n 0, 1) := by decide +kernel
theorem dX6_finish_9 : decode cX6_finish 9 = .ok (.iconst 3, 1) := by decide +kernel
theorem dX6_finish_10 : decode cX6_finish 10 = .ok (.putfield 60, 3) := by decide +kernel
theorem dX6_finish_13 : decode cX6_finish 13 = .ok (.aload_n 0, 1) := by decide +kernel
theorem dX6_finish_14 : decode cX6_finish 14 = .ok (.iconst 0, 1) := by decide +kernel
theorem dX6_finish_15 : decode cX6_finish 15 = .ok (.invokevirtual 85, 3) := by decide +kernel
theorem dX6_finish_18 : decode cX6_finish 18 = .ok (.aload_n 0, 1) := by decide +kernel
theorem dX6_finish_19 : decode cX6_finish 19 = .ok (.getfield 60, 3) := by decide +kernel
theorem dX6_finish_22 : decode cX6_finish 22 = .ok (.ireturn, 1) := by decide +kernel
theorem dX6_step_0 : decode cX6_step 0 = .ok (.aload_n 0, 1) := by decide +kernel
theorem dX6_step_1 : decode cX6_step 1 = .ok (.dup, 1) := by decide +kernel
theorem dX6_step_2 : decode cX6_step 2 = .ok (.getfield 63, 3) := by decide +kernel
theorem dX6_step_5 : decode cX6_step 5 = .ok (.iconst 1, 1) := by decide +kernel
theorem dX6_step_6 : decode cX6_step 6 = .ok (.iadd, 1) := by decide +kernel
theorem dX6_step_7 : decode cX6_step 7 = .ok (.putfield 63, 3) := by decide +kernel
theorem dX6_step_10 : decode cX6_step 10 = .ok (.aload_n 0, 1) := by decide +kernel
theorem dX6_step_11 : decode cX6_step 11 = .ok (.iconst (-1), 1) := by decide +kernel
theorem dX6_step_12 : decode cX6_step 12 = .ok (.putfield 89, 3) := by decide +kernel
theorem dX6_step_15 : decode cX6_step 15 = .ok (.aload_n 0, 1) := by decide +kernel
theorem dX6_step_16 : decode cX6_step 16 = .ok (.getfield 12, 3) := by decide +kernel
theorem dX6_step_19 : decode cX6_step 19 = .ok (.invokevirtual 92, 3) := by decide +kernel
theorem dX6_step_22 : decode cX6_step 22 = .ok (.getfield 96, 3) := by decide +kernel
theorem dX6_step_25 : decode cX6_step 25 = .ok (.istore_n 1, 1) := by decide +kernel
theorem dX6_step_26 : decode cX6_step 26 = .ok (.aload_n 0, 1) := by decide +kernel
theorem dX6_step_27 : decode cX6_step 27 = .ok (.getfield 44, 3) := by decide +kernel
theorem dX6_step_30 : decode cX6_step 30 = .ok (.iload_n 1, 1) := by decide +kernel
theorem dX6_step_31 : decode cX6_step 31 = .ok (.invokevirtual 101, 3) := by decide +kernel
theorem dX6_step_34 : decode cX6_step 34 = .ok (.istore_n 2, 1) := by decide +kernel
theorem dX6_step_35 : decode cX6_step 35 = .ok (.iload_n 2, 1) := by decide +kernel
theorem dX6_step_36 : decode cX6_step 36 = .ok (.ifCond .lt 11, 3) := by decide +kernel
theorem dX6_step_39 : decode cX6_step 39 = .ok (.iload_n 2, 1) := by decide +kernel
theorem dX6_step_40 : decode cX6_step 40 = .ok (.getstatic 107, 3) := by decide +kernel
theorem dX6_step_43 : decode cX6_step 43 = .ok (.arraylength, 1) := by decide +kernel
theorem dX6_step_44 : decode cX6_step 44 = .ok (.if_icmp .lt 6, 3) := by decide +kernel
theorem dX6_step_47 : decode cX6_step 47 = .ok (.bipush (-20), 2) := by decide +kernel
theorem dX6_step_49 : decode cX6_step 49 = .ok (.ireturn, 1) := by decide +kernel
theorem dX6_step_50 : decode cX6_step 50 = .ok (.iconst 0, 1) := by decide +kernel
theorem dX6_step_51 : decode cX6_step 51 = .ok (.istore_n 3, 1) := by decide +kernel
theorem dX6_step_52 : decode cX6_step 52 = .ok (.iload_n 3, 1) := by decide +kernel
theorem dX6_step_53 : decode cX6_step 53 = .ok (.getstatic 107, 3) := by decide +kernel
theorem dX6_step_56 : decode cX6_step 56 = .ok (.iload_n 2, 1) := by decide +kernel
theorem dX6_step_57 : decode cX6_step 57 = .ok (.iaload, 1) := by decide +kernel
theorem dX6_step_58 : decode cX6_step 58 = .ok (.if_icmp .ge 60, 3) := by decide +kernel
theorem dX6_step_61 : decode cX6_step 61 = .ok (.aload_n 0, 1) := by decide +kernel
theorem dX6_step_62 : decode cX6_step 62 = .ok (.getfield 44, 3) := by decide +kernel
theorem dX6_step_65 : decode cX6_step 65 = .ok (.getfield 110, 3) := by decide +kernel
theorem dX6_step_68 : decode cX6_step 68 = .ok (.iconst 3, 1) := by decide +kernel
theorem dX6_step_69 : decode cX6_step 69 = .ok (.iload_n 1, 1) := by decide +kernel
theorem dX6_step_70 : decode cX6_step 70 = .ok (.imul, 1) := by decide +kernel
theorem dX6_step_71 : decode cX6_step 71 = .ok (.iload_n 3, 1) := by decide +kernel
theorem dX6_step_72 : decode cX6_step 72 = .ok (.iadd, 1) := by decide +kernel
theorem dX6_step_73 : decode cX6_step 73 = .ok (.iaload, 1) := by decide +kernel
theorem dX6_step_74 : decode cX6_step 74 = .ok (.istore 4, 2) := by decide +kernel
theorem dX6_step_76 : decode cX6_step 76 = .ok (.iload 4, 2) := by decide +kernel
theorem dX6_step_78 : decode cX6_step 78 = .ok (.ifCond .ge 14, 3) := by decide +kernel
theorem dX6_step_81 : decode cX6_step 81 = .ok (.aload_n 0, 1) := by decide +kernel
theorem dX6_step_82 : decode cX6_step 82 = .ok (.iconst (-1), 1) := by decide +kernel
theorem dX6_step_83 : decode cX6_step 83 = .ok (.iload 4, 2) := by decide +kernel
theorem dX6_step_85 : decode cX6_step 85 = .ok (.isub, 1) := by decide +kernel
theorem dX6_step_86 : decode cX6_step 86 = .ok (.invokevirtual 113, 3) := by decide +kernel
theorem dX6_step_89 : decode cX6_step 89 = .ok (.goto 5, 3) := by decide +kernel
theorem dX6_step_92 : decode cX6_step 92 = .ok (.iload 4, 2) := by decide +kernel
theorem dX6_step_94 : decode cX6_step 94 = .ok (.istore 5, 2) := by decide +kernel
theorem dX6_step_96 : decode cX6_step 96 = .ok (.iload 5, 2) := by decide +kernel
theorem dX6_step_98 : decode cX6_step 98 = .ok (.ifCond .ge 6, 3) := by decide +kernel
theorem dX6_step_101 : decode cX6_step 101 = .ok (.iload 5, 2) := by decide +kernel
theorem dX6_step_103 : decode cX6_step 103 = .ok (.ireturn, 1) := by decide +kernel
theorem dX6_step_104 : decode cX6_step 104 = .ok (.aload_n 0, 1) := by decide +kernel
theorem dX6_step_105 : decode cX6_step 105 = .ok (.getfield 29, 3) := by decide +kernel
theorem dX6_step_108 : decode cX6_step 108 = .ok (.iload_n 3, 1) := by decide +kernel
theorem dX6_step_109 : decode cX6_step 109 = .ok (.iload 5, 2) := by decide +kernel
theorem dX6_step_111 : decode cX6_step 111 = .ok (.iastore, 1) := by decide +kernel
theorem dX6_step_112 : decode cX6_step 112 = .ok (.iinc 3 1, 3) := by decide +kernel
theorem dX6_step_115 : decode cX6_step 115 = .ok (.goto (-63), 3) := by decide +kernel
theorem dX6_step_118 : decode cX6_step 118 = .ok (.aload_n 0, 1) := by decide +kernel
theorem dX6_step_119 : decode cX6_step 119 = .ok (.getfield 12, 3) := by decide +kernel
theorem dX6_step_122 : decode cX6_step 122 = .ok (.invokevirtual 92, 3) := by decide +kernel
theorem dX6_step_125 : decode cX6_step 125 = .ok (.iload_n 1, 1) := by decide +kernel
theorem dX6_step_126 : decode cX6_step 126 = .ok (.iconst 1, 1) := by decide +kernel
theorem dX6_step_127 : decode cX6_step 127 = .ok (.iadd, 1) := by decide +kernel
theorem dX6_step_128 : decode cX6_step 128 = .ok (.putfield 96, 3) := by decide +kernel
theorem dX6_step_131 : decode cX6_step 131 = .ok (.aload_n 0, 1) := by decide +kernel
theorem dX6_step_132 : decode cX6_step 132 = .ok (.iload_n 2, 1) := by decide +kernel
theorem dX6_step_133 : decode cX6_step 133 = .ok (.aload_n 0, 1) := by decide +kernel
theorem dX6_step_134 : decode cX6_step 134 = .ok (.getfield 44, 3) := by decide +kernel
theorem dX6_step_137 : decode cX6_step 137 = .ok (.getfield 116, 3) := by decide +kernel
theorem dX6_step_140 : decode cX6_step 140 = .ok (.iload_n 1, 1) := by decide +kernel
theorem dX6_step_141 : decode cX6_step 141 = .ok (.iaload, 1) := by decide +kernel
theorem dX6_step_142 : decode cX6_step 142 = .ok (.aload_n 0, 1) := by decide +kernel
theorem dX6_step_143 : decode cX6_step 143 = .ok (.getfield 29, 3) := by decide +kernel
theorem dX6_step_146 : decode cX6_step 146 = .ok (.iconst 0, 1) := by decide +kernel
theorem dX6_step_147 : decode cX6_step 147 = .ok (.iaload, 1) := by decide +kernel
theorem dX6_step_148 : decode cX6_step 148 = .ok (.aload_n 0, 1) := by decide +kernel
theorem dX6_step_149 : decode cX6_step 149 = .ok (.getfield 29, 3) := by decide +kernel
theorem dX6_step_152 : decode cX6_step 152 = .ok (.iconst 1, 1) := by decide +kernel
theorem dX6_step_153 : decode cX6_step 153 = .ok (.iaload, 1) := by decide +kernel
theorem dX6_step_154 : decode cX6_step 154 = .ok (.aload_n 0, 1) := by decide +kernel
theorem dX6_step_155 : decode cX6_step 155 = .ok (.getfield 29, 3) := by decide +kernel
theorem dX6_step_158 : decode cX6_step 158 = .ok (.iconst 2, 1) := by decide +kernel
theorem dX6_step_159 : decode cX6_step 159 = .ok (.iaload, 1) := by decide +kernel
theorem dX6_step_160 : decode cX6_step 160 = .ok (.invokevirtual 119, 3) := by decide +kernel
theorem dX6_step_163 : decode cX6_step 163 = .ok (.ireturn, 1) := by decide +kernel
theorem dX6_settle_0 : decode cX6_settle 0 = .ok (.aload_n 0, 1) := by decide +kernel
theorem dX6_settle_1 : decode cX6_settle 1 = .ok (.iload_n 1, 1) := by decide +kernel
theorem dX6_settle_2 : decode cX6_settle 2 = .ok (.invokevirtual 123, 3) := by decide +kernel
theorem dX6_settle_5 : decode cX6_settle 5 = .ok (.istore_n 2, 1) := by decide +kernel
theorem dX6_settle_6 : decode cX6_settle 6 = .ok (.iconst 0, 1) := by decide +kernel
theorem dX6_settle_7 : decode cX6_settle 7 = .ok (.istore_n 3, 1) := by decide +kernel
theorem dX6_settle_8 : decode cX6_settle 8 = .ok (.iload_n 3, 1) := by decide +kernel
theorem dX6_settle_9 : decode cX6_settle 9 = .ok (.bipush 12, 2) := by decide +kernel
theorem dX6_settle_11 : decode cX6_settle 11 = .ok (.if_icmp .ge 23, 3) := by decide +kernel
theorem dX6_settle_14 : decode cX6_settle 14 = .ok (.iload_n 2, 1) := by decide +kernel
theorem dX6_settle_15 : decode cX6_settle 15 = .ok (.ifCond .ge 19, 3) := by decide +kernel
theorem dX6_settle_18 : decode cX6_settle 18 = .ok (.aload_n 0, 1) := by decide +kernel
theorem dX6_settle_19 : decode cX6_settle 19 = .ok (.aload_n 0, 1) := by decide +kernel
theorem dX6_settle_20 : decode cX6_settle 20 = .ok (.iload_n 2, 1) := by decide +kernel
theorem dX6_settle_21 : decode cX6_settle 21 = .ok (.invokevirtual 126, 3) := by decide +kernel
theorem dX6_settle_24 : decode cX6_settle 24 = .ok (.invokevirtual 123, 3) := by decide +kernel
theorem dX6_settle_27 : decode cX6_settle 27 = .ok (.istore_n 2, 1) := by decide +kernel
theorem dX6_settle_28 : decode cX6_settle 28 = .ok (.iinc 3 1, 3) := by decide +kernel
theorem dX6_settle_31 : decode cX6_settle 31 = .ok (.goto (-23), 3) := by decide +kernel
theorem dX6_settle_34 : decode cX6_settle 34 = .ok (.return_, 1) := by decide +kernel
theorem dX6_keep_0 : decode cX6_keep 0 = .ok (.iload_n 1, 1) := by decide +kernel
theorem dX6_keep_1 : decode cX6_keep 1 = .ok (.ifCond .lt 11, 3) := by decide +kernel
theorem dX6_keep_4 : decode cX6_keep 4 = .ok (.aload_n 0, 1) := by decide +kernel
theorem dX6_keep_5 : decode cX6_keep 5 = .ok (.getfield 89, 3) := by decide +kernel
theorem dX6_keep_8 : decode cX6_keep 8 = .ok (.iconst (-1), 1) := by decide +kernel
theorem dX6_keep_9 : decode cX6_keep 9 = .ok (.if_icmp .ne 7, 3) := by decide +kernel
theorem dX6_keep_12 : decode cX6_keep 12 = .ok (.iload_n 1, 1) := by decide +kernel
theorem dX6_keep_13 : decode cX6_keep 13 = .ok (.goto 12, 3) := by decide +kernel
theorem dX6_keep_16 : decode cX6_keep 16 = .ok (.aload_n 0, 1) := by decide +kernel
theorem dX6_keep_17 : decode cX6_keep 17 = .ok (.aload_n 0, 1) := by decide +kernel
theorem dX6_keep_18 : decode cX6_keep 18 = .ok (.getfield 89, 3) := by decide +kernel
theorem dX6_keep_21 : decode cX6_keep 21 = .ok (.iload_n 1, 1) := by decide +kernel
theorem dX6_keep_22 : decode cX6_keep 22 = .ok (.invokevirtual 129, 3) := by decide +kernel
theorem dX6_keep_25 : decode cX6_keep 25 = .ok (.ireturn, 1) := by decide +kernel
theorem dX6_carryOut_0 : decode cX6_carryOut 0 = .ok (.iload_n 1, 1) := by decide +kernel
theorem dX6_carryOut_1 : decode cX6_carryOut 1 = .ok (.bipush 9, 2) := by decide +kernel
theorem dX6_carryOut_3 : decode cX6_carryOut 3 = .ok (.if_icmp .gt 22, 3) := by decide +kernel
theorem dX6_carryOut_6 : decode cX6_carryOut 6 = .ok (.aload_n 0, 1) := by decide +kernel
theorem dX6_carryOut_7 : decode cX6_carryOut 7 = .ok (.iload_n 2, 1) := by decide +kernel
theorem dX6_carryOut_8 : decode cX6_carryOut 8 = .ok (.iload_n 1, 1) := by decide +kernel
theorem dX6_carryOut_9 : decode cX6_carryOut 9 = .ok (.iload_n 3, 1) := by decide +kernel
theorem dX6_carryOut_10 : decode cX6_carryOut 10 = .ok (.invokestatic 133, 3) := by decide +kernel
theorem dX6_carryOut_13 : decode cX6_carryOut 13 = .ok (.iload 4, 2) := by decide +kernel
theorem dX6_carryOut_15 : decode cX6_carryOut 15 = .ok (.invokestatic 133, 3) := by decide +kernel
theorem dX6_carryOut_18 : decode cX6_carryOut 18 = .ok (.invokestatic 136, 3) := by decide +kernel
theorem dX6_carryOut_21 : decode cX6_carryOut 21 = .ok (.invokevirtual 140, 3) := by decide +kernel
theorem dX6_carryOut_24 : decode cX6_carryOut 24 = .ok (.ireturn, 1) := by decide +kernel
theorem dX6_carryOut_25 : decode cX6_carryOut 25 = .ok (.iload_n 1, 1) := by decide +kernel
theorem dX6_carryOut_26 : decode cX6_carryOut 26 = .ok (.tableswitch 448 10 32 #[106, 124, 148, 172, 179, 190, 201, 223, 243, 263, 281, 292, 298, 307, 324, 339, 347, 363, 388, 405, 417, 426, 442], 106) := by decide +kernel
theorem dX6_carryOut_132 : decode cX6_carryOut 132 = .ok (.aload_n 0, 1) := by decide +kernel
theorem dX6_carryOut_133 : decode cX6_carryOut 133 = .ok (.iload_n 3, 1) := by decide +kernel
theorem dX6_carryOut_134 : decode cX6_carryOut 134 = .ok (.iload 4, 2) := by decide +kernel
theorem dX6_carryOut_136 : decode cX6_carryOut 136 = .ok (.if_icmp .ne 7, 3) := by decide +kernel
theorem dX6_carryOut_139 : decode cX6_carryOut 139 = .ok (.iconst 1, 1) := by decide +kernel
theorem dX6_carryOut_140 : decode cX6_carryOut 140 = .ok (.goto 4, 3) := by decide +kernel
theorem dX6_carryOut_143 : decode cX6_carryOut 143 = .ok (.iconst 0, 1) := by decide +kernel
theorem dX6_carryOut_144 : decode cX6_carryOut 144 = .ok (.iload 5, 2) := by decide +kernel
theorem dX6_carryOut_146 : decode cX6_carryOut 146 = .ok (.invokevirtual 143, 3) := by decide +kernel
theorem dX6_carryOut_149 : decode cX6_carryOut 149 = .ok (.ireturn, 1) := by decide +kernel
theorem dX6_carryOut_150 : decode cX6_carryOut 150 = .ok (.aload_n 0, 1) := by decide +kernel
theorem dX6_carryOut_151 : decode cX6_carryOut 151 = .ok (.iload_n 3, 1) := by decide +kernel
theorem dX6_carryOut_152 : decode cX6_carryOut 152 = .ok (.invokestatic 133, 3) := by decide +kernel
theorem dX6_carryOut_155 : decode cX6_carryOut 155 = .ok (.iload 4, 2) := by decide +kernel
theorem dX6_carryOut_157 : decode cX6_carryOut 157 = .ok (.invokestatic 133, 3) := by decide +kernel
theorem dX6_carryOut_160 : decode cX6_carryOut 160 = .ok (.if_icmp .ge 7, 3) := by decide +kernel
theorem dX6_carryOut_163 : decode cX6_carryOut 163 = .ok (.iconst 1, 1) := by decide +kernel
theorem dX6_carryOut_164 : decode cX6_carryOut 164 = .ok (.goto 4, 3) := by decide +kernel
theorem dX6_carryOut_167 : decode cX6_carryOut 167 = .ok (.iconst 0, 1) := by decide +kernel
theorem dX6_carryOut_168 : decode cX6_carryOut 168 = .ok (.iload 5, 2) := by decide +kernel
theorem dX6_carryOut_170 : decode cX6_carryOut 170 = .ok (.invokevirtual 143, 3) := by decide +kernel
theorem dX6_carryOut_173 : decode cX6_carryOut 173 = .ok (.ireturn, 1) := by decide +kernel
theorem dX6_carryOut_174 : decode cX6_carryOut 174 = .ok (.aload_n 0, 1) := by decide +kernel
theorem dX6_carryOut_175 : decode cX6_carryOut 175 = .ok (.iload_n 3, 1) := by decide +kernel
theorem dX6_carryOut_176 : decode cX6_carryOut 176 = .ok (.invokestatic 133, 3) := by decide +kernel
theorem dX6_carryOut_179 : decode cX6_carryOut 179 = .ok (.iload 4, 2) := by decide +kernel
theorem dX6_carryOut_181 : decode cX6_carryOut 181 = .ok (.invokestatic 133, 3) := by decide +kernel
theorem dX6_carryOut_184 : decode cX6_carryOut 184 = .ok (.if_icmp .le 7, 3) := by decide +kernel
theorem dX6_carryOut_187 : decode cX6_carryOut 187 = .ok (.iconst 1, 1) := by decide +kernel
theorem dX6_carryOut_188 : decode cX6_carryOut 188 = .ok (.goto 4, 3) := by decide +kernel
theorem dX6_carryOut_191 : decode cX6_carryOut 191 = .ok (.iconst 0, 1) := by decide +kernel
theorem dX6_carryOut_192 : decode cX6_carryOut 192 = .ok (.iload 5, 2) := by decide +kernel
theorem dX6_carryOut_194 : decode cX6_carryOut 194 = .ok (.invokevirtual 143, 3) := by decide +kernel
theorem dX6_carryOut_197 : decode cX6_carryOut 197 = .ok (.ireturn, 1) := by decide +kernel
theorem dX6_carryOut_198 : decode cX6_carryOut 198 = .ok (.aload_n 0, 1) := by decide +kernel
theorem dX6_carryOut_199 : decode cX6_carryOut 199 = .ok (.iconst 1, 1) := by decide +kernel
theorem dX6_carryOut_200 : decode cX6_carryOut 200 = .ok (.iload_n 3, 1) := by decide +kernel
theorem dX6_carryOut_201 : decode cX6_carryOut 201 = .ok (.invokevirtual 143, 3) := by decide +kernel
theorem dX6_carryOut_204 : decode cX6_carryOut 204 = .ok (.ireturn, 1) := by decide +kernel
theorem dX6_carryOut_205 : decode cX6_carryOut 205 = .ok (.aload_n 0, 1) := by decide +kernel
theorem dX6_carryOut_206 : decode cX6_carryOut 206 = .ok (.iload_n 3, 1) := by decide +kernel
theorem dX6_carryOut_207 : decode cX6_carryOut 207 = .ok (.sipush 255, 3) := by decide +kernel
theorem dX6_carryOut_210 : decode cX6_carryOut 210 = .ok (.iand, 1) := by decide +kernel
theorem dX6_carryOut_211 : decode cX6_carryOut 211 = .ok (.iconst 1, 1) := by decide +kernel
theorem dX6_carryOut_212 : decode cX6_carryOut 212 = .ok (.invokevirtual 147, 3) := by decide +kernel
theorem dX6_carryOut_215 : decode cX6_carryOut 215 = .ok (.ireturn, 1) := by decide +kernel
theorem dX6_carryOut_216 : decode cX6_carryOut 216 = .ok (.aload_n 0, 1) := by decide +kernel
theorem dX6_carryOut_217 : decode cX6_carryOut 217 = .ok (.iload_n 3, 1) := by decide +kernel
theorem dX6_carryOut_218 : decode cX6_carryOut 218 = .ok (.sipush 255, 3) := by decide +kernel
theorem dX6_carryOut_221 : decode cX6_carryOut 221 = .ok (.iand, 1) := by decide +kernel
theorem dX6_carryOut_222 : decode cX6_carryOut 222 = .ok (.iconst (-1), 1) := by decide +kernel
theorem dX6_carryOut_223 : decode cX6_carryOut 223 = .ok (.invokevirtual 147, 3) := by decide +kernel
theorem dX6_carryOut_226 : decode cX6_carryOut 226 = .ok (.ireturn, 1) := by decide +kernel
theorem dX6_carryOut_227 : decode cX6_carryOut 227 = .ok (.aload_n 0, 1) := by decide +kernel
theorem dX6_carryOut_228 : decode cX6_carryOut 228 = .ok (.iload_n 2, 1) := by decide +kernel
theorem dX6_carryOut_229 : decode cX6_carryOut 229 = .ok (.aload_n 0, 1) := by decide +kernel
theorem dX6_carryOut_230 : decode cX6_carryOut 230 = .ok (.getfield 36, 3) := by decide +kernel
theorem dX6_carryOut_233 : decode cX6_carryOut 233 = .ok (.iload_n 3, 1) := by decide +kernel
theorem dX6_carryOut_234 : decode cX6_carryOut 234 = .ok (.iconst 2, 1) := by decide +kernel
theorem dX6_carryOut_235 : decode cX6_carryOut 235 = .ok (.iload 4, 2) := by decide +kernel
theorem dX6_carryOut_237 : decode cX6_carryOut 237 = .ok (.invokestatic 133, 3) := by decide +kernel
theorem dX6_carryOut_240 : decode cX6_carryOut 240 = .ok (.imul, 1) := by decide +kernel
theorem dX6_carryOut_241 : decode cX6_carryOut 241 = .ok (.iadd, 1) := by decide +kernel
theorem dX6_carryOut_242 : decode cX6_carryOut 242 = .ok (.invokevirtual 150, 3) := by decide +kernel
theorem dX6_carryOut_245 : decode cX6_carryOut 245 = .ok (.invokevirtual 140, 3) := by decide +kernel
theorem dX6_carryOut_248 : decode cX6_carryOut 248 = .ok (.ireturn, 1) := by decide +kernel
theorem dX6_carryOut_249 : decode cX6_carryOut 249 = .ok (.aload_n 0, 1) := by decide +kernel
theorem dX6_carryOut_250 : decode cX6_carryOut 250 = .ok (.iload_n 2, 1) := by decide +kernel
theorem dX6_carryOut_251 : decode cX6_carryOut 251 = .ok (.aload_n 0, 1) := by decide +kernel
theorem dX6_carryOut_252 : decode cX6_carryOut 252 = .ok (.getfield 36, 3) := by decide +kernel
theorem dX6_carryOut_255 : decode cX6_carryOut 255 = .ok (.iload_n 3, 1) := by decide +kernel
theorem dX6_carryOut_256 : decode cX6_carryOut 256 = .ok (.iload 4, 2) := by decide +kernel
theorem dX6_carryOut_258 : decode cX6_carryOut 258 = .ok (.invokestatic 133, 3) := by decide +kernel
theorem dX6_carryOut_261 : decode cX6_carryOut 261 = .ok (.iadd, 1) := by decide +kernel
theorem dX6_carryOut_262 : decode cX6_carryOut 262 = .ok (.invokevirtual 155, 3) := by decide +kernel
theorem dX6_carryOut_265 : decode cX6_carryOut 265 = .ok (.invokevirtual 140, 3) := by decide +kernel
theorem dX6_carryOut_268 : decode cX6_carryOut 268 = .ok (.ireturn, 1) := by decide +kernel
theorem dX6_carryOut_269 : decode cX6_carryOut 269 = .ok (.aload_n 0, 1) := by decide +kernel
theorem dX6_carryOut_270 : decode cX6_carryOut 270 = .ok (.getfield 36, 3) := by decide +kernel
theorem dX6_carryOut_273 : decode cX6_carryOut 273 = .ok (.iload_n 3, 1) := by decide +kernel
theorem dX6_carryOut_274 : decode cX6_carryOut 274 = .ok (.iconst 2, 1) := by decide +kernel
theorem dX6_carryOut_275 : decode cX6_carryOut 275 = .ok (.iload 4, 2) := by decide +kernel
theorem dX6_carryOut_277 : decode cX6_carryOut 277 = .ok (.invokestatic 133, 3) := by decide +kernel
theorem dX6_carryOut_280 : decode cX6_carryOut 280 = .ok (.imul, 1) := by decide +kernel
theorem dX6_carryOut_281 : decode cX6_carryOut 281 = .ok (.iadd, 1) := by decide +kernel
theorem dX6_carryOut_282 : decode cX6_carryOut 282 = .ok (.iload 5, 2) := by decide +kernel
theorem dX6_carryOut_284 : decode cX6_carryOut 284 = .ok (.iconst 0, 1) := by decide +kernel
theorem dX6_carryOut_285 : decode cX6_carryOut 285 = .ok (.invokevirtual 158, 3) := by decide +kernel
theorem dX6_carryOut_288 : decode cX6_carryOut 288 = .ok (.ireturn, 1) := by decide +kernel
theorem dX6_carryOut_289 : decode cX6_carryOut 289 = .ok (.aload_n 0, 1) := by decide +kernel
theorem dX6_carryOut_290 : decode cX6_carryOut 290 = .ok (.getfield 36, 3) := by decide +kernel
theorem dX6_carryOut_293 : decode cX6_carryOut 293 = .ok (.iload_n 3, 1) := by decide +kernel
theorem dX6_carryOut_294 : decode cX6_carryOut 294 = .ok (.iload 4, 2) := by decide +kernel
theorem dX6_carryOut_296 : decode cX6_carryOut 296 = .ok (.invokestatic 133, 3) := by decide +kernel
theorem dX6_carryOut_299 : decode cX6_carryOut 299 = .ok (.iadd, 1) := by decide +kernel
theorem dX6_carryOut_300 : decode cX6_carryOut 300 = .ok (.iload 5, 2) := by decide +kernel
theorem dX6_carryOut_302 : decode cX6_carryOut 302 = .ok (.iconst 0, 1) := by decide +kernel
theorem dX6_carryOut_303 : decode cX6_carryOut 303 = .ok (.invokevirtual 162, 3) := by decide +kernel
theorem dX6_carryOut_306 : decode cX6_carryOut 306 = .ok (.ireturn, 1) := by decide +kernel
theorem dX6_carryOut_307 : decode cX6_carryOut 307 = .ok (.aload_n 0, 1) := by decide +kernel
theorem dX6_carryOut_308 : decode cX6_carryOut 308 = .ok (.iload_n 3, 1) := by decide +kernel
theorem dX6_carryOut_309 : decode cX6_carryOut 309 = .ok (.iload 4, 2) := by decide +kernel
theorem dX6_carryOut_311 : decode cX6_carryOut 311 = .ok (.iload 5, 2) := by decide +kernel
theorem dX6_carryOut_313 : decode cX6_carryOut 313 = .ok (.iload_n 2, 1) := by decide +kernel
theorem dX6_carryOut_314 : decode cX6_carryOut 314 = .ok (.invokevirtual 81, 3) := by decide +kernel
theorem dX6_carryOut_317 : decode cX6_carryOut 317 = .ok (.ireturn, 1) := by decide +kernel
theorem dX6_carryOut_318 : decode cX6_carryOut 318 = .ok (.aload_n 0, 1) := by decide +kernel
theorem dX6_carryOut_319 : decode cX6_carryOut 319 = .ok (.iload_n 3, 1) := by decide +kernel
theorem dX6_carryOut_320 : decode cX6_carryOut 320 = .ok (.invokevirtual 165, 3) := by decide +kernel
theorem dX6_carryOut_323 : decode cX6_carryOut 323 = .ok (.ireturn, 1) := by decide +kernel
theorem dX6_carryOut_324 : decode cX6_carryOut 324 = .ok (.aload_n 0, 1) := by decide +kernel
theorem dX6_carryOut_325 : decode cX6_carryOut 325 = .ok (.getfield 12, 3) := by decide +kernel
theorem dX6_carryOut_328 : decode cX6_carryOut 328 = .ok (.iload_n 3, 1) := by decide +kernel
theorem dX6_carryOut_329 : decode cX6_carryOut 329 = .ok (.invokevirtual 168, 3) := by decide +kernel
theorem dX6_carryOut_332 : decode cX6_carryOut 332 = .ok (.ireturn, 1) := by decide +kernel
theorem dX6_carryOut_333 : decode cX6_carryOut 333 = .ok (.aload_n 0, 1) := by decide +kernel
theorem dX6_carryOut_334 : decode cX6_carryOut 334 = .ok (.iload_n 3, 1) := by decide +kernel
theorem dX6_carryOut_335 : decode cX6_carryOut 335 = .ok (.sipush 255, 3) := by decide +kernel
theorem dX6_carryOut_338 : decode cX6_carryOut 338 = .ok (.iand, 1) := by decide +kernel
theorem dX6_carryOut_339 : decode cX6_carryOut 339 = .ok (.aload_n 0, 1) := by decide +kernel
theorem dX6_carryOut_340 : decode cX6_carryOut 340 = .ok (.getfield 12, 3) := by decide +kernel
theorem dX6_carryOut_343 : decode cX6_carryOut 343 = .ok (.invokevirtual 171, 3) := by decide +kernel
theorem dX6_carryOut_346 : decode cX6_carryOut 346 = .ok (.invokevirtual 140, 3) := by decide +kernel
theorem dX6_carryOut_349 : decode cX6_carryOut 349 = .ok (.ireturn, 1) := by decide +kernel
theorem dX6_carryOut_350 : decode cX6_carryOut 350 = .ok (.aload_n 0, 1) := by decide +kernel
theorem dX6_carryOut_351 : decode cX6_carryOut 351 = .ok (.iload_n 2, 1) := by decide +kernel
theorem dX6_carryOut_352 : decode cX6_carryOut 352 = .ok (.aload_n 0, 1) := by decide +kernel
theorem dX6_carryOut_353 : decode cX6_carryOut 353 = .ok (.getfield 12, 3) := by decide +kernel
theorem dX6_carryOut_356 : decode cX6_carryOut 356 = .ok (.getfield 175, 3) := by decide +kernel
theorem dX6_carryOut_359 : decode cX6_carryOut 359 = .ok (.iconst 1, 1) := by decide +kernel
theorem dX6_carryOut_360 : decode cX6_carryOut 360 = .ok (.isub, 1) := by decide +kernel
theorem dX6_carryOut_361 : decode cX6_carryOut 361 = .ok (.invokevirtual 140, 3) := by decide +kernel
theorem dX6_carryOut_364 : decode cX6_carryOut 364 = .ok (.ireturn, 1) := by decide +kernel
theorem dX6_carryOut_365 : decode cX6_carryOut 365 = .ok (.aload_n 0, 1) := by decide +kernel
theorem dX6_carryOut_366 : decode cX6_carryOut 366 = .ok (.iload 4, 2) := by decide +kernel
theorem dX6_carryOut_368 : decode cX6_carryOut 368 = .ok (.iload_n 3, 1) := by decide +kernel
theorem dX6_carryOut_369 : decode cX6_carryOut 369 = .ok (.invokevirtual 178, 3) := by decide +kernel
theorem dX6_carryOut_372 : decode cX6_carryOut 372 = .ok (.ireturn, 1) := by decide +kernel
theorem dX6_carryOut_373 : decode cX6_carryOut 373 = .ok (.aload_n 0, 1) := by decide +kernel
theorem dX6_carryOut_374 : decode cX6_carryOut 374 = .ok (.getfield 36, 3) := by decide +kernel
theorem dX6_carryOut_377 : decode cX6_carryOut 377 = .ok (.iload_n 3, 1) := by decide +kernel
theorem dX6_carryOut_378 : decode cX6_carryOut 378 = .ok (.iload 4, 2) := by decide +kernel
theorem dX6_carryOut_380 : decode cX6_carryOut 380 = .ok (.iload 5, 2) := by decide +kernel
theorem dX6_carryOut_382 : decode cX6_carryOut 382 = .ok (.invokestatic 133, 3) := by decide +kernel
theorem dX6_carryOut_385 : decode cX6_carryOut 385 = .ok (.invokevirtual 181, 3) := by decide +kernel
theorem dX6_carryOut_388 : decode cX6_carryOut 388 = .ok (.ireturn, 1) := by decide +kernel
theorem dX6_carryOut_389 : decode cX6_carryOut 389 = .ok (.aload_n 0, 1) := by decide +kernel
theorem dX6_carryOut_390 : decode cX6_carryOut 390 = .ok (.iload_n 2, 1) := by decide +kernel
theorem dX6_carryOut_391 : decode cX6_carryOut 391 = .ok (.aload_n 0, 1) := by decide +kernel
theorem dX6_carryOut_392 : decode cX6_carryOut 392 = .ok (.getfield 36, 3) := by decide +kernel
theorem dX6_carryOut_395 : decode cX6_carryOut 395 = .ok (.iload_n 3, 1) := by decide +kernel
theorem dX6_carryOut_396 : decode cX6_carryOut 396 = .ok (.iload 4, 2) := by decide +kernel
theorem dX6_carryOut_398 : decode cX6_carryOut 398 = .ok (.iload 5, 2) := by decide +kernel
theorem dX6_carryOut_400 : decode cX6_carryOut 400 = .ok (.invokestatic 133, 3) := by decide +kernel
theorem dX6_carryOut_403 : decode cX6_carryOut 403 = .ok (.aload_n 0, 1) := by decide +kernel
theorem dX6_carryOut_404 : decode cX6_carryOut 404 = .ok (.getfield 32, 3) := by decide +kernel
theorem dX6_carryOut_407 : decode cX6_carryOut 407 = .ok (.invokevirtual 184, 3) := by decide +kernel
theorem dX6_carryOut_410 : decode cX6_carryOut 410 = .ok (.invokevirtual 140, 3) := by decide +kernel
theorem dX6_carryOut_413 : decode cX6_carryOut 413 = .ok (.ireturn, 1) := by decide +kernel
theorem dX6_carryOut_414 : decode cX6_carryOut 414 = .ok (.aload_n 0, 1) := by decide +kernel
theorem dX6_carryOut_415 : decode cX6_carryOut 415 = .ok (.iload_n 2, 1) := by decide +kernel
theorem dX6_carryOut_416 : decode cX6_carryOut 416 = .ok (.aload_n 0, 1) := by decide +kernel
theorem dX6_carryOut_417 : decode cX6_carryOut 417 = .ok (.getfield 40, 3) := by decide +kernel
theorem dX6_carryOut_420 : decode cX6_carryOut 420 = .ok (.iload_n 3, 1) := by decide +kernel
theorem dX6_carryOut_421 : decode cX6_carryOut 421 = .ok (.invokestatic 133, 3) := by decide +kernel
theorem dX6_carryOut_424 : decode cX6_carryOut 424 = .ok (.invokevirtual 187, 3) := by decide +kernel
theorem dX6_carryOut_427 : decode cX6_carryOut 427 = .ok (.invokevirtual 140, 3) := by decide +kernel
theorem dX6_carryOut_430 : decode cX6_carryOut 430 = .ok (.ireturn, 1) := by decide +kernel
theorem dX6_carryOut_431 : decode cX6_carryOut 431 = .ok (.aload_n 0, 1) := by decide +kernel
theorem dX6_carryOut_432 : decode cX6_carryOut 432 = .ok (.getfield 21, 3) := by decide +kernel
theorem dX6_carryOut_435 : decode cX6_carryOut 435 = .ok (.iload_n 3, 1) := by decide +kernel
theorem dX6_carryOut_436 : decode cX6_carryOut 436 = .ok (.invokestatic 133, 3) := by decide +kernel
theorem dX6_carryOut_439 : decode cX6_carryOut 439 = .ok (.invokevirtual 192, 3) := by decide +kernel
theorem dX6_carryOut_442 : decode cX6_carryOut 442 = .ok (.ireturn, 1) := by decide +kernel
theorem dX6_carryOut_443 : decode cX6_carryOut 443 = .ok (.aload_n 0, 1) := by decide +kernel
theorem dX6_carryOut_444 : decode cX6_carryOut 444 = .ok (.getfield 21, 3) := by decide +kernel
theorem dX6_carryOut_447 : decode cX6_carryOut 447 = .ok (.iload_n 3, 1) := by decide +kernel
theorem dX6_carryOut_448 : decode cX6_carryOut 448 = .ok (.invokevirtual 195, 3) := by decide +kernel
theorem dX6_carryOut_451 : decode cX6_carryOut 451 = .ok (.ireturn, 1) := by decide +kernel
theorem dX6_carryOut_452 : decode cX6_carryOut 452 = .ok (.aload_n 0, 1) := by decide +kernel
theorem dX6_carryOut_453 : decode cX6_carryOut 453 = .ok (.iload_n 3, 1) := by decide +kernel
theorem dX6_carryOut_454 : decode cX6_carryOut 454 = .ok (.iload 4, 2) := by decide +kernel
theorem dX6_carryOut_456 : decode cX6_carryOut 456 = .ok (.invokestatic 133, 3) := by decide +kernel
theorem dX6_carryOut_459 : decode cX6_carryOut 459 = .ok (.iload 5, 2) := by decide +kernel
theorem dX6_carryOut_461 : decode cX6_carryOut 461 = .ok (.invokestatic 133, 3) := by decide +kernel
theorem dX6_carryOut_464 : decode cX6_carryOut 464 = .ok (.invokevirtual 198, 3) := by decide +kernel
theorem dX6_carryOut_467 : decode cX6_carryOut 467 = .ok (.ireturn, 1) := by decide +kernel
theorem dX6_carryOut_468 : decode cX6_carryOut 468 = .ok (.aload_n 0, 1) := by decide +kernel
theorem dX6_carryOut_469 : decode cX6_carryOut 469 = .ok (.iconst 1, 1) := by decide +kernel
theorem dX6_carryOut_470 : decode cX6_carryOut 470 = .ok (.invokevirtual 201, 3) := by decide +kernel
theorem dX6_carryOut_473 : decode cX6_carryOut 473 = .ok (.ireturn, 1) := by decide +kernel
theorem dX6_carryOut_474 : decode cX6_carryOut 474 = .ok (.bipush (-20), 2) := by decide +kernel
theorem dX6_carryOut_476 : decode cX6_carryOut 476 = .ok (.ireturn, 1) := by decide +kernel
theorem dX6_tell_0 : decode cX6_tell 0 = .ok (.aload_n 0, 1) := by decide +kernel
theorem dX6_tell_1 : decode cX6_tell 1 = .ok (.iload_n 1, 1) := by decide +kernel
theorem dX6_tell_2 : decode cX6_tell 2 = .ok (.putfield 89, 3) := by decide +kernel
theorem dX6_tell_5 : decode cX6_tell 5 = .ok (.iload_n 2, 1) := by decide +kernel
theorem dX6_tell_6 : decode cX6_tell 6 = .ok (.ireturn, 1) := by decide +kernel
theorem dX6_end_0 : decode cX6_end 0 = .ok (.aload_n 0, 1) := by decide +kernel
theorem dX6_end_1 : decode cX6_end 1 = .ok (.iload_n 1, 1) := by decide +kernel
theorem dX6_end_2 : decode cX6_end 2 = .ok (.putfield 60, 3) := by decide +kernel
theorem dX6_end_5 : decode cX6_end 5 = .ok (.aload_n 0, 1) := by decide +kernel
theorem dX6_end_6 : decode cX6_end 6 = .ok (.iconst (-1), 1) := by decide +kernel
theorem dX6_end_7 : decode cX6_end 7 = .ok (.iconst 1, 1) := by decide +kernel
theorem dX6_end_8 : decode cX6_end 8 = .ok (.invokevirtual 140, 3) := by decide +kernel
theorem dX6_end_11 : decode cX6_end 11 = .ok (.ireturn, 1) := by decide +kernel
theorem dX6_goOnIf_0 : decode cX6_goOnIf 0 = .ok (.iload_n 1, 1) := by decide +kernel
theorem dX6_goOnIf_1 : decode cX6_goOnIf 1 = .ok (.ifCond .eq 14, 3) := by decide +kernel
theorem dX6_goOnIf_4 : decode cX6_goOnIf 4 = .ok (.aload_n 0, 1) := by decide +kernel
theorem dX6_goOnIf_5 : decode cX6_goOnIf 5 = .ok (.getfield 12, 3) := by decide +kernel
theorem dX6_goOnIf_8 : decode cX6_goOnIf 8 = .ok (.invokevirtual 92, 3) := by decide +kernel
theorem dX6_goOnIf_11 : decode cX6_goOnIf 11 = .ok (.iload_n 2, 1) := by decide +kernel
theorem dX6_goOnIf_12 : decode cX6_goOnIf 12 = .ok (.putfield 96, 3) := by decide +kernel
theorem dX6_goOnIf_15 : decode cX6_goOnIf 15 = .ok (.iconst 1, 1) := by decide +kernel
theorem dX6_goOnIf_16 : decode cX6_goOnIf 16 = .ok (.ireturn, 1) := by decide +kernel
theorem dX6_change_0 : decode cX6_change 0 = .ok (.aload_n 0, 1) := by decide +kernel
theorem dX6_change_1 : decode cX6_change 1 = .ok (.iload_n 1, 1) := by decide +kernel
theorem dX6_change_2 : decode cX6_change 2 = .ok (.invokevirtual 113, 3) := by decide +kernel
theorem dX6_change_5 : decode cX6_change 5 = .ok (.istore_n 3, 1) := by decide +kernel
theorem dX6_change_6 : decode cX6_change 6 = .ok (.iload_n 3, 1) := by decide +kernel
theorem dX6_change_7 : decode cX6_change 7 = .ok (.ifCond .ge 7, 3) := by decide +kernel
theorem dX6_change_10 : decode cX6_change 10 = .ok (.iload_n 3, 1) := by decide +kernel
theorem dX6_change_11 : decode cX6_change 11 = .ok (.goto 14, 3) := by decide +kernel
theorem dX6_change_14 : decode cX6_change 14 = .ok (.aload_n 0, 1) := by decide +kernel
theorem dX6_change_15 : decode cX6_change 15 = .ok (.iload_n 1, 1) := by decide +kernel
theorem dX6_change_16 : decode cX6_change 16 = .ok (.iload_n 3, 1) := by decide +kernel
theorem dX6_change_17 : decode cX6_change 17 = .ok (.iload_n 2, 1) := by decide +kernel
theorem dX6_change_18 : decode cX6_change 18 = .ok (.iadd, 1) := by decide +kernel
theorem dX6_change_19 : decode cX6_change 19 = .ok (.invokestatic 204, 3) := by decide +kernel
theorem dX6_change_22 : decode cX6_change 22 = .ok (.invokevirtual 140, 3) := by decide +kernel
theorem dX6_change_25 : decode cX6_change 25 = .ok (.ireturn, 1) := by decide +kernel
theorem dX6_ask_0 : decode cX6_ask 0 = .ok (.iload_n 1, 1) := by decide +kernel
theorem dX6_ask_1 : decode cX6_ask 1 = .ok (.ifCond .ne 11, 3) := by decide +kernel
theorem dX6_ask_4 : decode cX6_ask 4 = .ok (.aload_n 0, 1) := by decide +kernel
theorem dX6_ask_5 : decode cX6_ask 5 = .ok (.getfield 12, 3) := by decide +kernel
theorem dX6_ask_8 : decode cX6_ask 8 = .ok (.invokevirtual 171, 3) := by decide +kernel
theorem dX6_ask_11 : decode cX6_ask 11 = .ok (.ireturn, 1) := by decide +kernel
theorem dX6_ask_12 : decode cX6_ask 12 = .ok (.iload_n 1, 1) := by decide +kernel
theorem dX6_ask_13 : decode cX6_ask 13 = .ok (.bipush 16, 2) := by decide +kernel
theorem dX6_ask_15 : decode cX6_ask 15 = .ok (.if_icmp .ge 17, 3) := by decide +kernel
theorem dX6_ask_18 : decode cX6_ask 18 = .ok (.aload_n 0, 1) := by decide +kernel
theorem dX6_ask_19 : decode cX6_ask 19 = .ok (.getfield 12, 3) := by decide +kernel
theorem dX6_ask_22 : decode cX6_ask 22 = .ok (.invokevirtual 92, 3) := by decide +kernel
theorem dX6_ask_25 : decode cX6_ask 25 = .ok (.iload_n 1, 1) := by decide +kernel
theorem dX6_ask_26 : decode cX6_ask 26 = .ok (.invokevirtual 207, 3) := by decide +kernel
theorem dX6_ask_29 : decode cX6_ask 29 = .ok (.goto 15, 3) := by decide +kernel
theorem dX6_ask_32 : decode cX6_ask 32 = .ok (.aload_n 0, 1) := by decide +kernel
theorem dX6_ask_33 : decode cX6_ask 33 = .ok (.getfield 36, 3) := by decide +kernel
theorem dX6_ask_36 : decode cX6_ask 36 = .ok (.aload_n 0, 1) := by decide +kernel
theorem dX6_ask_37 : decode cX6_ask 37 = .ok (.iload_n 1, 1) := by decide +kernel
theorem dX6_ask_38 : decode cX6_ask 38 = .ok (.invokevirtual 210, 3) := by decide +kernel
theorem dX6_ask_41 : decode cX6_ask 41 = .ok (.invokevirtual 150, 3) := by decide +kernel
theorem dX6_ask_44 : decode cX6_ask 44 = .ok (.ireturn, 1) := by decide +kernel
theorem dX6_set_0 : decode cX6_set 0 = .ok (.iload_n 1, 1) := by decide +kernel
theorem dX6_set_1 : decode cX6_set 1 = .ok (.ifCond .ne 12, 3) := by decide +kernel
theorem dX6_set_4 : decode cX6_set 4 = .ok (.aload_n 0, 1) := by decide +kernel
theorem dX6_set_5 : decode cX6_set 5 = .ok (.getfield 12, 3) := by decide +kernel
theorem dX6_set_8 : decode cX6_set 8 = .ok (.iload_n 2, 1) := by decide +kernel
theorem dX6_set_9 : decode cX6_set 9 = .ok (.invokevirtual 168, 3) := by decide +kernel
theorem dX6_set_12 : decode cX6_set 12 = .ok (.ireturn, 1) := by decide +kernel
theorem dX6_set_13 : decode cX6_set 13 = .ok (.iload_n 1, 1) := by decide +kernel
theorem dX6_set_14 : decode cX6_set 14 = .ok (.bipush 16, 2) := by decide +kernel
theorem dX6_set_16 : decode cX6_set 16 = .ok (.if_icmp .ge 16, 3) := by decide +kernel
theorem dX6_set_19 : decode cX6_set 19 = .ok (.aload_n 0, 1) := by decide +kernel
theorem dX6_set_20 : decode cX6_set 20 = .ok (.getfield 12, 3) := by decide +kernel
theorem dX6_set_23 : decode cX6_set 23 = .ok (.invokevirtual 92, 3) := by decide +kernel
theorem dX6_set_26 : decode cX6_set 26 = .ok (.iload_n 1, 1) := by decide +kernel
theorem dX6_set_27 : decode cX6_set 27 = .ok (.iload_n 2, 1) := by decide +kernel
theorem dX6_set_28 : decode cX6_set 28 = .ok (.invokevirtual 213, 3) := by decide +kernel
theorem dX6_set_31 : decode cX6_set 31 = .ok (.ireturn, 1) := by decide +kernel
theorem dX6_set_32 : decode cX6_set 32 = .ok (.aload_n 0, 1) := by decide +kernel
theorem dX6_set_33 : decode cX6_set 33 = .ok (.getfield 36, 3) := by decide +kernel
theorem dX6_set_36 : decode cX6_set 36 = .ok (.aload_n 0, 1) := by decide +kernel
theorem dX6_set_37 : decode cX6_set 37 = .ok (.iload_n 1, 1) := by decide +kernel
theorem dX6_set_38 : decode cX6_set 38 = .ok (.invokevirtual 210, 3) := by decide +kernel
theorem dX6_set_41 : decode cX6_set 41 = .ok (.iload_n 2, 1) := by decide +kernel
theorem dX6_set_42 : decode cX6_set 42 = .ok (.iconst 0, 1) := by decide +kernel
theorem dX6_set_43 : decode cX6_set 43 = .ok (.invokevirtual 158, 3) := by decide +kernel
theorem dX6_set_46 : decode cX6_set 46 = .ok (.ireturn, 1) := by decide +kernel
theorem dX6_placeOfGlobal_0 : decode cX6_placeOfGlobal 0 = .ok (.aload_n 0, 1) := by decide +kernel
theorem dX6_placeOfGlobal_1 : decode cX6_placeOfGlobal 1 = .ok (.getfield 216, 3) := by decide +kernel
theorem dX6_placeOfGlobal_4 : decode cX6_placeOfGlobal 4 = .ok (.iconst 2, 1) := by decide +kernel
theorem dX6_placeOfGlobal_5 : decode cX6_placeOfGlobal 5 = .ok (.iload_n 1, 1) := by decide +kernel
theorem dX6_placeOfGlobal_6 : decode cX6_placeOfGlobal 6 = .ok (.bipush 16, 2) := by decide +kernel
theorem dX6_placeOfGlobal_8 : decode cX6_placeOfGlobal 8 = .ok (.isub, 1) := by decide +kernel
theorem dX6_placeOfGlobal_9 : decode cX6_placeOfGlobal 9 = .ok (.imul, 1) := by decide +kernel
theorem dX6_placeOfGlobal_10 : decode cX6_placeOfGlobal 10 = .ok (.iadd, 1) := by decide +kernel
theorem dX6_placeOfGlobal_11 : decode cX6_placeOfGlobal 11 = .ok (.ireturn, 1) := by decide +kernel
theorem dX6_enter_0 : decode cX6_enter 0 = .ok (.aload_n 0, 1) := by decide +kernel
theorem dX6_enter_1 : decode cX6_enter 1 = .ok (.getfield 44, 3) := by decide +kernel
theorem dX6_enter_4 : decode cX6_enter 4 = .ok (.iload_n 1, 1) := by decide +kernel
theorem dX6_enter_5 : decode cX6_enter 5 = .ok (.invokevirtual 219, 3) := by decide +kernel
theorem dX6_enter_8 : decode cX6_enter 8 = .ok (.ifCond .ne 6, 3) := by decide +kernel
theorem dX6_enter_11 : decode cX6_enter 11 = .ok (.bipush (-19), 2) := by decide +kernel
theorem dX6_enter_13 : decode cX6_enter 13 = .ok (.ireturn, 1) := by decide +kernel
theorem dX6_enter_14 : decode cX6_enter 14 = .ok (.aload_n 0, 1) := by decide +kernel
theorem dX6_enter_15 : decode cX6_enter 15 = .ok (.getfield 12, 3) := by decide +kernel
theorem dX6_enter_18 : decode cX6_enter 18 = .ok (.invokevirtual 223, 3) := by decide +kernel
theorem dX6_enter_21 : decode cX6_enter 21 = .ok (.astore 5, 2) := by decide +kernel
theorem dX6_enter_23 : decode cX6_enter 23 = .ok (.aload 5, 2) := by decide +kernel
theorem dX6_enter_25 : decode cX6_enter 25 = .ok (.ifnonnull 6, 3) := by decide +kernel
theorem dX6_enter_28 : decode cX6_enter 28 = .ok (.bipush (-16), 2) := by decide +kernel
theorem dX6_enter_30 : decode cX6_enter 30 = .ok (.ireturn, 1) := by decide +kernel
theorem dX6_enter_31 : decode cX6_enter 31 = .ok (.aload 5, 2) := by decide +kernel
theorem dX6_enter_33 : decode cX6_enter 33 = .ok (.iload_n 1, 1) := by decide +kernel
theorem dX6_enter_34 : decode cX6_enter 34 = .ok (.putfield 225, 3) := by decide +kernel
theorem dX6_enter_37 : decode cX6_enter 37 = .ok (.aload 5, 2) := by decide +kernel
theorem dX6_enter_39 : decode cX6_enter 39 = .ok (.aload_n 0, 1) := by decide +kernel
theorem dX6_enter_40 : decode cX6_enter 40 = .ok (.getfield 44, 3) := by decide +kernel
theorem dX6_enter_43 : decode cX6_enter 43 = .ok (.getfield 228, 3) := by decide +kernel
theorem dX6_enter_46 : decode cX6_enter 46 = .ok (.iload_n 1, 1) := by decide +kernel
theorem dX6_enter_47 : decode cX6_enter 47 = .ok (.iaload, 1) := by decide +kernel
theorem dX6_enter_48 : decode cX6_enter 48 = .ok (.putfield 96, 3) := by decide +kernel
theorem dX6_enter_51 : decode cX6_enter 51 = .ok (.aload 5, 2) := by decide +kernel
theorem dX6_enter_53 : decode cX6_enter 53 = .ok (.aload_n 0, 1) := by decide +kernel
theorem dX6_enter_54 : decode cX6_enter 54 = .ok (.getfield 44, 3) := by decide +kernel
theorem dX6_enter_57 : decode cX6_enter 57 = .ok (.getfield 231, 3) := by decide +kernel
theorem dX6_enter_60 : decode cX6_enter 60 = .ok (.iload_n 1, 1) := by decide +kernel
theorem dX6_enter_61 : decode cX6_enter 61 = .ok (.iaload, 1) := by decide +kernel
theorem dX6_enter_62 : decode cX6_enter 62 = .ok (.putfield 234, 3) := by decide +kernel
theorem dX6_enter_65 : decode cX6_enter 65 = .ok (.aload 5, 2) := by decide +kernel
theorem dX6_enter_67 : decode cX6_enter 67 = .ok (.iload 4, 2) := by decide +kernel
theorem dX6_enter_69 : decode cX6_enter 69 = .ok (.putfield 237, 3) := by decide +kernel
theorem dX6_enter_72 : decode cX6_enter 72 = .ok (.aload 5, 2) := by decide +kernel
theorem dX6_enter_74 : decode cX6_enter 74 = .ok (.iconst 1, 1) := by decide +kernel
theorem dX6_enter_75 : decode cX6_enter 75 = .ok (.iload_n 2, 1) := by decide +kernel
theorem dX6_enter_76 : decode cX6_enter 76 = .ok (.invokevirtual 213, 3) := by decide +kernel
theorem dX6_enter_79 : decode cX6_enter 79 = .ok (.pop, 1) := by decide +kernel
theorem dX6_enter_80 : decode cX6_enter 80 = .ok (.aload 5, 2) := by decide +kernel
theorem dX6_enter_82 : decode cX6_enter 82 = .ok (.iconst 2, 1) := by decide +kernel
theorem dX6_enter_83 : decode cX6_enter 83 = .ok (.iload_n 3, 1) := by decide +kernel
theorem dX6_enter_84 : decode cX6_enter 84 = .ok (.invokevirtual 213, 3) := by decide +kernel
theorem dX6_enter_87 : decode cX6_enter 87 = .ok (.pop, 1) := by decide +kernel
theorem dX6_enter_88 : decode cX6_enter 88 = .ok (.iconst 1, 1) := by decide +kernel
theorem dX6_enter_89 : decode cX6_enter 89 = .ok (.ireturn, 1) := by decide +kernel
theorem dX6_giveBack_0 : decode cX6_giveBack 0 = .ok (.aload_n 0, 1) := by decide +kernel
theorem dX6_giveBack_1 : decode cX6_giveBack 1 = .ok (.getfield 12, 3) := by decide +kernel
theorem dX6_giveBack_4 : decode cX6_giveBack 4 = .ok (.invokevirtual 92, 3) := by decide +kernel
theorem dX6_giveBack_7 : decode cX6_giveBack 7 = .ok (.getfield 237, 3) := by decide +kernel
theorem dX6_giveBack_10 : decode cX6_giveBack 10 = .ok (.istore_n 2, 1) := by decide +kernel
theorem dX6_giveBack_11 : decode cX6_giveBack 11 = .ok (.aload_n 0, 1) := by decide +kernel
theorem dX6_giveBack_12 : decode cX6_giveBack 12 = .ok (.aload_n 0, 1) := by decide +kernel
theorem dX6_giveBack_13 : decode cX6_giveBack 13 = .ok (.getfield 12, 3) := by decide +kernel
theorem dX6_giveBack_16 : decode cX6_giveBack 16 = .ok (.getfield 175, 3) := by decide +kernel
theorem dX6_giveBack_19 : decode cX6_giveBack 19 = .ok (.iconst 1, 1) := by decide +kernel
theorem dX6_giveBack_20 : decode cX6_giveBack 20 = .ok (.isub, 1) := by decide +kernel
theorem dX6_giveBack_21 : decode cX6_giveBack 21 = .ok (.invokevirtual 85, 3) := by decide +kernel
theorem dX6_giveBack_24 : decode cX6_giveBack 24 = .ok (.aload_n 0, 1) := by decide +kernel
theorem dX6_giveBack_25 : decode cX6_giveBack 25 = .ok (.getfield 12, 3) := by decide +kernel
theorem dX6_giveBack_28 : decode cX6_giveBack 28 = .ok (.getfield 175, 3) := by decide +kernel
theorem dX6_giveBack_31 : decode cX6_giveBack 31 = .ok (.ifCond .ne 14, 3) := by decide +kernel
theorem dX6_giveBack_34 : decode cX6_giveBack 34 = .ok (.aload_n 0, 1) := by decide +kernel
theorem dX6_giveBack_35 : decode cX6_giveBack 35 = .ok (.iload_n 1, 1) := by decide +kernel
theorem dX6_giveBack_36 : decode cX6_giveBack 36 = .ok (.putfield 69, 3) := by decide +kernel
theorem dX6_giveBack_39 : decode cX6_giveBack 39 = .ok (.aload_n 0, 1) := by decide +kernel
theorem dX6_giveBack_40 : decode cX6_giveBack 40 = .ok (.iconst 0, 1) := by decide +kernel
theorem dX6_giveBack_41 : decode cX6_giveBack 41 = .ok (.invokevirtual 201, 3) := by decide +kernel
theorem dX6_giveBack_44 : decode cX6_giveBack 44 = .ok (.ireturn, 1) := by decide +kernel
theorem dX6_giveBack_45 : decode cX6_giveBack 45 = .ok (.aload_n 0, 1) := by decide +kernel
theorem dX6_giveBack_46 : decode cX6_giveBack 46 = .ok (.iload_n 2, 1) := by decide +kernel
theorem dX6_giveBack_47 : decode cX6_giveBack 47 = .ok (.iload_n 1, 1) := by decide +kernel
theorem dX6_giveBack_48 : decode cX6_giveBack 48 = .ok (.invokevirtual 140, 3) := by decide +kernel
theorem dX6_giveBack_51 : decode cX6_giveBack 51 = .ok (.ireturn, 1) := by decide +kernel
theorem dX6_leaveDownTo_0 : decode cX6_leaveDownTo 0 = .ok (.aload_n 0, 1) := by decide +kernel
theorem dX6_leaveDownTo_1 : decode cX6_leaveDownTo 1 = .ok (.getfield 12, 3) := by decide +kernel
theorem dX6_leaveDownTo_4 : decode cX6_leaveDownTo 4 = .ok (.getfield 175, 3) := by decide +kernel
theorem dX6_leaveDownTo_7 : decode cX6_leaveDownTo 7 = .ok (.istore_n 2, 1) := by decide +kernel
theorem dX6_leaveDownTo_8 : decode cX6_leaveDownTo 8 = .ok (.iload_n 2, 1) := by decide +kernel
theorem dX6_leaveDownTo_9 : decode cX6_leaveDownTo 9 = .ok (.iload_n 1, 1) := by decide +kernel
theorem dX6_leaveDownTo_10 : decode cX6_leaveDownTo 10 = .ok (.if_icmp .le 39, 3) := by decide +kernel
theorem dX6_leaveDownTo_13 : decode cX6_leaveDownTo 13 = .ok (.iload_n 2, 1) := by decide +kernel
theorem dX6_leaveDownTo_14 : decode cX6_leaveDownTo 14 = .ok (.ifCond .le 35, 3) := by decide +kernel
theorem dX6_leaveDownTo_17 : decode cX6_leaveDownTo 17 = .ok (.aload_n 0, 1) := by decide +kernel
theorem dX6_leaveDownTo_18 : decode cX6_leaveDownTo 18 = .ok (.getfield 25, 3) := by decide +kernel
theorem dX6_leaveDownTo_21 : decode cX6_leaveDownTo 21 = .ok (.aload_n 0, 1) := by decide +kernel
theorem dX6_leaveDownTo_22 : decode cX6_leaveDownTo 22 = .ok (.getfield 12, 3) := by decide +kernel
theorem dX6_leaveDownTo_25 : decode cX6_leaveDownTo 25 = .ok (.invokevirtual 92, 3) := by decide +kernel
theorem dX6_leaveDownTo_28 : decode cX6_leaveDownTo 28 = .ok (.getfield 225, 3) := by decide +kernel
theorem dX6_leaveDownTo_31 : decode cX6_leaveDownTo 31 = .ok (.dup2, 1) := by decide +kernel
theorem dX6_leaveDownTo_32 : decode cX6_leaveDownTo 32 = .ok (.iaload, 1) := by decide +kernel
theorem dX6_leaveDownTo_33 : decode cX6_leaveDownTo 33 = .ok (.iconst 1, 1) := by decide +kernel
theorem dX6_leaveDownTo_34 : decode cX6_leaveDownTo 34 = .ok (.iadd, 1) := by decide +kernel
theorem dX6_leaveDownTo_35 : decode cX6_leaveDownTo 35 = .ok (.iastore, 1) := by decide +kernel
theorem dX6_leaveDownTo_36 : decode cX6_leaveDownTo 36 = .ok (.aload_n 0, 1) := by decide +kernel
theorem dX6_leaveDownTo_37 : decode cX6_leaveDownTo 37 = .ok (.getfield 12, 3) := by decide +kernel
theorem dX6_leaveDownTo_40 : decode cX6_leaveDownTo 40 = .ok (.invokevirtual 238, 3) := by decide +kernel
theorem dX6_leaveDownTo_43 : decode cX6_leaveDownTo 43 = .ok (.iinc 2 (-1), 3) := by decide +kernel
theorem dX6_leaveDownTo_46 : decode cX6_leaveDownTo 46 = .ok (.goto (-38), 3) := by decide +kernel
theorem dX6_leaveDownTo_49 : decode cX6_leaveDownTo 49 = .ok (.return_, 1) := by decide +kernel
theorem dX6_throwTo_0 : decode cX6_throwTo 0 = .ok (.iload_n 1, 1) := by decide +kernel
theorem dX6_throwTo_1 : decode cX6_throwTo 1 = .ok (.aload_n 0, 1) := by decide +kernel
theorem dX6_throwTo_2 : decode cX6_throwTo 2 = .ok (.getfield 12, 3) := by decide +kernel
theorem dX6_throwTo_5 : decode cX6_throwTo 5 = .ok (.getfield 175, 3) := by decide +kernel
theorem dX6_throwTo_8 : decode cX6_throwTo 8 = .ok (.if_icmp .lt 6, 3) := by decide +kernel
theorem dX6_throwTo_11 : decode cX6_throwTo 11 = .ok (.bipush (-18), 2) := by decide +kernel
theorem dX6_throwTo_13 : decode cX6_throwTo 13 = .ok (.ireturn, 1) := by decide +kernel
theorem dX6_throwTo_14 : decode cX6_throwTo 14 = .ok (.aload_n 0, 1) := by decide +kernel
theorem dX6_throwTo_15 : decode cX6_throwTo 15 = .ok (.getfield 66, 3) := by decide +kernel
theorem dX6_throwTo_18 : decode cX6_throwTo 18 = .ok (.bipush 12, 2) := by decide +kernel
theorem dX6_throwTo_20 : decode cX6_throwTo 20 = .ok (.if_icmp .lt 9, 3) := by decide +kernel
theorem dX6_throwTo_23 : decode cX6_throwTo 23 = .ok (.aload_n 0, 1) := by decide +kernel
theorem dX6_throwTo_24 : decode cX6_throwTo 24 = .ok (.iconst 3, 1) := by decide +kernel
theorem dX6_throwTo_25 : decode cX6_throwTo 25 = .ok (.invokevirtual 201, 3) := by decide +kernel
theorem dX6_throwTo_28 : decode cX6_throwTo 28 = .ok (.ireturn, 1) := by decide +kernel
theorem dX6_throwTo_29 : decode cX6_throwTo 29 = .ok (.aload_n 0, 1) := by decide +kernel
theorem dX6_throwTo_30 : decode cX6_throwTo 30 = .ok (.dup, 1) := by decide +kernel
theorem dX6_throwTo_31 : decode cX6_throwTo 31 = .ok (.getfield 66, 3) := by decide +kernel
theorem dX6_throwTo_34 : decode cX6_throwTo 34 = .ok (.iconst 1, 1) := by decide +kernel
theorem dX6_throwTo_35 : decode cX6_throwTo 35 = .ok (.iadd, 1) := by decide +kernel
theorem dX6_throwTo_36 : decode cX6_throwTo 36 = .ok (.putfield 66, 3) := by decide +kernel
theorem dX6_throwTo_39 : decode cX6_throwTo 39 = .ok (.aload_n 0, 1) := by decide +kernel
theorem dX6_throwTo_40 : decode cX6_throwTo 40 = .ok (.dup, 1) := by decide +kernel
theorem dX6_throwTo_41 : decode cX6_throwTo 41 = .ok (.getfield 78, 3) := by decide +kernel
theorem dX6_throwTo_44 : decode cX6_throwTo 44 = .ok (.iconst 1, 1) := by decide +kernel
theorem dX6_throwTo_45 : decode cX6_throwTo 45 = .ok (.iadd, 1) := by decide +kernel
theorem dX6_throwTo_46 : decode cX6_throwTo 46 = .ok (.putfield 78, 3) := by decide +kernel
theorem dX6_throwTo_49 : decode cX6_throwTo 49 = .ok (.aload_n 0, 1) := by decide +kernel
theorem dX6_throwTo_50 : decode cX6_throwTo 50 = .ok (.iload_n 1, 1) := by decide +kernel
theorem dX6_throwTo_51 : decode cX6_throwTo 51 = .ok (.iconst 1, 1) := by decide +kernel
theorem dX6_throwTo_52 : decode cX6_throwTo 52 = .ok (.iadd, 1) := by decide +kernel
theorem dX6_throwTo_53 : decode cX6_throwTo 53 = .ok (.invokevirtual 85, 3) := by decide +kernel
theorem dX6_throwTo_56 : decode cX6_throwTo 56 = .ok (.aload_n 0, 1) := by decide +kernel
theorem dX6_throwTo_57 : decode cX6_throwTo 57 = .ok (.iload_n 2, 1) := by decide +kernel
theorem dX6_throwTo_58 : decode cX6_throwTo 58 = .ok (.invokevirtual 165, 3) := by decide +kernel
theorem dX6_throwTo_61 : decode cX6_throwTo 61 = .ok (.ireturn, 1) := by decide +kernel
theorem dX6_raise_0 : decode cX6_raise 0 = .ok (.aload_n 0, 1) := by decide +kernel
theorem dX6_raise_1 : decode cX6_raise 1 = .ok (.getfield 66, 3) := by decide +kernel
theorem dX6_raise_4 : decode cX6_raise 4 = .ok (.bipush 12, 2) := by decide +kernel
theorem dX6_raise_6 : decode cX6_raise 6 = .ok (.if_icmp .lt 9, 3) := by decide +kernel
theorem dX6_raise_9 : decode cX6_raise 9 = .ok (.aload_n 0, 1) := by decide +kernel
theorem dX6_raise_10 : decode cX6_raise 10 = .ok (.iconst 3, 1) := by decide +kernel
theorem dX6_raise_11 : decode cX6_raise 11 = .ok (.invokevirtual 201, 3) := by decide +kernel
theorem dX6_raise_14 : decode cX6_raise 14 = .ok (.ireturn, 1) := by decide +kernel
theorem dX6_raise_15 : decode cX6_raise 15 = .ok (.aload_n 0, 1) := by decide +kernel
theorem dX6_raise_16 : decode cX6_raise 16 = .ok (.dup, 1) := by decide +kernel
theorem dX6_raise_17 : decode cX6_raise 17 = .ok (.getfield 66, 3) := by decide +kernel
theorem dX6_raise_20 : decode cX6_raise 20 = .ok (.iconst 1, 1) := by decide +kernel
theorem dX6_raise_21 : decode cX6_raise 21 = .ok (.iadd, 1) := by decide +kernel
theorem dX6_raise_22 : decode cX6_raise 22 = .ok (.putfield 66, 3) := by decide +kernel
theorem dX6_raise_25 : decode cX6_raise 25 = .ok (.aload_n 0, 1) := by decide +kernel
theorem dX6_raise_26 : decode cX6_raise 26 = .ok (.getfield 12, 3) := by decide +kernel
theorem dX6_raise_29 : decode cX6_raise 29 = .ok (.getfield 175, 3) := by decide +kernel
theorem dX6_raise_32 : decode cX6_raise 32 = .ok (.istore_n 2, 1) := by decide +kernel
theorem dX6_raise_33 : decode cX6_raise 33 = .ok (.iload_n 2, 1) := by decide +kernel
theorem dX6_raise_34 : decode cX6_raise 34 = .ok (.ifCond .le 37, 3) := by decide +kernel
theorem dX6_raise_37 : decode cX6_raise 37 = .ok (.aload_n 0, 1) := by decide +kernel
theorem dX6_raise_38 : decode cX6_raise 38 = .ok (.getfield 44, 3) := by decide +kernel
theorem dX6_raise_41 : decode cX6_raise 41 = .ok (.getfield 241, 3) := by decide +kernel
theorem dX6_raise_44 : decode cX6_raise 44 = .ok (.aload_n 0, 1) := by decide +kernel
theorem dX6_raise_45 : decode cX6_raise 45 = .ok (.getfield 12, 3) := by decide +kernel
theorem dX6_raise_48 : decode cX6_raise 48 = .ok (.invokevirtual 92, 3) := by decide +kernel
theorem dX6_raise_51 : decode cX6_raise 51 = .ok (.getfield 225, 3) := by decide +kernel
theorem dX6_raise_54 : decode cX6_raise 54 = .ok (.baload, 1) := by decide +kernel
theorem dX6_raise_55 : decode cX6_raise 55 = .ok (.ifCond .ne 16, 3) := by decide +kernel
theorem dX6_raise_58 : decode cX6_raise 58 = .ok (.aload_n 0, 1) := by decide +kernel
theorem dX6_raise_59 : decode cX6_raise 59 = .ok (.iload_n 2, 1) := by decide +kernel
theorem dX6_raise_60 : decode cX6_raise 60 = .ok (.iconst 1, 1) := by decide +kernel
theorem dX6_raise_61 : decode cX6_raise 61 = .ok (.isub, 1) := by decide +kernel
theorem dX6_raise_62 : decode cX6_raise 62 = .ok (.invokevirtual 85, 3) := by decide +kernel
theorem dX6_raise_65 : decode cX6_raise 65 = .ok (.iinc 2 (-1), 3) := by decide +kernel
theorem dX6_raise_68 : decode cX6_raise 68 = .ok (.goto (-35), 3) := by decide +kernel
theorem dX6_raise_71 : decode cX6_raise 71 = .ok (.aload_n 0, 1) := by decide +kernel
theorem dX6_raise_72 : decode cX6_raise 72 = .ok (.getfield 12, 3) := by decide +kernel
theorem dX6_raise_75 : decode cX6_raise 75 = .ok (.getfield 175, 3) := by decide +kernel
theorem dX6_raise_78 : decode cX6_raise 78 = .ok (.ifCond .ne 17, 3) := by decide +kernel
theorem dX6_raise_81 : decode cX6_raise 81 = .ok (.aload_n 0, 1) := by decide +kernel
theorem dX6_raise_82 : decode cX6_raise 82 = .ok (.bipush (-10), 2) := by decide +kernel
theorem dX6_raise_84 : decode cX6_raise 84 = .ok (.iload_n 1, 1) := by decide +kernel
theorem dX6_raise_85 : decode cX6_raise 85 = .ok (.isub, 1) := by decide +kernel
theorem dX6_raise_86 : decode cX6_raise 86 = .ok (.putfield 72, 3) := by decide +kernel
theorem dX6_raise_89 : decode cX6_raise 89 = .ok (.aload_n 0, 1) := by decide +kernel
theorem dX6_raise_90 : decode cX6_raise 90 = .ok (.iconst 2, 1) := by decide +kernel
theorem dX6_raise_91 : decode cX6_raise 91 = .ok (.invokevirtual 201, 3) := by decide +kernel
theorem dX6_raise_94 : decode cX6_raise 94 = .ok (.ireturn, 1) := by decide +kernel
theorem dX6_raise_95 : decode cX6_raise 95 = .ok (.aload_n 0, 1) := by decide +kernel
theorem dX6_raise_96 : decode cX6_raise 96 = .ok (.dup, 1) := by decide +kernel
theorem dX6_raise_97 : decode cX6_raise 97 = .ok (.getfield 75, 3) := by decide +kernel
theorem dX6_raise_100 : decode cX6_raise 100 = .ok (.iconst 1, 1) := by decide +kernel
theorem dX6_raise_101 : decode cX6_raise 101 = .ok (.iadd, 1) := by decide +kernel
theorem dX6_raise_102 : decode cX6_raise 102 = .ok (.putfield 75, 3) := by decide +kernel
theorem dX6_raise_105 : decode cX6_raise 105 = .ok (.aload_n 0, 1) := by decide +kernel
theorem dX6_raise_106 : decode cX6_raise 106 = .ok (.bipush (-10), 2) := by decide +kernel
theorem dX6_raise_108 : decode cX6_raise 108 = .ok (.iload_n 1, 1) := by decide +kernel
theorem dX6_raise_109 : decode cX6_raise 109 = .ok (.isub, 1) := by decide +kernel
theorem dX6_raise_110 : decode cX6_raise 110 = .ok (.invokevirtual 165, 3) := by decide +kernel
theorem dX6_raise_113 : decode cX6_raise 113 = .ok (.ireturn, 1) := by decide +kernel
theorem dX6_printRows_0 : decode cX6_printRows 0 = .ok (.iload_n 1, 1) := by decide +kernel
theorem dX6_printRows_1 : decode cX6_printRows 1 = .ok (.istore 4, 2) := by decide +kernel
theorem dX6_printRows_3 : decode cX6_printRows 3 = .ok (.iconst 0, 1) := by decide +kernel
theorem dX6_printRows_4 : decode cX6_printRows 4 = .ok (.istore 5, 2) := by decide +kernel
theorem dX6_printRows_6 : decode cX6_printRows 6 = .ok (.iload 5, 2) := by decide +kernel
theorem dX6_printRows_8 : decode cX6_printRows 8 = .ok (.iload_n 3, 1) := by decide +kernel
theorem dX6_printRows_9 : decode cX6_printRows 9 = .ok (.if_icmp .ge 87, 3) := by decide +kernel
theorem dX6_printRows_12 : decode cX6_printRows 12 = .ok (.iload 5, 2) := by decide +kernel
theorem dX6_printRows_14 : decode cX6_printRows 14 = .ok (.ifCond .le 18, 3) := by decide +kernel
theorem dX6_printRows_17 : decode cX6_printRows 17 = .ok (.aload_n 0, 1) := by decide +kernel
theorem dX6_printRows_18 : decode cX6_printRows 18 = .ok (.getfield 21, 3) := by decide +kernel
theorem dX6_printRows_21 : decode cX6_printRows 21 = .ok (.bipush 10, 2) := by decide +kernel
theorem dX6_printRows_23 : decode cX6_printRows 23 = .ok (.invokevirtual 195, 3) := by decide +kernel
theorem dX6_printRows_26 : decode cX6_printRows 26 = .ok (.ifCond .ge 6, 3) := by decide +kernel
theorem dX6_printRows_29 : decode cX6_printRows 29 = .ok (.bipush (-21), 2) := by decide +kernel
theorem dX6_printRows_31 : decode cX6_printRows 31 = .ok (.ireturn, 1) := by decide +kernel
theorem dX6_printRows_32 : decode cX6_printRows 32 = .ok (.iconst 0, 1) := by decide +kernel
theorem dX6_printRows_33 : decode cX6_printRows 33 = .ok (.istore 6, 2) := by decide +kernel
theorem dX6_printRows_35 : decode cX6_printRows 35 = .ok (.iload 6, 2) := by decide +kernel
theorem dX6_printRows_37 : decode cX6_printRows 37 = .ok (.iload_n 2, 1) := by decide +kernel
theorem dX6_printRows_38 : decode cX6_printRows 38 = .ok (.if_icmp .ge 52, 3) := by decide +kernel
theorem dX6_printRows_41 : decode cX6_printRows 41 = .ok (.aload_n 0, 1) := by decide +kernel
theorem dX6_printRows_42 : decode cX6_printRows 42 = .ok (.getfield 36, 3) := by decide +kernel
theorem dX6_printRows_45 : decode cX6_printRows 45 = .ok (.iload 4, 2) := by decide +kernel
theorem dX6_printRows_47 : decode cX6_printRows 47 = .ok (.invokevirtual 155, 3) := by decide +kernel
theorem dX6_printRows_50 : decode cX6_printRows 50 = .ok (.istore 7, 2) := by decide +kernel
theorem dX6_printRows_52 : decode cX6_printRows 52 = .ok (.iload 7, 2) := by decide +kernel
theorem dX6_printRows_54 : decode cX6_printRows 54 = .ok (.ifCond .ge 8, 3) := by decide +kernel
theorem dX6_printRows_57 : decode cX6_printRows 57 = .ok (.iload 7, 2) := by decide +kernel
theorem dX6_printRows_59 : decode cX6_printRows 59 = .ok (.goto 12, 3) := by decide +kernel
theorem dX6_printRows_62 : decode cX6_printRows 62 = .ok (.aload_n 0, 1) := by decide +kernel
theorem dX6_printRows_63 : decode cX6_printRows 63 = .ok (.getfield 21, 3) := by decide +kernel
theorem dX6_printRows_66 : decode cX6_printRows 66 = .ok (.iload 7, 2) := by decide +kernel
theorem dX6_printRows_68 : decode cX6_printRows 68 = .ok (.invokevirtual 195, 3) := by decide +kernel
theorem dX6_printRows_71 : decode cX6_printRows 71 = .ok (.istore 8, 2) := by decide +kernel
theorem dX6_printRows_73 : decode cX6_printRows 73 = .ok (.iload 8, 2) := by decide +kernel
theorem dX6_printRows_75 : decode cX6_printRows 75 = .ok (.ifCond .ge 6, 3) := by decide +kernel
theorem dX6_printRows_78 : decode cX6_printRows 78 = .ok (.iload 8, 2) := by decide +kernel
theorem dX6_printRows_80 : decode cX6_printRows 80 = .ok (.ireturn, 1) := by decide +kernel
theorem dX6_printRows_81 : decode cX6_printRows 81 = .ok (.iinc 4 1, 3) := by decide +kernel
theorem dX6_printRows_84 : decode cX6_printRows 84 = .ok (.iinc 6 1, 3) := by decide +kernel
theorem dX6_printRows_87 : decode cX6_printRows 87 = .ok (.goto (-52), 3) := by decide +kernel
theorem dX6_printRows_90 : decode cX6_printRows 90 = .ok (.iinc 5 1, 3) := by decide +kernel
theorem dX6_printRows_93 : decode cX6_printRows 93 = .ok (.goto (-87), 3) := by decide +kernel
theorem dX6_printRows_96 : decode cX6_printRows 96 = .ok (.iconst 1, 1) := by decide +kernel
theorem dX6_printRows_97 : decode cX6_printRows 97 = .ok (.ireturn, 1) := by decide +kernel
theorem dX7_init_0 : decode cX7_init 0 = .ok (.aload_n 0, 1) := by decide +kernel
theorem dX7_init_1 : decode cX7_init 1 = .ok (.invokespecial 3, 3) := by decide +kernel
theorem dX7_init_4 : decode cX7_init 4 = .ok (.aload_n 0, 1) := by decide +kernel
theorem dX7_init_5 : decode cX7_init 5 = .ok (.new 9, 3) := by decide +kernel
theorem dX7_init_8 : decode cX7_init 8 = .ok (.dup, 1) := by decide +kernel
theorem dX7_init_9 : decode cX7_init 9 = .ok (.invokespecial 11, 3) := by decide +kernel
theorem dX7_init_12 : decode cX7_init 12 = .ok (.putfield 12, 3) := by decide +kernel
theorem dX7_init_15 : decode cX7_init 15 = .ok (.aload_n 0, 1) := by decide +kernel
theorem dX7_init_16 : decode cX7_init 16 = .ok (.new 16, 3) := by decide +kernel
theorem dX7_init_19 : decode cX7_init 19 = .ok (.dup, 1) := by decide +kernel
theorem dX7_init_20 : decode cX7_init 20 = .ok (.invokespecial 18, 3) := by decide +kernel
theorem dX7_init_23 : decode cX7_init 23 = .ok (.putfield 19, 3) := by decide +kernel
theorem dX7_init_26 : decode cX7_init 26 = .ok (.aload_n 0, 1) := by decide +kernel
theorem dX7_init_27 : decode cX7_init 27 = .ok (.new 23, 3) := by decide +kernel
theorem dX7_init_30 : decode cX7_init 30 = .ok (.dup, 1) := by decide +kernel
theorem dX7_init_31 : decode cX7_init 31 = .ok (.invokespecial 25, 3) := by decide +kernel
theorem dX7_init_34 : decode cX7_init 34 = .ok (.putfield 26, 3) := by decide +kernel
theorem dX7_init_37 : decode cX7_init 37 = .ok (.aload_n 0, 1) := by decide +kernel
theorem dX7_init_38 : decode cX7_init 38 = .ok (.new 30, 3) := by decide +kernel
theorem dX7_init_41 : decode cX7_init 41 = .ok (.dup, 1) := by decide +kernel
theorem dX7_init_42 : decode cX7_init 42 = .ok (.aload_n 0, 1) := by decide +kernel
theorem dX7_init_43 : decode cX7_init 43 = .ok (.getfield 12, 3) := by decide +kernel
theorem dX7_init_46 : decode cX7_init 46 = .ok (.aload_n 0, 1) := by decide +kernel
theorem dX7_init_47 : decode cX7_init 47 = .ok (.getfield 19, 3) := by decide +kernel
theorem dX7_init_50 : decode cX7_init 50 = .ok (.aload_n 0, 1) := by decide +kernel
theorem dX7_init_51 : decode cX7_init 51 = .ok (.getfield 26, 3) := by decide +kernel
theorem dX7_init_54 : decode cX7_init 54 = .ok (.invokespecial 32, 3) := by decide +kernel
theorem dX7_init_57 : decode cX7_init 57 = .ok (.putfield 35, 3) := by decide +kernel
theorem dX7_init_60 : decode cX7_init 60 = .ok (.return_, 1) := by decide +kernel
theorem dX7_size_0 : decode cX7_size 0 = .ok (.iload_n 1, 1) := by decide +kernel
theorem dX7_size_1 : decode cX7_size 1 = .ok (.ifCond .lt 19, 3) := by decide +kernel
theorem dX7_size_4 : decode cX7_size 4 = .ok (.iload_n 1, 1) := by decide +kernel
theorem dX7_size_5 : decode cX7_size 5 = .ok (.sipush 2000, 3) := by decide +kernel
theorem dX7_size_8 : decode cX7_size 8 = .ok (.if_icmp .gt 12, 3) := by decide +kernel
theorem dX7_size_11 : decode cX7_size 11 = .ok (.iload_n 2, 1) := by decide +kernel
theorem dX7_size_12 : decode cX7_size 12 = .ok (.ifCond .lt 8, 3) := by decide +kernel
theorem dX7_size_15 : decode cX7_size 15 = .ok (.iload_n 2, 1) := by decide +kernel
theorem dX7_size_16 : decode cX7_size 16 = .ok (.iload_n 1, 1) := by decide +kernel
theorem dX7_size_17 : decode cX7_size 17 = .ok (.if_icmp .le 6, 3) := by decide +kernel
theorem dX7_size_20 : decode cX7_size 20 = .ok (.bipush (-2), 2) := by decide +kernel
theorem dX7_size_22 : decode cX7_size 22 = .ok (.ireturn, 1) := by decide +kernel
theorem dX7_size_23 : decode cX7_size 23 = .ok (.aload_n 0, 1) := by decide +kernel
theorem dX7_size_24 : decode cX7_size 24 = .ok (.getfield 12, 3) := by decide +kernel
theorem dX7_size_27 : decode cX7_size 27 = .ok (.iload_n 1, 1) := by decide +kernel
theorem dX7_size_28 : decode cX7_size 28 = .ok (.iload_n 2, 1) := by decide +kernel
theorem dX7_size_29 : decode cX7_size 29 = .ok (.invokevirtual 39, 3) := by decide +kernel
theorem dX7_size_32 : decode cX7_size 32 = .ok (.iconst 1, 1) := by decide +kernel
theorem dX7_size_33 : decode cX7_size 33 = .ok (.ireturn, 1) := by decide +kernel
theorem dX7_get_0 : decode cX7_get 0 = .ok (.iload_n 2, 1) := by decide +kernel
theorem dX7_get_1 : decode cX7_get 1 = .ok (.ifCond .eq 14, 3) := by decide +kernel
theorem dX7_get_4 : decode cX7_get 4 = .ok (.aload_n 0, 1) := by decide +kernel
theorem dX7_get_5 : decode cX7_get 5 = .ok (.getfield 12, 3) := by decide +kernel
theorem dX7_get_8 : decode cX7_get 8 = .ok (.iload_n 1, 1) := by decide +kernel
theorem dX7_get_9 : decode cX7_get 9 = .ok (.invokevirtual 43, 3) := by decide +kernel
theorem dX7_get_12 : decode cX7_get 12 = .ok (.goto 11, 3) := by decide +kernel
theorem dX7_get_15 : decode cX7_get 15 = .ok (.aload_n 0, 1) := by decide +kernel
theorem dX7_get_16 : decode cX7_get 16 = .ok (.getfield 12, 3) := by decide +kernel
theorem dX7_get_19 : decode cX7_get 19 = .ok (.iload_n 1, 1) := by decide +kernel
theorem dX7_get_20 : decode cX7_get 20 = .ok (.invokevirtual 47, 3) := by decide +kernel
theorem dX7_get_23 : decode cX7_get 23 = .ok (.ireturn, 1) := by decide +kernel
theorem dX7_put_0 : decode cX7_put 0 = .ok (.iload_n 3, 1) := by decide +kernel
theorem dX7_put_1 : decode cX7_put 1 = .ok (.ifCond .eq 17, 3) := by decide +kernel
theorem dX7_put_4 : decode cX7_put 4 = .ok (.aload_n 0, 1) := by decide +kernel
theorem dX7_put_5 : decode cX7_put 5 = .ok (.getfield 12, 3) := by decide +kernel
theorem dX7_put_8 : decode cX7_put 8 = .ok (.iload_n 1, 1) := by decide +kernel
theorem dX7_put_9 : decode cX7_put 9 = .ok (.iload_n 2, 1) := by decide +kernel
theorem dX7_put_10 : decode cX7_put 10 = .ok (.iload 4, 2) := by decide +kernel
theorem dX7_put_12 : decode cX7_put 12 = .ok (.invokevirtual 50, 3) := by decide +kernel
theorem dX7_put_15 : decode cX7_put 15 = .ok (.goto 14, 3) := by decide +kernel
theorem dX7_put_18 : decode cX7_put 18 = .ok (.aload_n 0, 1) := by decide +kernel
theorem dX7_put_19 : decode cX7_put 19 = .ok (.getfield 12, 3) := by decide +kernel
theorem dX7_put_22 : decode cX7_put 22 = .ok (.iload_n 1, 1) := by decide +kernel
theorem dX7_put_23 : decode cX7_put 23 = .ok (.iload_n 2, 1) := by decide +kernel
theorem dX7_put_24 : decode cX7_put 24 = .ok (.iload 4, 2) := by decide +kernel
theorem dX7_put_26 : decode cX7_put 26 = .ok (.invokevirtual 54, 3) := by decide +kernel
theorem dX7_put_29 : decode cX7_put 29 = .ok (.ireturn, 1) := by decide +kernel
theorem dX7_work_0 : decode cX7_work 0 = .ok (.iload_n 1, 1) := by decide +kernel
theorem dX7_work_1 : decode cX7_work 1 = .ok (.ifCond .lt 9, 3) := by decide +kernel
theorem dX7_work_4 : decode cX7_work 4 = .ok (.iload_n 1, 1) := by decide +kernel
theorem dX7_work_5 : decode cX7_work 5 = .ok (.bipush 9, 2) := by decide +kernel
theorem dX7_work_7 : decode cX7_work 7 = .ok (.if_icmp .le 13, 3) := by decide +kernel
theorem dX7_work_10 : decode cX7_work 10 = .ok (.new 57, 3) := by decide +kernel
theorem dX7_work_13 : decode cX7_work 13 = .ok (.dup, 1) := by decide +kernel
theorem dX7_work_14 : decode cX7_work 14 = .ok (.ldc 59, 2) := by decide +kernel
theorem dX7_work_16 : decode cX7_work 16 = .ok (.invokespecial 61, 3) := by decide +kernel
theorem dX7_work_19 : decode cX7_work 19 = .ok (.athrow, 1) := by decide +kernel
theorem dX7_work_20 : decode cX7_work 20 = .ok (.iload_n 1, 1) := by decide +kernel
theorem dX7_work_21 : decode cX7_work 21 = .ok (.iload_n 2, 1) := by decide +kernel
theorem dX7_work_22 : decode cX7_work 22 = .ok (.invokestatic 64, 3) := by decide +kernel
theorem dX7_work_25 : decode cX7_work 25 = .ok (.iload_n 3, 1) := by decide +kernel
theorem dX7_work_26 : decode cX7_work 26 = .ok (.invokestatic 64, 3) := by decide +kernel
theorem dX7_work_29 : decode cX7_work 29 = .ok (.invokestatic 67, 3) := by decide +kernel
theorem dX7_work_32 : decode cX7_work 32 = .ok (.istore 4, 2) := by decide +kernel
theorem dX7_work_34 : decode cX7_work 34 = .ok (.iload 4, 2) := by decide +kernel
theorem dX7_work_36 : decode cX7_work 36 = .ok (.ifCond .ge 13, 3) := by decide +kernel
theorem dX7_work_39 : decode cX7_work 39 = .ok (.new 71, 3) := by decide +kernel
theorem dX7_work_42 : decode cX7_work 42 = .ok (.dup, 1) := by decide +kernel
theorem dX7_work_43 : decode cX7_work 43 = .ok (.ldc 73, 2) := by decide +kernel
theorem dX7_work_45 : decode cX7_work 45 = .ok (.invokespecial 75, 3) := by decide +kernel
theorem dX7_work_48 : decode cX7_work 48 = .ok (.athrow, 1) := by decide +kernel
theorem dX7_work_49 : decode cX7_work 49 = .ok (.iload 4, 2) := by decide +kernel
theorem dX7_work_51 : decode cX7_work 51 = .ok (.invokestatic 64, 3) := by decide +kernel
theorem dX7_work_54 : decode cX7_work 54 = .ok (.ireturn, 1) := by decide +kernel
theorem dX7_copy_0 : decode cX7_copy 0 = .ok (.aload_n 0, 1) := by decide +kernel
theorem dX7_copy_1 : decode cX7_copy 1 = .ok (.getfield 12, 3) := by decide +kernel
theorem dX7_copy_4 : decode cX7_copy 4 = .ok (.iload_n 1, 1) := by decide +kernel
theorem dX7_copy_5 : decode cX7_copy 5 = .ok (.invokestatic 76, 3) := by decide +kernel
theorem dX7_copy_8 : decode cX7_copy 8 = .ok (.iload_n 2, 1) := by decide +kernel
theorem dX7_copy_9 : decode cX7_copy 9 = .ok (.invokestatic 76, 3) := by decide +kernel
theorem dX7_copy_12 : decode cX7_copy 12 = .ok (.iload_n 3, 1) := by decide +kernel
theorem dX7_copy_13 : decode cX7_copy 13 = .ok (.invokestatic 64, 3) := by decide +kernel
theorem dX7_copy_16 : decode cX7_copy 16 = .ok (.invokevirtual 79, 3) := by decide +kernel
theorem dX7_copy_19 : decode cX7_copy 19 = .ok (.ireturn, 1) := by decide +kernel
theorem dX7_look_0 : decode cX7_look 0 = .ok (.iload 4, 2) := by decide +kernel
theorem dX7_look_2 : decode cX7_look 2 = .ok (.sipush 255, 3) := by decide +kernel
theorem dX7_look_5 : decode cX7_look 5 = .ok (.invokestatic 82, 3) := by decide +kernel
theorem dX7_look_8 : decode cX7_look 8 = .ok (.ifCond .ne 6, 3) := by decide +kernel
theorem dX7_look_11 : decode cX7_look 11 = .ok (.bipush (-2), 2) := by decide +kernel
theorem dX7_look_13 : decode cX7_look 13 = .ok (.ireturn, 1) := by decide +kernel
theorem dX7_look_14 : decode cX7_look 14 = .ok (.aload_n 0, 1) := by decide +kernel
theorem dX7_look_15 : decode cX7_look 15 = .ok (.getfield 12, 3) := by decide +kernel
theorem dX7_look_18 : decode cX7_look 18 = .ok (.iload_n 1, 1) := by decide +kernel
theorem dX7_look_19 : decode cX7_look 19 = .ok (.invokestatic 76, 3) := by decide +kernel
theorem dX7_look_22 : decode cX7_look 22 = .ok (.iload_n 2, 1) := by decide +kernel
theorem dX7_look_23 : decode cX7_look 23 = .ok (.invokestatic 76, 3) := by decide +kernel
theorem dX7_look_26 : decode cX7_look 26 = .ok (.iload_n 3, 1) := by decide +kernel
theorem dX7_look_27 : decode cX7_look 27 = .ok (.invokestatic 64, 3) := by decide +kernel
theorem dX7_look_30 : decode cX7_look 30 = .ok (.iload 4, 2) := by decide +kernel
theorem dX7_look_32 : decode cX7_look 32 = .ok (.invokevirtual 86, 3) := by decide +kernel
theorem dX7_look_35 : decode cX7_look 35 = .ok (.ireturn, 1) := by decide +kernel
theorem dX7_random_0 : decode cX7_random 0 = .ok (.aload_n 0, 1) := by decide +kernel
theorem dX7_random_1 : decode cX7_random 1 = .ok (.getfield 19, 3) := by decide +kernel
theorem dX7_random_4 : decode cX7_random 4 = .ok (.iload_n 1, 1) := by decide +kernel
theorem dX7_random_5 : decode cX7_random 5 = .ok (.invokestatic 64, 3) := by decide +kernel
theorem dX7_random_8 : decode cX7_random 8 = .ok (.invokevirtual 90, 3) := by decide +kernel
theorem dX7_random_11 : decode cX7_random 11 = .ok (.ireturn, 1) := by decide +kernel
theorem dX7_tape_0 : decode cX7_tape 0 = .ok (.iload_n 1, 1) := by decide +kernel
theorem dX7_tape_1 : decode cX7_tape 1 = .ok (.ldc 93, 2) := by decide +kernel
theorem dX7_tape_3 : decode cX7_tape 3 = .ok (.invokestatic 82, 3) := by decide +kernel
theorem dX7_tape_6 : decode cX7_tape 6 = .ok (.ifCond .ne 6, 3) := by decide +kernel
theorem dX7_tape_9 : decode cX7_tape 9 = .ok (.bipush (-2), 2) := by decide +kernel
theorem dX7_tape_11 : decode cX7_tape 11 = .ok (.ireturn, 1) := by decide +kernel
theorem dX7_tape_12 : decode cX7_tape 12 = .ok (.aload_n 0, 1) := by decide +kernel
theorem dX7_tape_13 : decode cX7_tape 13 = .ok (.getfield 19, 3) := by decide +kernel
theorem dX7_tape_16 : decode cX7_tape 16 = .ok (.iload_n 1, 1) := by decide +kernel
theorem dX7_tape_17 : decode cX7_tape 17 = .ok (.invokevirtual 94, 3) := by decide +kernel
theorem dX7_tape_20 : decode cX7_tape 20 = .ok (.ireturn, 1) := by decide +kernel
theorem dX7_globe_0 : decode cX7_globe 0 = .ok (.iload_n 1, 1) := by decide +kernel
theorem dX7_globe_1 : decode cX7_globe 1 = .ok (.ldc 93, 2) := by decide +kernel
theorem dX7_globe_3 : decode cX7_globe 3 = .ok (.invokestatic 82, 3) := by decide +kernel
theorem dX7_globe_6 : decode cX7_globe 6 = .ok (.ifCond .ne 6, 3) := by decide +kernel
theorem dX7_globe_9 : decode cX7_globe 9 = .ok (.bipush (-2), 2) := by decide +kernel
theorem dX7_globe_11 : decode cX7_globe 11 = .ok (.ireturn, 1) := by decide +kernel
theorem dX7_globe_12 : decode cX7_globe 12 = .ok (.aload_n 0, 1) := by decide +kernel
theorem dX7_globe_13 : decode cX7_globe 13 = .ok (.getfield 35, 3) := by decide +kernel
theorem dX7_globe_16 : decode cX7_globe 16 = .ok (.getfield 97, 3) := by decide +kernel
theorem dX7_globe_19 : decode cX7_globe 19 = .ok (.istore_n 2, 1) := by decide +kernel
theorem dX7_globe_20 : decode cX7_globe 20 = .ok (.aload_n 0, 1) := by decide +kernel
theorem dX7_globe_21 : decode cX7_globe 21 = .ok (.getfield 35, 3) := by decide +kernel
theorem dX7_globe_24 : decode cX7_globe 24 = .ok (.iload_n 1, 1) := by decide +kernel
theorem dX7_globe_25 : decode cX7_globe 25 = .ok (.putfield 97, 3) := by decide +kernel
theorem dX7_globe_28 : decode cX7_globe 28 = .ok (.iload_n 2, 1) := by decide +kernel
theorem dX7_globe_29 : decode cX7_globe 29 = .ok (.ireturn, 1) := by decide +kernel
theorem dX7_form_0 : decode cX7_form 0 = .ok (.iload_n 1, 1) := by decide +kernel
theorem dX7_form_1 : decode cX7_form 1 = .ok (.sipush 255, 3) := by decide +kernel
theorem dX7_form_4 : decode cX7_form 4 = .ok (.invokestatic 82, 3) := by decide +kernel
theorem dX7_form_7 : decode cX7_form 7 = .ok (.ifCond .ne 6, 3) := by decide +kernel
theorem dX7_form_10 : decode cX7_form 10 = .ok (.bipush (-2), 2) := by decide +kernel
theorem dX7_form_12 : decode cX7_form 12 = .ok (.ireturn, 1) := by decide +kernel
theorem dX7_form_13 : decode cX7_form 13 = .ok (.aload_n 0, 1) := by decide +kernel
theorem dX7_form_14 : decode cX7_form 14 = .ok (.getfield 35, 3) := by decide +kernel
theorem dX7_form_17 : decode cX7_form 17 = .ok (.getfield 101, 3) := by decide +kernel
theorem dX7_form_20 : decode cX7_form 20 = .ok (.istore_n 2, 1) := by decide +kernel
theorem dX7_form_21 : decode cX7_form 21 = .ok (.aload_n 0, 1) := by decide +kernel
theorem dX7_form_22 : decode cX7_form 22 = .ok (.getfield 35, 3) := by decide +kernel
theorem dX7_form_25 : decode cX7_form 25 = .ok (.iload_n 1, 1) := by decide +kernel
theorem dX7_form_26 : decode cX7_form 26 = .ok (.putfield 101, 3) := by decide +kernel
theorem dX7_form_29 : decode cX7_form 29 = .ok (.iload_n 2, 1) := by decide +kernel
theorem dX7_form_30 : decode cX7_form 30 = .ok (.ireturn, 1) := by decide +kernel
theorem dX7_instruction_0 : decode cX7_instruction 0 = .ok (.iload_n 2, 1) := by decide +kernel
theorem dX7_instruction_1 : decode cX7_instruction 1 = .ok (.invokestatic 104, 3) := by decide +kernel
theorem dX7_instruction_4 : decode cX7_instruction 4 = .ok (.ifCond .eq 18, 3) := by decide +kernel
theorem dX7_instruction_7 : decode cX7_instruction 7 = .ok (.iload_n 3, 1) := by decide +kernel
theorem dX7_instruction_8 : decode cX7_instruction 8 = .ok (.invokestatic 104, 3) := by decide +kernel
theorem dX7_instruction_11 : decode cX7_instruction 11 = .ok (.ifCond .eq 11, 3) := by decide +kernel
theorem dX7_instruction_14 : decode cX7_instruction 14 = .ok (.iload 4, 2) := by decide +kernel
theorem dX7_instruction_16 : decode cX7_instruction 16 = .ok (.invokestatic 104, 3) := by decide +kernel
theorem dX7_instruction_19 : decode cX7_instruction 19 = .ok (.ifCond .ne 6, 3) := by decide +kernel
theorem dX7_instruction_22 : decode cX7_instruction 22 = .ok (.bipush (-2), 2) := by decide +kernel
theorem dX7_instruction_24 : decode cX7_instruction 24 = .ok (.ireturn, 1) := by decide +kernel
theorem dX7_instruction_25 : decode cX7_instruction 25 = .ok (.iload 5, 2) := by decide +kernel
theorem dX7_instruction_27 : decode cX7_instruction 27 = .ok (.iconst (-1), 1) := by decide +kernel
theorem dX7_instruction_28 : decode cX7_instruction 28 = .ok (.if_icmp .lt 11, 3) := by decide +kernel
theorem dX7_instruction_31 : decode cX7_instruction 31 = .ok (.iload 5, 2) := by decide +kernel
theorem dX7_instruction_33 : decode cX7_instruction 33 = .ok (.sipush 255, 3) := by decide +kernel
theorem dX7_instruction_36 : decode cX7_instruction 36 = .ok (.if_icmp .le 6, 3) := by decide +kernel
theorem dX7_instruction_39 : decode cX7_instruction 39 = .ok (.bipush (-2), 2) := by decide +kernel
theorem dX7_instruction_41 : decode cX7_instruction 41 = .ok (.ireturn, 1) := by decide +kernel
theorem dX7_instruction_42 : decode cX7_instruction 42 = .ok (.aload_n 0, 1) := by decide +kernel
theorem dX7_instruction_43 : decode cX7_instruction 43 = .ok (.getfield 26, 3) := by decide +kernel
theorem dX7_instruction_46 : decode cX7_instruction 46 = .ok (.iload_n 1, 1) := by decide +kernel
theorem dX7_instruction_47 : decode cX7_instruction 47 = .ok (.iload_n 2, 1) := by decide +kernel
theorem dX7_instruction_48 : decode cX7_instruction 48 = .ok (.iload_n 3, 1) := by decide +kernel
theorem dX7_instruction_49 : decode cX7_instruction 49 = .ok (.iload 4, 2) := by decide +kernel
theorem dX7_instruction_51 : decode cX7_instruction 51 = .ok (.iload 5, 2) := by decide +kernel
theorem dX7_instruction_53 : decode cX7_instruction 53 = .ok (.invokevirtual 108, 3) := by decide +kernel
theorem dX7_instruction_56 : decode cX7_instruction 56 = .ok (.ireturn, 1) := by decide +kernel
theorem dX7_routine_0 : decode cX7_routine 0 = .ok (.iload_n 1, 1) := by decide +kernel
theorem dX7_routine_1 : decode cX7_routine 1 = .ok (.bipush 7, 2) := by decide +kernel
theorem dX7_routine_3 : decode cX7_routine 3 = .ok (.invokestatic 82, 3) := by decide +kernel
theorem dX7_routine_6 : decode cX7_routine 6 = .ok (.ifCond .ne 5, 3) := by decide +kernel
theorem dX7_routine_9 : decode cX7_routine 9 = .ok (.iconst (-1), 1) := by decide +kernel
theorem dX7_routine_10 : decode cX7_routine 10 = .ok (.ireturn, 1) := by decide +kernel
theorem dX7_routine_11 : decode cX7_routine 11 = .ok (.iload_n 2, 1) := by decide +kernel
theorem dX7_routine_12 : decode cX7_routine 12 = .ok (.bipush 99, 2) := by decide +kernel
theorem dX7_routine_14 : decode cX7_routine 14 = .ok (.invokestatic 82, 3) := by decide +kernel
theorem dX7_routine_17 : decode cX7_routine 17 = .ok (.ifCond .eq 12, 3) := by decide +kernel
theorem dX7_routine_20 : decode cX7_routine 20 = .ok (.iload_n 3, 1) := by decide +kernel
theorem dX7_routine_21 : decode cX7_routine 21 = .ok (.bipush 15, 2) := by decide +kernel
theorem dX7_routine_23 : decode cX7_routine 23 = .ok (.invokestatic 82, 3) := by decide +kernel
theorem dX7_routine_26 : decode cX7_routine 26 = .ok (.ifCond .ne 6, 3) := by decide +kernel
theorem dX7_routine_29 : decode cX7_routine 29 = .ok (.bipush (-2), 2) := by decide +kernel
theorem dX7_routine_31 : decode cX7_routine 31 = .ok (.ireturn, 1) := by decide +kernel
theorem dX7_routine_32 : decode cX7_routine 32 = .ok (.aload_n 0, 1) := by decide +kernel
theorem dX7_routine_33 : decode cX7_routine 33 = .ok (.getfield 26, 3) := by decide +kernel
theorem dX7_routine_36 : decode cX7_routine 36 = .ok (.iload_n 1, 1) := by decide +kernel
theorem dX7_routine_37 : decode cX7_routine 37 = .ok (.iload_n 2, 1) := by decide +kernel
theorem dX7_routine_38 : decode cX7_routine 38 = .ok (.iload_n 3, 1) := by decide +kernel
theorem dX7_routine_39 : decode cX7_routine 39 = .ok (.iload 4, 2) := by decide +kernel
theorem dX7_routine_41 : decode cX7_routine 41 = .ok (.invokevirtual 112, 3) := by decide +kernel
theorem dX7_routine_44 : decode cX7_routine 44 = .ok (.iconst 1, 1) := by decide +kernel
theorem dX7_routine_45 : decode cX7_routine 45 = .ok (.ireturn, 1) := by decide +kernel
theorem dX7_clear_0 : decode cX7_clear 0 = .ok (.aload_n 0, 1) := by decide +kernel
theorem dX7_clear_1 : decode cX7_clear 1 = .ok (.getfield 26, 3) := by decide +kernel
theorem dX7_clear_4 : decode cX7_clear 4 = .ok (.invokevirtual 116, 3) := by decide +kernel
theorem dX7_clear_7 : decode cX7_clear 7 = .ok (.ireturn, 1) := by decide +kernel
theorem dX7_run_0 : decode cX7_run 0 = .ok (.aload_n 0, 1) := by decide +kernel
theorem dX7_run_1 : decode cX7_run 1 = .ok (.getfield 26, 3) := by decide +kernel
theorem dX7_run_4 : decode cX7_run 4 = .ok (.iload_n 1, 1) := by decide +kernel
theorem dX7_run_5 : decode cX7_run 5 = .ok (.invokevirtual 120, 3) := by decide +kernel
theorem dX7_run_8 : decode cX7_run 8 = .ok (.ifCond .ne 5, 3) := by decide +kernel
theorem dX7_run_11 : decode cX7_run 11 = .ok (.iconst (-1), 1) := by decide +kernel
theorem dX7_run_12 : decode cX7_run 12 = .ok (.ireturn, 1) := by decide +kernel
theorem dX7_run_13 : decode cX7_run 13 = .ok (.aload_n 0, 1) := by decide +kernel
theorem dX7_run_14 : decode cX7_run 14 = .ok (.getfield 35, 3) := by decide +kernel
theorem dX7_run_17 : decode cX7_run 17 = .ok (.iload_n 1, 1) := by decide +kernel
theorem dX7_run_18 : decode cX7_run 18 = .ok (.iload_n 2, 1) := by decide +kernel
theorem dX7_run_19 : decode cX7_run 19 = .ok (.invokestatic 76, 3) := by decide +kernel
theorem dX7_run_22 : decode cX7_run 22 = .ok (.iload_n 3, 1) := by decide +kernel
theorem dX7_run_23 : decode cX7_run 23 = .ok (.invokestatic 76, 3) := by decide +kernel
theorem dX7_run_26 : decode cX7_run 26 = .ok (.invokevirtual 123, 3) := by decide +kernel
theorem dX7_run_29 : decode cX7_run 29 = .ok (.iconst 0, 1) := by decide +kernel
theorem dX7_run_30 : decode cX7_run 30 = .ok (.istore 4, 2) := by decide +kernel
theorem dX7_run_32 : decode cX7_run 32 = .ok (.iload 4, 2) := by decide +kernel
theorem dX7_run_34 : decode cX7_run 34 = .ok (.sipush 300, 3) := by decide +kernel
theorem dX7_run_37 : decode cX7_run 37 = .ok (.if_icmp .ge 33, 3) := by decide +kernel
theorem dX7_run_40 : decode cX7_run 40 = .ok (.aload_n 0, 1) := by decide +kernel
theorem dX7_run_41 : decode cX7_run 41 = .ok (.getfield 35, 3) := by decide +kernel
theorem dX7_run_44 : decode cX7_run 44 = .ok (.invokevirtual 126, 3) := by decide +kernel
theorem dX7_run_47 : decode cX7_run 47 = .ok (.ifCond .eq 23, 3) := by decide +kernel
theorem dX7_run_50 : decode cX7_run 50 = .ok (.aload_n 0, 1) := by decide +kernel
theorem dX7_run_51 : decode cX7_run 51 = .ok (.getfield 35, 3) := by decide +kernel
theorem dX7_run_54 : decode cX7_run 54 = .ok (.aload_n 0, 1) := by decide +kernel
theorem dX7_run_55 : decode cX7_run 55 = .ok (.getfield 35, 3) := by decide +kernel
theorem dX7_run_58 : decode cX7_run 58 = .ok (.invokevirtual 130, 3) := by decide +kernel
theorem dX7_run_61 : decode cX7_run 61 = .ok (.invokevirtual 133, 3) := by decide +kernel
theorem dX7_run_64 : decode cX7_run 64 = .ok (.iinc 4 1, 3) := by decide +kernel
theorem dX7_run_67 : decode cX7_run 67 = .ok (.goto (-35), 3) := by decide +kernel
theorem dX7_run_70 : decode cX7_run 70 = .ok (.aload_n 0, 1) := by decide +kernel
theorem dX7_run_71 : decode cX7_run 71 = .ok (.getfield 35, 3) := by decide +kernel
theorem dX7_run_74 : decode cX7_run 74 = .ok (.invokevirtual 137, 3) := by decide +kernel
theorem dX7_run_77 : decode cX7_run 77 = .ok (.ireturn, 1) := by decide +kernel
theorem dX7_told_0 : decode cX7_told 0 = .ok (.iload_n 1, 1) := by decide +kernel
theorem dX7_told_1 : decode cX7_told 1 = .ok (.tableswitch 132 0 8 #[51, 59, 70, 78, 86, 94, 105, 116, 124], 51) := by decide +kernel
theorem dX7_told_52 : decode cX7_told 52 = .ok (.aload_n 0, 1) := by decide +kernel
theorem dX7_told_53 : decode cX7_told 53 = .ok (.getfield 35, 3) := by decide +kernel
theorem dX7_told_56 : decode cX7_told 56 = .ok (.getfield 140, 3) := by decide +kernel
theorem dX7_told_59 : decode cX7_told 59 = .ok (.ireturn, 1) := by decide +kernel
theorem dX7_told_60 : decode cX7_told 60 = .ok (.aload_n 0, 1) := by decide +kernel
theorem dX7_told_61 : decode cX7_told 61 = .ok (.getfield 35, 3) := by decide +kernel
theorem dX7_told_64 : decode cX7_told 64 = .ok (.getfield 143, 3) := by decide +kernel
theorem dX7_told_67 : decode cX7_told 67 = .ok (.invokestatic 64, 3) := by decide +kernel
theorem dX7_told_70 : decode cX7_told 70 = .ok (.ireturn, 1) := by decide +kernel
theorem dX7_told_71 : decode cX7_told 71 = .ok (.aload_n 0, 1) := by decide +kernel
theorem dX7_told_72 : decode cX7_told 72 = .ok (.getfield 35, 3) := by decide +kernel
theorem dX7_told_75 : decode cX7_told 75 = .ok (.getfield 146, 3) := by decide +kernel
theorem dX7_told_78 : decode cX7_told 78 = .ok (.ireturn, 1) := by decide +kernel
theorem dX7_told_79 : decode cX7_told 79 = .ok (.aload_n 0, 1) := by decide +kernel
theorem dX7_told_80 : decode cX7_told 80 = .ok (.getfield 35, 3) := by decide +kernel
theorem dX7_told_83 : decode cX7_told 83 = .ok (.getfield 149, 3) := by decide +kernel
theorem dX7_told_86 : decode cX7_told 86 = .ok (.ireturn, 1) := by decide +kernel
theorem dX7_told_87 : decode cX7_told 87 = .ok (.aload_n 0, 1) := by decide +kernel
theorem dX7_told_88 : decode cX7_told 88 = .ok (.getfield 35, 3) := by decide +kernel
theorem dX7_told_91 : decode cX7_told 91 = .ok (.getfield 152, 3) := by decide +kernel
theorem dX7_told_94 : decode cX7_told 94 = .ok (.ireturn, 1) := by decide +kernel
theorem dX7_told_95 : decode cX7_told 95 = .ok (.aload_n 0, 1) := by decide +kernel
theorem dX7_told_96 : decode cX7_told 96 = .ok (.getfield 35, 3) := by decide +kernel
theorem dX7_told_99 : decode cX7_told 99 = .ok (.getfield 155, 3) := by decide +kernel
theorem dX7_told_102 : decode cX7_told 102 = .ok (.getfield 159, 3) := by decide +kernel
theorem dX7_told_105 : decode cX7_told 105 = .ok (.ireturn, 1) := by decide +kernel
theorem dX7_told_106 : decode cX7_told 106 = .ok (.aload_n 0, 1) := by decide +kernel
theorem dX7_told_107 : decode cX7_told 107 = .ok (.getfield 35, 3) := by decide +kernel
theorem dX7_told_110 : decode cX7_told 110 = .ok (.getfield 164, 3) := by decide +kernel
theorem dX7_told_113 : decode cX7_told 113 = .ok (.getfield 168, 3) := by decide +kernel
theorem dX7_told_116 : decode cX7_told 116 = .ok (.ireturn, 1) := by decide +kernel
theorem dX7_told_117 : decode cX7_told 117 = .ok (.aload_n 0, 1) := by decide +kernel
theorem dX7_told_118 : decode cX7_told 118 = .ok (.getfield 26, 3) := by decide +kernel
theorem dX7_told_121 : decode cX7_told 121 = .ok (.getfield 173, 3) := by decide +kernel
theorem dX7_told_124 : decode cX7_told 124 = .ok (.ireturn, 1) := by decide +kernel
theorem dX7_told_125 : decode cX7_told 125 = .ok (.aload_n 0, 1) := by decide +kernel
theorem dX7_told_126 : decode cX7_told 126 = .ok (.getfield 19, 3) := by decide +kernel
theorem dX7_told_129 : decode cX7_told 129 = .ok (.getfield 174, 3) := by decide +kernel
theorem dX7_told_132 : decode cX7_told 132 = .ok (.ireturn, 1) := by decide +kernel
theorem dX7_told_133 : decode cX7_told 133 = .ok (.bipush (-2), 2) := by decide +kernel
theorem dX7_told_135 : decode cX7_told 135 = .ok (.ireturn, 1) := by decide +kernel
theorem dX7_printed_0 : decode cX7_printed 0 = .ok (.aload_n 0, 1) := by decide +kernel
theorem dX7_printed_1 : decode cX7_printed 1 = .ok (.getfield 35, 3) := by decide +kernel
theorem dX7_printed_4 : decode cX7_printed 4 = .ok (.getfield 155, 3) := by decide +kernel
theorem dX7_printed_7 : decode cX7_printed 7 = .ok (.iload_n 1, 1) := by decide +kernel
theorem dX7_printed_8 : decode cX7_printed 8 = .ok (.invokevirtual 177, 3) := by decide +kernel
theorem dX7_printed_11 : decode cX7_printed 11 = .ok (.istore_n 2, 1) := by decide +kernel
theorem dX7_printed_12 : decode cX7_printed 12 = .ok (.iload_n 2, 1) := by decide +kernel
theorem dX7_printed_13 : decode cX7_printed 13 = .ok (.ifCond .ge 13, 3) := by decide +kernel
theorem dX7_printed_16 : decode cX7_printed 16 = .ok (.new 180, 3) := by decide +kernel
theorem dX7_printed_19 : decode cX7_printed 19 = .ok (.dup, 1) := by decide +kernel
theorem dX7_printed_20 : decode cX7_printed 20 = .ok (.ldc 182, 2) := by decide +kernel
theorem dX7_printed_22 : decode cX7_printed 22 = .ok (.invokespecial 184, 3) := by decide +kernel
theorem dX7_printed_25 : decode cX7_printed 25 = .ok (.athrow, 1) := by decide +kernel
theorem dX7_printed_26 : decode cX7_printed 26 = .ok (.iload_n 2, 1) := by decide +kernel
theorem dX7_printed_27 : decode cX7_printed 27 = .ok (.ireturn, 1) := by decide +kernel
theorem dX7_left_0 : decode cX7_left 0 = .ok (.iload_n 1, 1) := by decide +kernel
theorem dX7_left_1 : decode cX7_left 1 = .ok (.bipush 7, 2) := by decide +kernel
theorem dX7_left_3 : decode cX7_left 3 = .ok (.invokestatic 82, 3) := by decide +kernel
theorem dX7_left_6 : decode cX7_left 6 = .ok (.ifCond .eq 15, 3) := by decide +kernel
theorem dX7_left_9 : decode cX7_left 9 = .ok (.aload_n 0, 1) := by decide +kernel
theorem dX7_left_10 : decode cX7_left 10 = .ok (.getfield 35, 3) := by decide +kernel
theorem dX7_left_13 : decode cX7_left 13 = .ok (.getfield 185, 3) := by decide +kernel
theorem dX7_left_16 : decode cX7_left 16 = .ok (.iload_n 1, 1) := by decide +kernel
theorem dX7_left_17 : decode cX7_left 17 = .ok (.iaload, 1) := by decide +kernel
theorem dX7_left_18 : decode cX7_left 18 = .ok (.goto 4, 3) := by decide +kernel
theorem dX7_left_21 : decode cX7_left 21 = .ok (.iconst (-1), 1) := by decide +kernel
theorem dX7_left_22 : decode cX7_left 22 = .ok (.ireturn, 1) := by decide +kernel
theorem dX7_isWithin_0 : decode cX7_isWithin 0 = .ok (.iload_n 0, 1) := by decide +kernel
theorem dX7_isWithin_1 : decode cX7_isWithin 1 = .ok (.ifCond .lt 12, 3) := by decide +kernel
theorem dX7_isWithin_4 : decode cX7_isWithin 4 = .ok (.iload_n 0, 1) := by decide +kernel
theorem dX7_isWithin_5 : decode cX7_isWithin 5 = .ok (.iload_n 1, 1) := by decide +kernel
theorem dX7_isWithin_6 : decode cX7_isWithin 6 = .ok (.if_icmp .gt 7, 3) := by decide +kernel
theorem dX7_isWithin_9 : decode cX7_isWithin 9 = .ok (.iconst 1, 1) := by decide +kernel
theorem dX7_isWithin_10 : decode cX7_isWithin 10 = .ok (.goto 4, 3) := by decide +kernel
theorem dX7_isWithin_13 : decode cX7_isWithin 13 = .ok (.iconst 0, 1) := by decide +kernel
theorem dX7_isWithin_14 : decode cX7_isWithin 14 = .ok (.ireturn, 1) := by decide +kernel
theorem dX7_isOperand_0 : decode cX7_isOperand 0 = .ok (.iload_n 0, 1) := by decide +kernel
theorem dX7_isOperand_1 : decode cX7_isOperand 1 = .ok (.sipush (-256), 3) := by decide +kernel
theorem dX7_isOperand_4 : decode cX7_isOperand 4 = .ok (.if_icmp .lt 13, 3) := by decide +kernel
theorem dX7_isOperand_7 : decode cX7_isOperand 7 = .ok (.iload_n 0, 1) := by decide +kernel
theorem dX7_isOperand_8 : decode cX7_isOperand 8 = .ok (.ldc 93, 2) := by decide +kernel
theorem dX7_isOperand_10 : decode cX7_isOperand 10 = .ok (.if_icmp .gt 7, 3) := by decide +kernel
theorem dX7_isOperand_13 : decode cX7_isOperand 13 = .ok (.iconst 1, 1) := by decide +kernel
theorem dX7_isOperand_14 : decode cX7_isOperand 14 = .ok (.goto 4, 3) := by decide +kernel
theorem dX7_isOperand_17 : decode cX7_isOperand 17 = .ok (.iconst 0, 1) := by decide +kernel
theorem dX7_isOperand_18 : decode cX7_isOperand 18 = .ok (.ireturn, 1) := by decide +kernel
theorem dX7_word_0 : decode cX7_word 0 = .ok (.iload_n 0, 1) := by decide +kernel
theorem dX7_word_1 : decode cX7_word 1 = .ok (.ldc 93, 2) := by decide +kernel
theorem dX7_word_3 : decode cX7_word 3 = .ok (.iand, 1) := by decide +kernel
theorem dX7_word_4 : decode cX7_word 4 = .ok (.ireturn, 1) := by decide +kernel
theorem dX7_number_0 : decode cX7_number 0 = .ok (.iload_n 0, 1) := by decide +kernel
theorem dX7_number_1 : decode cX7_number 1 = .ok (.i2s, 1) := by decide +kernel
theorem dX7_number_2 : decode cX7_number 2 = .ok (.ireturn, 1) := by decide +kernel
theorem dX7_arithmetic_0 : decode cX7_arithmetic 0 = .ok (.iload_n 0, 1) := by decide +kernel
theorem dX7_arithmetic_1 : decode cX7_arithmetic 1 = .ok (.tableswitch 144 0 9 #[55, 62, 69, 76, 92, 108, 115, 122, 129, 135], 55) := by decide +kernel
theorem dX7_arithmetic_56 : decode cX7_arithmetic 56 = .ok (.iload_n 1, 1) := by decide +kernel
theorem dX7_arithmetic_57 : decode cX7_arithmetic 57 = .ok (.iload_n 2, 1) := by decide +kernel
theorem dX7_arithmetic_58 : decode cX7_arithmetic 58 = .ok (.iadd, 1) := by decide +kernel
theorem dX7_arithmetic_59 : decode cX7_arithmetic 59 = .ok (.invokestatic 76, 3) := by decide +kernel
theorem dX7_arithmetic_62 : decode cX7_arithmetic 62 = .ok (.ireturn, 1) := by decide +kernel
theorem dX7_arithmetic_63 : decode cX7_arithmetic 63 = .ok (.iload_n 1, 1) := by decide +kernel
theorem dX7_arithmetic_64 : decode cX7_arithmetic 64 = .ok (.iload_n 2, 1) := by decide +kernel
theorem dX7_arithmetic_65 : decode cX7_arithmetic 65 = .ok (.isub, 1) := by decide +kernel
theorem dX7_arithmetic_66 : decode cX7_arithmetic 66 = .ok (.invokestatic 76, 3) := by decide +kernel
theorem dX7_arithmetic_69 : decode cX7_arithmetic 69 = .ok (.ireturn, 1) := by decide +kernel
theorem dX7_arithmetic_70 : decode cX7_arithmetic 70 = .ok (.iload_n 1, 1) := by decide +kernel
theorem dX7_arithmetic_71 : decode cX7_arithmetic 71 = .ok (.iload_n 2, 1) := by decide +kernel
theorem dX7_arithmetic_72 : decode cX7_arithmetic 72 = .ok (.imul, 1) := by decide +kernel
theorem dX7_arithmetic_73 : decode cX7_arithmetic 73 = .ok (.invokestatic 76, 3) := by decide +kernel
theorem dX7_arithmetic_76 : decode cX7_arithmetic 76 = .ok (.ireturn, 1) := by decide +kernel
theorem dX7_arithmetic_77 : decode cX7_arithmetic 77 = .ok (.iload_n 2, 1) := by decide +kernel
theorem dX7_arithmetic_78 : decode cX7_arithmetic 78 = .ok (.ifCond .ne 8, 3) := by decide +kernel
theorem dX7_arithmetic_81 : decode cX7_arithmetic 81 = .ok (.bipush (-11), 2) := by decide +kernel
theorem dX7_arithmetic_83 : decode cX7_arithmetic 83 = .ok (.goto 9, 3) := by decide +kernel
theorem dX7_arithmetic_86 : decode cX7_arithmetic 86 = .ok (.iload_n 1, 1) := by decide +kernel
theorem dX7_arithmetic_87 : decode cX7_arithmetic 87 = .ok (.iload_n 2, 1) := by decide +kernel
theorem dX7_arithmetic_88 : decode cX7_arithmetic 88 = .ok (.idiv, 1) := by decide +kernel
theorem dX7_arithmetic_89 : decode cX7_arithmetic 89 = .ok (.invokestatic 76, 3) := by decide +kernel
theorem dX7_arithmetic_92 : decode cX7_arithmetic 92 = .ok (.ireturn, 1) := by decide +kernel
theorem dX7_arithmetic_93 : decode cX7_arithmetic 93 = .ok (.iload_n 2, 1) := by decide +kernel
theorem dX7_arithmetic_94 : decode cX7_arithmetic 94 = .ok (.ifCond .ne 8, 3) := by decide +kernel
theorem dX7_arithmetic_97 : decode cX7_arithmetic 97 = .ok (.bipush (-11), 2) := by decide +kernel
theorem dX7_arithmetic_99 : decode cX7_arithmetic 99 = .ok (.goto 9, 3) := by decide +kernel
theorem dX7_arithmetic_102 : decode cX7_arithmetic 102 = .ok (.iload_n 1, 1) := by decide +kernel
theorem dX7_arithmetic_103 : decode cX7_arithmetic 103 = .ok (.iload_n 2, 1) := by decide +kernel
theorem dX7_arithmetic_104 : decode cX7_arithmetic 104 = .ok (.irem, 1) := by decide +kernel
theorem dX7_arithmetic_105 : decode cX7_arithmetic 105 = .ok (.invokestatic 76, 3) := by decide +kernel
theorem dX7_arithmetic_108 : decode cX7_arithmetic 108 = .ok (.ireturn, 1) := by decide +kernel
theorem dX7_arithmetic_109 : decode cX7_arithmetic 109 = .ok (.iload_n 1, 1) := by decide +kernel
theorem dX7_arithmetic_110 : decode cX7_arithmetic 110 = .ok (.iload_n 2, 1) := by decide +kernel
theorem dX7_arithmetic_111 : decode cX7_arithmetic 111 = .ok (.iand, 1) := by decide +kernel
theorem dX7_arithmetic_112 : decode cX7_arithmetic 112 = .ok (.invokestatic 76, 3) := by decide +kernel
theorem dX7_arithmetic_115 : decode cX7_arithmetic 115 = .ok (.ireturn, 1) := by decide +kernel
theorem dX7_arithmetic_116 : decode cX7_arithmetic 116 = .ok (.iload_n 1, 1) := by decide +kernel
theorem dX7_arithmetic_117 : decode cX7_arithmetic 117 = .ok (.iload_n 2, 1) := by decide +kernel
theorem dX7_arithmetic_118 : decode cX7_arithmetic 118 = .ok (.ior, 1) := by decide +kernel
theorem dX7_arithmetic_119 : decode cX7_arithmetic 119 = .ok (.invokestatic 76, 3) := by decide +kernel
theorem dX7_arithmetic_122 : decode cX7_arithmetic 122 = .ok (.ireturn, 1) := by decide +kernel
theorem dX7_arithmetic_123 : decode cX7_arithmetic 123 = .ok (.iload_n 1, 1) := by decide +kernel
theorem dX7_arithmetic_124 : decode cX7_arithmetic 124 = .ok (.iconst (-1), 1) := by decide +kernel
theorem dX7_arithmetic_125 : decode cX7_arithmetic 125 = .ok (.ixor, 1) := by decide +kernel
theorem dX7_arithmetic_126 : decode cX7_arithmetic 126 = .ok (.invokestatic 76, 3) := by decide +kernel
theorem dX7_arithmetic_129 : decode cX7_arithmetic 129 = .ok (.ireturn, 1) := by decide +kernel
theorem dX7_arithmetic_130 : decode cX7_arithmetic 130 = .ok (.iload_n 1, 1) := by decide +kernel
theorem dX7_arithmetic_131 : decode cX7_arithmetic 131 = .ok (.iload_n 2, 1) := by decide +kernel
theorem dX7_arithmetic_132 : decode cX7_arithmetic 132 = .ok (.invokestatic 189, 3) := by decide +kernel
theorem dX7_arithmetic_135 : decode cX7_arithmetic 135 = .ok (.ireturn, 1) := by decide +kernel
theorem dX7_arithmetic_136 : decode cX7_arithmetic 136 = .ok (.iload_n 1, 1) := by decide +kernel
theorem dX7_arithmetic_137 : decode cX7_arithmetic 137 = .ok (.invokestatic 76, 3) := by decide +kernel
theorem dX7_arithmetic_140 : decode cX7_arithmetic 140 = .ok (.iload_n 2, 1) := by decide +kernel
theorem dX7_arithmetic_141 : decode cX7_arithmetic 141 = .ok (.invokestatic 193, 3) := by decide +kernel
theorem dX7_arithmetic_144 : decode cX7_arithmetic 144 = .ok (.ireturn, 1) := by decide +kernel
theorem dX7_arithmetic_145 : decode cX7_arithmetic 145 = .ok (.bipush (-20), 2) := by decide +kernel
theorem dX7_arithmetic_147 : decode cX7_arithmetic 147 = .ok (.ireturn, 1) := by decide +kernel
theorem dX7_shiftNumber_0 : decode cX7_shiftNumber 0 = .ok (.iload_n 1, 1) := by decide +kernel
theorem dX7_shiftNumber_1 : decode cX7_shiftNumber 1 = .ok (.ifCond .le 14, 3) := by decide +kernel
theorem dX7_shiftNumber_4 : decode cX7_shiftNumber 4 = .ok (.iload_n 0, 1) := by decide +kernel
theorem dX7_shiftNumber_5 : decode cX7_shiftNumber 5 = .ok (.iload_n 1, 1) := by decide +kernel
theorem dX7_shiftNumber_6 : decode cX7_shiftNumber 6 = .ok (.bipush 15, 2) := by decide +kernel
theorem dX7_shiftNumber_8 : decode cX7_shiftNumber 8 = .ok (.invokestatic 196, 3) := by decide +kernel
theorem dX7_shiftNumber_11 : decode cX7_shiftNumber 11 = .ok (.ishl, 1) := by decide +kernel
theorem dX7_shiftNumber_12 : decode cX7_shiftNumber 12 = .ok (.goto 12, 3) := by decide +kernel
theorem dX7_shiftNumber_15 : decode cX7_shiftNumber 15 = .ok (.iload_n 0, 1) := by decide +kernel
theorem dX7_shiftNumber_16 : decode cX7_shiftNumber 16 = .ok (.iload_n 1, 1) := by decide +kernel
theorem dX7_shiftNumber_17 : decode cX7_shiftNumber 17 = .ok (.ineg, 1) := by decide +kernel
theorem dX7_shiftNumber_18 : decode cX7_shiftNumber 18 = .ok (.bipush 15, 2) := by decide +kernel
theorem dX7_shiftNumber_20 : decode cX7_shiftNumber 20 = .ok (.invokestatic 196, 3) := by decide +kernel
theorem dX7_shiftNumber_23 : decode cX7_shiftNumber 23 = .ok (.ishr, 1) := by decide +kernel
theorem dX7_shiftNumber_24 : decode cX7_shiftNumber 24 = .ok (.invokestatic 76, 3) := by decide +kernel
theorem dX7_shiftNumber_27 : decode cX7_shiftNumber 27 = .ok (.ireturn, 1) := by decide +kernel
theorem dX7_shiftBits_0 : decode cX7_shiftBits 0 = .ok (.iload_n 1, 1) := by decide +kernel
theorem dX7_shiftBits_1 : decode cX7_shiftBits 1 = .ok (.bipush 15, 2) := by decide +kernel
theorem dX7_shiftBits_3 : decode cX7_shiftBits 3 = .ok (.if_icmp .gt 9, 3) := by decide +kernel
theorem dX7_shiftBits_6 : decode cX7_shiftBits 6 = .ok (.iload_n 1, 1) := by decide +kernel
theorem dX7_shiftBits_7 : decode cX7_shiftBits 7 = .ok (.bipush (-15), 2) := by decide +kernel
theorem dX7_shiftBits_9 : decode cX7_shiftBits 9 = .ok (.if_icmp .ge 5, 3) := by decide +kernel
theorem dX7_shiftBits_12 : decode cX7_shiftBits 12 = .ok (.iconst 0, 1) := by decide +kernel
theorem dX7_shiftBits_13 : decode cX7_shiftBits 13 = .ok (.ireturn, 1) := by decide +kernel
theorem dX7_shiftBits_14 : decode cX7_shiftBits 14 = .ok (.iload_n 1, 1) := by decide +kernel
theorem dX7_shiftBits_15 : decode cX7_shiftBits 15 = .ok (.ifCond .le 12, 3) := by decide +kernel
theorem dX7_shiftBits_18 : decode cX7_shiftBits 18 = .ok (.iload_n 0, 1) := by decide +kernel
theorem dX7_shiftBits_19 : decode cX7_shiftBits 19 = .ok (.iload_n 1, 1) := by decide +kernel
theorem dX7_shiftBits_20 : decode cX7_shiftBits 20 = .ok (.ishl, 1) := by decide +kernel
theorem dX7_shiftBits_21 : decode cX7_shiftBits 21 = .ok (.invokestatic 76, 3) := by decide +kernel
theorem dX7_shiftBits_24 : decode cX7_shiftBits 24 = .ok (.goto 7, 3) := by decide +kernel
theorem dX7_shiftBits_27 : decode cX7_shiftBits 27 = .ok (.iload_n 0, 1) := by decide +kernel
theorem dX7_shiftBits_28 : decode cX7_shiftBits 28 = .ok (.iload_n 1, 1) := by decide +kernel
theorem dX7_shiftBits_29 : decode cX7_shiftBits 29 = .ok (.ineg, 1) := by decide +kernel
theorem dX7_shiftBits_30 : decode cX7_shiftBits 30 = .ok (.iushr, 1) := by decide +kernel
theorem dX7_shiftBits_31 : decode cX7_shiftBits 31 = .ok (.ireturn, 1) := by decide +kernel
theorem dJ7_fill_53178_0 : decode cJ7_fill_53178 0 = .ok (.iconst 0, 1) := by decide +kernel
theorem dJ7_fill_53178_1 : decode cJ7_fill_53178 1 = .ok (.istore_n 2, 1) := by decide +kernel
theorem dJ7_fill_53178_2 : decode cJ7_fill_53178 2 = .ok (.aload_n 0, 1) := by decide +kernel
theorem dJ7_fill_53178_3 : decode cJ7_fill_53178 3 = .ok (.arraylength, 1) := by decide +kernel
theorem dJ7_fill_53178_4 : decode cJ7_fill_53178 4 = .ok (.istore_n 3, 1) := by decide +kernel
theorem dJ7_fill_53178_5 : decode cJ7_fill_53178 5 = .ok (.iload_n 2, 1) := by decide +kernel
theorem dJ7_fill_53178_6 : decode cJ7_fill_53178 6 = .ok (.iload_n 3, 1) := by decide +kernel
theorem dJ7_fill_53178_7 : decode cJ7_fill_53178 7 = .ok (.if_icmp .ge 13, 3) := by decide +kernel
theorem dJ7_fill_53178_10 : decode cJ7_fill_53178 10 = .ok (.aload_n 0, 1) := by decide +kernel
theorem dJ7_fill_53178_11 : decode cJ7_fill_53178 11 = .ok (.iload_n 2, 1) := by decide +kernel
theorem dJ7_fill_53178_12 : decode cJ7_fill_53178 12 = .ok (.iload_n 1, 1) := by decide +kernel
theorem dJ7_fill_53178_13 : decode cJ7_fill_53178 13 = .ok (.iastore, 1) := by decide +kernel
theorem dJ7_fill_53178_14 : decode cJ7_fill_53178 14 = .ok (.iinc 2 1, 3) := by decide +kernel
theorem dJ7_fill_53178_17 : decode cJ7_fill_53178 17 = .ok (.goto (-12), 3) := by decide +kernel
theorem dJ7_fill_53178_20 : decode cJ7_fill_53178 20 = .ok (.return_, 1) := by decide +kernel
end
section
/-! java.util.Arrays.fill of an int array, whichever cell it is -/
def rm_fill : Room := { frames := 0, cells := 0, slots := 0, locals := 0 }
theorem zr_zr (σ : zS) (k : Nat) (f g : Nat → Int32) : zr (zr σ k f) k g = zr σ k g := by
  funext j
  unfold zr
  by_cases h : j = k
  · rw [if_pos h, if_pos h]
  · rw [if_neg h, if_neg h, if_neg h]
theorem zr_at (σ : zS) (k : Nat) (f : Nat → Int32) : zr σ k f k = f := by unfold zr; rw [if_pos rfl]
theorem zfill_0 (f : Nat → Int32) (v : Int32) : zfill f 0 v = f := by
  funext j; unfold zfill; rw [if_neg (Nat.not_lt_zero j)]
theorem zfill_s (f : Nat → Int32) (n : Nat) (v : Int32) : upd (zfill f n v) n v = zfill f (n + 1) v := by
  funext j
  unfold upd zfill
  by_cases h : j = n
  · rw [if_pos h, if_pos (by omega)]
  · rw [if_neg h]
    by_cases h2 : j < n
    · rw [if_pos h2, if_pos (by omega)]
    · rw [if_neg h2, if_neg (by omega)]
theorem zr_self (σ : zS) (k : Nat) : zr σ k (σ k) = σ := by
  funext j
  unfold zr
  by_cases h : j = k
  · rw [if_pos h, h]
  · rw [if_neg h]
set_option maxHeartbeats 4000000 in
set_option maxRecDepth 100000 in
theorem g_fill_L {E : zG} {Γ : zX} (C : zO E Γ RJ7 cJ7_fill_53178 4 none) (k N : Nat) (hk : k < z_N) (he : ∀ f, z_E E k f = .inl (zac E 0, N, .inl f)) (hN : N < 2 ^ 31) (v : Int32) (σ : zS) :
    ∀ (d j : Nat), j + d = N → ∀ σ2, σ2 = zr σ k (zfill (σ k) j v) → zJ E Γ rm_fill 4 (fun _ : Unit => none) (some ((), zr σ k (zfill (σ k) N v))) σ2 5 [some (.ref (zad E k)), some (.int v), some (.int (nI j)), some (.int (nI N))] [] := by
  intro d
  induction d with
  | zero =>
    intro j hj σ2 hσ
    have hjN : j = N := by omega
    subst hjN
    subst hσ
    refine r_iload_n (pc := 5) C dJ7_fill_53178_5 rfl ?_
    refine r_iload_n (pc := 6) C dJ7_fill_53178_6 rfl ?_
    refine zJ_if (q := nI j ≤ nI j) (nI_le (Nat.le_refl j) hN) (P2 := none) ?_
    refine r_icmp_ge (pc := 7) (tgt := 20) C dJ7_fill_53178_7 (by decide) (fun _ => ?_) (fun _ => r_none)
    exact r_vret (pc := 20) C dJ7_fill_53178_20
  | succ d ih =>
    intro j hj σ2 hσ
    have hjN : j < N := by omega
    refine r_iload_n (pc := 5) C dJ7_fill_53178_5 rfl ?_
    refine r_iload_n (pc := 6) C dJ7_fill_53178_6 rfl ?_
    refine zJ_nif (q := nI N ≤ nI j) (nI_ge hjN hN) (P1 := none) ?_
    refine r_icmp_ge (pc := 7) (tgt := 20) C dJ7_fill_53178_7 (by decide) (fun _ => r_none) (fun _ => ?_)
    refine r_aload_n (pc := 10) C dJ7_fill_53178_10 rfl ?_
    refine r_iload_n (pc := 11) C dJ7_fill_53178_11 rfl ?_
    refine r_iload_n (pc := 12) C dJ7_fill_53178_12 rfl ?_
    refine zJ_zcl (i := nI j) (n := N) (zu σ2 k (nI j).toNatClampNeg v) (vp_in_nI hjN hN) ?_
    refine r_iast (pc := 13) (t0 := 0) C k hk (he _) he rfl dJ7_fill_53178_13 (fun σ3 hσ3 => ?_)
    refine r_iinc (pc := 14) (lv' := [some (.ref (zad E k)), some (.int v), some (.int (nI (j + 1))), some (.int (nI N))]) C dJ7_fill_53178_14 (by decide) rfl (nI_1 j) rfl ?_
    refine r_goto (pc := 17) (tgt := 5) C dJ7_fill_53178_17 (by decide) ?_
    refine ih (j + 1) (by omega) σ3 ?_
    rw [hσ3, hσ, nI_clamp (Nat.lt_trans hjN hN)]
    unfold zu
    rw [zr_at, zr_zr, zfill_s]
set_option maxHeartbeats 4000000 in
set_option maxRecDepth 100000 in
theorem c_fill {E : zG} (hAp : zAp E) (k N : Nat) (hk : k < z_N) (he : ∀ f, z_E E k f = .inl (zac E 0, N, .inl f)) (hN : N < 2 ^ 31) (v : Int32) (σ : zS) : zM E yJ7_fill_53178 cJ7_fill_53178 4 none rm_fill (fun _ : Unit => none) [.ref (zad E k), .int v] (some ((), zr σ k (zfill (σ k) N v))) σ := by
  refine zM_of (nn := 2) hAp (by decide) (Nat.le_of_ble_eq_true rfl) rfl rfl (fun Γ C => ?_)
  refine r_iconst (pc := 0) (v := 0) C dJ7_fill_53178_0 (by decide) ?_
  refine r_istore_n (pc := 1) (lv' := [some (.ref (zad E k)), some (.int v), some (.int 0), none]) C dJ7_fill_53178_1 (by decide) rfl ?_
  refine r_aload_n (pc := 2) C dJ7_fill_53178_2 rfl ?_
  refine r_alen (pc := 3) (v := nI N) (t0 := 0) C k hk (he _) rfl rfl dJ7_fill_53178_3 ?_
  refine r_istore_n (pc := 4) (lv' := [some (.ref (zad E k)), some (.int v), some (.int (nI 0)), some (.int (nI N))]) C dJ7_fill_53178_4 (by decide) (by rw [nI_0]; rfl) ?_
  refine g_fill_L C k N hk he hN v σ N 0 (Nat.zero_add N) σ ?_
  rw [zfill_0, zr_self]
set_option maxHeartbeats 4000000 in
set_option maxRecDepth 100000 in
theorem r_fill {E : zG} {Γ : zX} {R : Room} {nL pc index N : Nat} {ρ : Type} {Q : ρ × zS → State → Prop} {cx sx : Nat} {K2 : zS → Option (ρ × zS)} {σ : zS} {lv : List (Option Value)} {rest : List Value} {own : String} {cc : ByteArray} {ret : Option FieldType} {v : Int32} (C : zO E Γ own cc nL ret) (k : Nat) (hk : k < z_N) (he : ∀ f, z_E E k f = .inl (zac E 0, N, .inl f)) (hN : N < 2 ^ 31) (hlink : Cond.methodLink own index yJ7_fill_53178 ∈ lw_good) (hR : rm_fill.frames + 1 ≤ R.frames ∧ 8 + (4 + 11) + rm_fill.locals ≤ R.locals) (hst : (rest.map fun v => v.category).sum ≤ 8) (hcs : cx ≤ R.cells ∧ sx ≤ R.slots) (hd : decode cc pc = .ok (.invokestatic index, 3)) (kk : ∀ σ1, σ1 = zr σ k (zfill (σ k) N v) → zJg E Γ R nL Q cx sx (K2 σ1) σ1 (pc + 3) lv rest) : zJg E Γ R nL Q cx sx (zlet (zr σ k (zfill (σ k) N v)) K2) σ pc lv (.int v :: .ref (zad E k) :: rest) := by
  have h := r_callS (n := 2) (As := [.ref (zad E k), .int v]) (K := fun _ σ1 => K2 σ1) (R := R) (Q := Q) (cx := cx) (sx := sx) (lv := lv) (rest := rest) C (c_fill (zO.ap C) k N hk he hN v σ) lk_fc lk_fi hlink lk_fs (by decide +kernel) rfl ⟨rfl, rfl⟩ hR hst hcs hd (fun _ σ1 hq => kk σ1 (by cases hq; rfl))
  exact h
end
section
def rm_X0_record : Room := { frames := 0, cells := 0, slots := 0, locals := 0 }
def f_X0_record (p0 : Int32) (σ : zS) : Option (Int32 × zS) := if (σ 3 2) < (50 : Int32) then (zd (50 : Int32) (zc (((σ 3 1) + (σ 3 2)) - ((σ 3 1) + (σ 3 2)) / (50 : Int32) * (50 : Int32)) 50 (zlet (zu σ 4 ((((σ 3 1) + (σ 3 2)) - ((σ 3 1) + (σ 3 2)) / (50 : Int32) * (50 : Int32))).toNatClampNeg p0) fun s1 => zlet (zu s1 3 2 ((s1 3 2) + (1 : Int32))) fun s2 => some ((s2 3 2), s2)))) else (some ((-3 : Int32), σ))
def rm_X0_nextOfSeed : Room := { frames := 0, cells := 0, slots := 0, locals := 0 }
def f_X0_nextOfSeed (σ : zS) : Option (Int32 × zS) := zlet (zu σ 3 4 ((((σ 3 4) * (1103515245 : Int32)) + (12345 : Int32)) &&& (2147483647 : Int32))) fun s1 => some ((zushr (s1 3 4) (16 : Int32)), s1)
def rm_X0_nextOfTape : Room := { frames := 0, cells := 0, slots := 0, locals := 0 }
def f_X0_nextOfTape (σ : zS) : Option (Int32 × zS) := zc (σ 3 1) 50 (zlet ((σ 4 ((σ 3 1)).toNatClampNeg) : Int32) fun v1 => zd (50 : Int32) (zlet (zu σ 3 1 (((σ 3 1) + (1 : Int32)) - ((σ 3 1) + (1 : Int32)) / (50 : Int32) * (50 : Int32))) fun s1 => zlet (zu s1 3 2 ((s1 3 2) - (1 : Int32))) fun s2 => some (v1, s2)))
def rm_X0_nextOfCount : Room := { frames := 0, cells := 0, slots := 0, locals := 0 }
def f_X0_nextOfCount (σ : zS) : Option (Int32 × zS) := if (σ 3 6) ≤ ((σ 3 5) + (1 : Int32)) then (zlet (zu σ 3 5 (0 : Int32)) fun s1 => some ((σ 3 5), s1)) else (zlet (zu σ 3 5 ((σ 3 5) + (1 : Int32))) fun s2 => some ((σ 3 5), s2))
def rm_X0_next : Room := { frames := 1, cells := 0, slots := 0, locals := 21 }
def f_X0_next (σ : zS) : Option (Int32 × zS) := if (σ 3 3) = (1 : Int32) then (zbind (f_X0_nextOfCount σ) fun v4 s4 => some (v4, s4)) else (if (σ 3 3) = (2 : Int32) then (if (σ 3 2) ≤ 0 then (zbind (f_X0_nextOfSeed σ) fun v2 s2 => some (v2, s2)) else (zbind (f_X0_nextOfTape σ) fun v3 s3 => some (v3, s3))) else (zbind (f_X0_nextOfSeed σ) fun v1 s1 => some (v1, s1)))
def rm_X0_draw : Room := { frames := 2, cells := 0, slots := 0, locals := 41 }
def f_X0_draw (p0 : Int32) (σ : zS) : Option (Int32 × zS) := if p0 ≤ 0 then (if p0 = 0 then (zlet (zu σ 3 3 (2 : Int32)) fun s6 => some ((0 : Int32), s6)) else (if (1000 : Int32) ≤ (-p0) then (zlet (zu σ 3 3 (0 : Int32)) fun s1 => zlet (zu s1 3 4 (-p0)) fun s2 => some ((0 : Int32), s2)) else (zlet (zu σ 3 3 (1 : Int32)) fun s3 => zlet (zu s3 3 6 (-p0)) fun s4 => zlet (zu s4 3 5 (0 : Int32)) fun s5 => some ((0 : Int32), s5)))) else (zbind (f_X0_next σ) fun v1 s7 => zd p0 (some (((v1 - v1 / p0 * p0) + (1 : Int32)), s7)))
def rm_X1_hasLocal : Room := { frames := 0, cells := 0, slots := 0, locals := 0 }
def f_X1_hasLocal (i : Nat) (p0 : Int32) (σ : zS) : Option (Int32 × zS) := if p0 < (1 : Int32) then (some ((0 : Int32), σ)) else (if (σ (16 + 2 * i) 1) < p0 then (some ((0 : Int32), σ)) else (some ((1 : Int32), σ)))
def rm_X1_local : Room := { frames := 1, cells := 0, slots := 0, locals := 21 }
def f_X1_local (i : Nat) (p0 : Int32) (σ : zS) : Option (Int32 × zS) := zbind (f_X1_hasLocal i p0 σ) fun v1 s1 => if v1 = 0 then (some ((-17 : Int32), s1)) else (zc (p0 - (1 : Int32)) 15 (some ((s1 (17 + 2 * i) ((p0 - (1 : Int32))).toNatClampNeg), s1)))
def rm_X1_setLocal : Room := { frames := 1, cells := 0, slots := 0, locals := 21 }
def f_X1_setLocal (i : Nat) (p0 : Int32) (p1 : Int32) (σ : zS) : Option (Int32 × zS) := zbind (f_X1_hasLocal i p0 σ) fun v1 s1 => if v1 = 0 then (some ((-17 : Int32), s1)) else (zc (p0 - (1 : Int32)) 15 (zlet (zu s1 (17 + 2 * i) ((p0 - (1 : Int32))).toNatClampNeg p1) fun s2 => some ((1 : Int32), s2)))
def rm_X2_begin : Room := { frames := 0, cells := 0, slots := 0, locals := 0 }
def f_X2_begin (σ : zS) : Option (Unit × zS) := zlet (zu σ 14 2 (0 : Int32)) fun s1 => zlet (zu s1 14 3 (0 : Int32)) fun s2 => zlet (zu s2 14 4 (0 : Int32)) fun s3 => some ((), s3)
def rm_X2_top : Room := { frames := 0, cells := 0, slots := 0, locals := 0 }
def f_X2_top (σ : zS) : Option ((Option Nat) × zS) := if (σ 14 3) ≤ 0 then (zc (0 : Int32) 12 (some (some ((0 : Int32)).toNatClampNeg, σ))) else (zc ((σ 14 3) - (1 : Int32)) 12 (some (some (((σ 14 3) - (1 : Int32))).toNatClampNeg, σ)))
def rm_X2_enter : Room := { frames := 1, cells := 0, slots := 0, locals := 60 }
def f_X2_enter (σ : zS) : Option ((Option Nat) × zS) := if (σ 14 3) < (12 : Int32) then (zc (σ 14 3) 12 (zlet (zr σ (17 + 2 * ((σ 14 3)).toNatClampNeg) (zfill (σ (17 + 2 * ((σ 14 3)).toNatClampNeg)) 15 (0 : Int32))) fun s1 => zlet (zu s1 (16 + 2 * ((σ 14 3)).toNatClampNeg) 5 (s1 14 2)) fun s2 => zlet (zu s2 14 3 ((s2 14 3) + (1 : Int32))) fun s3 => zlet (zu s3 14 4 (if (s3 14 4) < (s3 14 3) then (s3 14 3) else (s3 14 4))) fun s4 => some (some ((σ 14 3)).toNatClampNeg, s4))) else (some (none, σ))
def rm_X2_leave : Room := { frames := 0, cells := 0, slots := 0, locals := 0 }
def f_X2_leave (σ : zS) : Option (Unit × zS) := if (σ 14 3) ≤ 0 then (some ((), σ)) else (zlet (zu σ 14 3 ((σ 14 3) - (1 : Int32))) fun s1 => zc (s1 14 3) 12 (zlet (zu s1 14 2 (s1 (16 + 2 * ((s1 14 3)).toNatClampNeg) 5)) fun s2 => some ((), s2)))
def rm_X2_pop : Room := { frames := 1, cells := 0, slots := 0, locals := 20 }
def f_X2_pop (σ : zS) : Option (Int32 × zS) := zbind (f_X2_top σ) fun v1 s1 => zop v1 12 (none) fun v2 => if (s1 (16 + 2 * v2) 5) < (σ 14 2) then (zlet (zu s1 14 2 ((s1 14 2) - (1 : Int32))) fun s2 => zc (s2 14 2) 100 (some ((s2 40 ((s2 14 2)).toNatClampNeg), s2))) else (some ((-14 : Int32), s1))
def rm_X2_push : Room := { frames := 0, cells := 0, slots := 0, locals := 0 }
def f_X2_push (p0 : Int32) (σ : zS) : Option (Int32 × zS) := if (σ 14 2) < (100 : Int32) then (zc (σ 14 2) 100 (zlet (zu σ 40 ((σ 14 2)).toNatClampNeg p0) fun s1 => zlet (zu s1 14 2 ((s1 14 2) + (1 : Int32))) fun s2 => some ((1 : Int32), s2))) else (some ((-15 : Int32), σ))
def rm_X3_begin : Room := { frames := 1, cells := 0, slots := 0, locals := 23 }
def f_X3_begin (p0 : Int32) (p1 : Int32) (σ : zS) : Option (Unit × zS) := zlet (zr σ 2 (zfill (σ 2) 2000 (0 : Int32))) fun s1 => zlet (zu s1 1 1 p0) fun s2 => zlet (zu s2 1 2 p1) fun s3 => some ((), s3)
def rm_X3_isOutside : Room := { frames := 0, cells := 0, slots := 0, locals := 0 }
def f_X3_isOutside (p0 : Int32) (σ : zS) : Option (Int32 × zS) := if p0 < 0 then (some ((1 : Int32), σ)) else (if p0 < (σ 1 1) then (some ((0 : Int32), σ)) else (some ((1 : Int32), σ)))
def rm_X3_byteAt : Room := { frames := 1, cells := 0, slots := 0, locals := 21 }
def f_X3_byteAt (p0 : Int32) (σ : zS) : Option (Int32 × zS) := zbind (f_X3_isOutside p0 σ) fun v1 s1 => if v1 = 0 then (zc p0 2000 (some ((s1 2 (p0).toNatClampNeg), s1))) else (some ((-12 : Int32), s1))
def rm_X3_wordAt : Room := { frames := 1, cells := 0, slots := 0, locals := 21 }
def f_X3_wordAt (p0 : Int32) (σ : zS) : Option (Int32 × zS) := zbind (f_X3_isOutside p0 σ) fun v1 s1 => if v1 = 0 then (zbind (f_X3_isOutside (p0 + (1 : Int32)) s1) fun v2 s2 => if v2 = 0 then (zc p0 2000 (zc (p0 + (1 : Int32)) 2000 (some ((((s2 2 (p0).toNatClampNeg) <<< ((8 : Int32) &&& 31)) ||| (s2 2 ((p0 + (1 : Int32))).toNatClampNeg)), s2)))) else (some ((-12 : Int32), s2))) else (some ((-12 : Int32), s1))
def rm_X3_setByte : Room := { frames := 1, cells := 0, slots := 0, locals := 21 }
def f_X3_setByte (p0 : Int32) (p1 : Int32) (p2 : Int32) (σ : zS) : Option (Int32 × zS) := zbind (f_X3_isOutside p0 σ) fun v1 s1 => if v1 = 0 then (if p2 = 0 then (if p0 < (s1 1 2) then (zc p0 2000 (zlet (zu s1 2 (p0).toNatClampNeg (p1 &&& (255 : Int32))) fun s3 => some ((1 : Int32), s3))) else (some ((-13 : Int32), s1))) else (zc p0 2000 (zlet (zu s1 2 (p0).toNatClampNeg (p1 &&& (255 : Int32))) fun s2 => some ((1 : Int32), s2)))) else (some ((-12 : Int32), s1))
def rm_X3_setWord : Room := { frames := 1, cells := 0, slots := 0, locals := 21 }
def f_X3_setWord (p0 : Int32) (p1 : Int32) (p2 : Int32) (σ : zS) : Option (Int32 × zS) := zbind (f_X3_isOutside p0 σ) fun v1 s1 => if v1 = 0 then (zbind (f_X3_isOutside (p0 + (1 : Int32)) s1) fun v2 s2 => if v2 = 0 then (if p2 = 0 then (if (p0 + (1 : Int32)) < (s2 1 2) then (zc p0 2000 (zlet (zu s2 2 (p0).toNatClampNeg ((p1 >>> ((8 : Int32) &&& 31)) &&& (255 : Int32))) fun s5 => zc (p0 + (1 : Int32)) 2000 (zlet (zu s5 2 ((p0 + (1 : Int32))).toNatClampNeg (p1 &&& (255 : Int32))) fun s6 => some ((1 : Int32), s6)))) else (some ((-13 : Int32), s2))) else (zc p0 2000 (zlet (zu s2 2 (p0).toNatClampNeg ((p1 >>> ((8 : Int32) &&& 31)) &&& (255 : Int32))) fun s3 => zc (p0 + (1 : Int32)) 2000 (zlet (zu s3 2 ((p0 + (1 : Int32))).toNatClampNeg (p1 &&& (255 : Int32))) fun s4 => some ((1 : Int32), s4))))) else (some ((-12 : Int32), s2))) else (some ((-12 : Int32), s1))
def rm_X3_copyInTurn : Room := { frames := 2, cells := 0, slots := 0, locals := 44 }
def f_X3_copyInTurn_L3 : Nat → Int32 → Int32 → Int32 → Int32 → zS → Option (Int32 × zS)
  | 0, _, _, _, _, _ => none
  | n + 1, x1, x2, x3, x4, σ => if x3 ≤ x4 then (some ((1 : Int32), σ)) else (zbind (f_X3_byteAt (x1 + x4) σ) fun v1 s1 => if 0 ≤ v1 then (zbind (f_X3_setByte (x2 + x4) v1 (0 : Int32) s1) fun v2 s2 => if 0 ≤ v2 then (f_X3_copyInTurn_L3 n x1 x2 x3 (x4 + (1 : Int32)) s2) else (some (v2, s2))) else (some (v1, s1)))
def f_X3_copyInTurn (p0 : Int32) (p1 : Int32) (p2 : Int32) (σ : zS) : Option (Int32 × zS) := f_X3_copyInTurn_L3 zF p0 p1 p2 (0 : Int32) σ
def rm_X3_copyAtOnce : Room := { frames := 1, cells := 0, slots := 0, locals := 60 }
def f_X3_copyAtOnce (p0 : Int32) (p1 : Int32) (p2 : Int32) (σ : zS) : Option (Int32 × zS) := zbind (f_X3_isOutside p0 σ) fun v1 s1 => if v1 = 0 then (zbind (f_X3_isOutside ((p0 + p2) - (1 : Int32)) s1) fun v2 s2 => if v2 = 0 then (zbind (f_X3_isOutside p1 s2) fun v3 s3 => if v3 = 0 then (zbind (f_X3_isOutside ((p1 + p2) - (1 : Int32)) s3) fun v4 s4 => if v4 = 0 then (if (p1 + p2) ≤ (s4 1 2) then (zcp p0 p1 p2 2000 2000 (zlet (zr s4 2 (va_cpy (s4 2) (s4 2) (p0).toNatClampNeg (p1).toNatClampNeg (p2).toNatClampNeg)) fun s5 => some ((1 : Int32), s5))) else (some ((-13 : Int32), s4))) else (some ((-12 : Int32), s4))) else (some ((-12 : Int32), s3))) else (some ((-12 : Int32), s2))) else (some ((-12 : Int32), s1))
def rm_X3_wipe : Room := { frames := 1, cells := 0, slots := 0, locals := 21 }
def f_X3_wipe_L38 : Nat → Int32 → Int32 → Int32 → zS → Option (Int32 × zS)
  | 0, _, _, _, _ => none
  | n + 1, x1, x2, x3, σ => if x2 ≤ x3 then (some ((1 : Int32), σ)) else (zc (x1 + x3) 2000 (zlet (zu σ 2 ((x1 + x3)).toNatClampNeg (0 : Int32)) fun s3 => f_X3_wipe_L38 n x1 x2 (x3 + (1 : Int32)) s3))
def f_X3_wipe (p0 : Int32) (p1 : Int32) (σ : zS) : Option (Int32 × zS) := zbind (f_X3_isOutside p0 σ) fun v1 s1 => if v1 = 0 then (zbind (f_X3_isOutside ((p0 + p1) - (1 : Int32)) s1) fun v2 s2 => if v2 = 0 then (if (p0 + p1) ≤ (s2 1 2) then (f_X3_wipe_L38 zF p0 p1 (0 : Int32) s2) else (some ((-13 : Int32), s2))) else (some ((-12 : Int32), s2))) else (some ((-12 : Int32), s1))
def rm_X3_copyTable : Room := { frames := 3, cells := 0, slots := 0, locals := 83 }
def f_X3_copyTable (p0 : Int32) (p1 : Int32) (p2 : Int32) (σ : zS) : Option (Int32 × zS) := if p2 = 0 then (some ((1 : Int32), σ)) else (if p1 = 0 then (zbind (f_X3_wipe p0 (if 0 ≤ p2 then p2 else 0 - p2) σ) fun v3 s3 => some (v3, s3)) else (if p2 ≤ 0 then (zbind (f_X3_copyInTurn p0 p1 (-p2) σ) fun v1 s1 => some (v1, s1)) else (zbind (f_X3_copyAtOnce p0 p1 p2 σ) fun v2 s2 => some (v2, s2))))
def rm_X3_find : Room := { frames := 2, cells := 0, slots := 0, locals := 60 }
def f_X3_find_L26 : Nat → Int32 → Int32 → Int32 → Int32 → Int32 → Int32 → Int32 → zS → Option (Int32 × zS)
  | 0, _, _, _, _, _, _, _, _ => none
  | n + 1, x1, x2, x3, x4, x5, x6, x7, σ => if x6 ≤ x7 then (some ((0 : Int32), σ)) else (zlet ((x2 + (x7 * x5)) : Int32) fun v2 => if x4 ≤ (127 : Int32) then (zbind (f_X3_byteAt v2 σ) fun v3 s1 => if 0 ≤ v3 then (if v3 = x1 then (some (v2, s1)) else (f_X3_find_L26 n x1 x2 x3 x4 x5 x6 (x7 + (1 : Int32)) s1)) else (some (v3, s1))) else (zbind (f_X3_wordAt v2 σ) fun v4 s2 => if 0 ≤ v4 then (if v4 = x1 then (some (v2, s2)) else (f_X3_find_L26 n x1 x2 x3 x4 x5 x6 (x7 + (1 : Int32)) s2)) else (some (v4, s2))))
def f_X3_find (p0 : Int32) (p1 : Int32) (p2 : Int32) (p3 : Int32) (σ : zS) : Option (Int32 × zS) := zlet ((p3 &&& (127 : Int32)) : Int32) fun v1 => if v1 = 0 then (zlet ((if (1 : Int32) < p2 then (1 : Int32) else p2) : Int32) fun v5 => f_X3_find_L26 zF p0 p1 p2 p3 v1 v5 (0 : Int32) σ) else (f_X3_find_L26 zF p0 p1 p2 p3 v1 p2 (0 : Int32) σ)
def rm_X4_characterAt : Room := { frames := 0, cells := 0, slots := 0, locals := 0 }
def f_X4_characterAt (p0 : Int32) (σ : zS) : Option (Int32 × zS) := if p0 < 0 then (some ((-1 : Int32), σ)) else (if (σ 41 1) ≤ p0 then (some ((-1 : Int32), σ)) else (zc p0 120 (some ((σ 42 (p0).toNatClampNeg), σ))))
def rm_X4_print : Room := { frames := 0, cells := 0, slots := 0, locals := 0 }
def f_X4_print (p0 : Int32) (σ : zS) : Option (Int32 × zS) := if (σ 41 1) < (120 : Int32) then (zc (σ 41 1) 120 (zlet (zu σ 42 ((σ 41 1)).toNatClampNeg (p0 &&& (255 : Int32))) fun s1 => zlet (zu s1 41 1 ((s1 41 1) + (1 : Int32))) fun s2 => some ((1 : Int32), s2))) else (some ((-21 : Int32), σ))
def rm_X4_printNumber : Room := { frames := 1, cells := 0, slots := 0, locals := 60 }
def f_X4_printNumber_L25 : Nat → Int32 → Int32 → Int32 → Int32 → zS → Option (Int32 × zS)
  | 0, _, _, _, _, _ => none
  | n + 1, x1, x2, x3, x4, σ => if x4 ≤ 0 then (some (x2, σ)) else (if x2 < 0 then (some (x2, σ)) else (if x4 ≤ x3 then (zd x4 (zd (10 : Int32) (zbind (f_X4_print ((48 : Int32) + ((x3 / x4) - (x3 / x4) / (10 : Int32) * (10 : Int32))) σ) fun v2 s1 => zd (10 : Int32) (zlet ((x4 / (10 : Int32)) : Int32) fun v3 => f_X4_printNumber_L25 n x1 v2 x3 v3 s1)))) else (if x4 = (1 : Int32) then (zd x4 (zd (10 : Int32) (zbind (f_X4_print ((48 : Int32) + ((x3 / x4) - (x3 / x4) / (10 : Int32) * (10 : Int32))) σ) fun v5 s2 => zd (10 : Int32) (zlet ((x4 / (10 : Int32)) : Int32) fun v6 => f_X4_printNumber_L25 n x1 v5 x3 v6 s2)))) else (zd (10 : Int32) (zlet ((x4 / (10 : Int32)) : Int32) fun v4 => f_X4_printNumber_L25 n x1 x2 x3 v4 σ)))))
def f_X4_printNumber (p0 : Int32) (σ : zS) : Option (Int32 × zS) := if 0 ≤ p0 then (zlet ((if 0 ≤ p0 then p0 else 0 - p0) : Int32) fun v1 => f_X4_printNumber_L25 zF p0 (1 : Int32) v1 (10000 : Int32) σ) else (zbind (f_X4_print (45 : Int32) σ) fun v7 s3 => zlet ((if 0 ≤ p0 then p0 else 0 - p0) : Int32) fun v8 => f_X4_printNumber_L25 zF p0 v7 v8 (10000 : Int32) s3)
def rm_X5_append : Room := { frames := 0, cells := 0, slots := 0, locals := 0 }
def f_X5_append (p0 : Int32) (p1 : Int32) (p2 : Int32) (p3 : Int32) (p4 : Int32) (σ : zS) : Option (Int32 × zS) := if (σ 5 3) < (100 : Int32) then (zc (σ 5 3) 100 (zlet (zu σ 6 ((σ 5 3)).toNatClampNeg p0) fun s1 => zc ((3 : Int32) * (σ 5 3)) 300 (zlet (zu s1 7 (((3 : Int32) * (σ 5 3))).toNatClampNeg p1) fun s2 => zc (((3 : Int32) * (σ 5 3)) + (1 : Int32)) 300 (zlet (zu s2 7 ((((3 : Int32) * (σ 5 3)) + (1 : Int32))).toNatClampNeg p2) fun s3 => zc (((3 : Int32) * (σ 5 3)) + (2 : Int32)) 300 (zlet (zu s3 7 ((((3 : Int32) * (σ 5 3)) + (2 : Int32))).toNatClampNeg p3) fun s4 => zc (σ 5 3) 100 (zlet (zu s4 8 ((σ 5 3)).toNatClampNeg p4) fun s5 => zlet (zu s5 5 3 ((s5 5 3) + (1 : Int32))) fun s6 => some ((σ 5 3), s6))))))) else (some ((-3 : Int32), σ))
def rm_X5_define : Room := { frames := 0, cells := 0, slots := 0, locals := 0 }
def f_X5_define (p0 : Int32) (p1 : Int32) (p2 : Int32) (p3 : Int32) (σ : zS) : Option (Unit × zS) := zc p0 8 (zlet (zu σ 9 (p0).toNatClampNeg (vp_nar .boolean (1 : Int32))) fun s1 => zc p0 8 (zlet (zu s1 10 (p0).toNatClampNeg p1) fun s2 => zc p0 8 (zlet (zu s2 11 (p0).toNatClampNeg p2) fun s3 => zc p0 8 (zlet (zu s3 12 (p0).toNatClampNeg (vp_nar .boolean p3)) fun s4 => some ((), s4)))))
def rm_X5_forget : Room := { frames := 0, cells := 0, slots := 0, locals := 0 }
def f_X5_forget_L12 : Nat → Int32 → Int32 → zS → Option (Int32 × zS)
  | 0, _, _, _ => none
  | n + 1, x1, x2, σ => if (8 : Int32) ≤ x2 then (some (x1, σ)) else (zc x2 8 (zlet (zu σ 9 (x2).toNatClampNeg (vp_nar .boolean (0 : Int32))) fun s2 => f_X5_forget_L12 n x1 (x2 + (1 : Int32)) s2))
def f_X5_forget (σ : zS) : Option (Int32 × zS) := zlet (zu σ 5 3 (0 : Int32)) fun s1 => f_X5_forget_L12 zF (σ 5 3) (0 : Int32) s1
def rm_X5_opAt : Room := { frames := 0, cells := 0, slots := 0, locals := 0 }
def f_X5_opAt (p0 : Int32) (σ : zS) : Option (Int32 × zS) := if p0 < 0 then (some ((-1 : Int32), σ)) else (if (σ 5 3) ≤ p0 then (some ((-1 : Int32), σ)) else (zc p0 100 (some ((σ 6 (p0).toNatClampNeg), σ))))
def rm_X7_isWithin : Room := { frames := 0, cells := 0, slots := 0, locals := 0 }
def f_X7_isWithin (p0 : Int32) (p1 : Int32) (σ : zS) : Option (Int32 × zS) := if p0 < 0 then (some ((0 : Int32), σ)) else (if p1 < p0 then (some ((0 : Int32), σ)) else (some ((1 : Int32), σ)))
def rm_X5_hasRoutine : Room := { frames := 1, cells := 0, slots := 0, locals := 21 }
def f_X5_hasRoutine (p0 : Int32) (σ : zS) : Option (Int32 × zS) := zbind (f_X7_isWithin p0 (7 : Int32) σ) fun v1 s1 => if v1 = 0 then (some ((0 : Int32), s1)) else (zc p0 8 (if (s1 9 (p0).toNatClampNeg) = 0 then (some ((0 : Int32), s1)) else (some ((1 : Int32), s1))))
def rm_X6_enter : Room := { frames := 2, cells := 0, slots := 0, locals := 81 }
def f_X6_enter (p0 : Int32) (p1 : Int32) (p2 : Int32) (p3 : Int32) (σ : zS) : Option (Int32 × zS) := zbind (f_X5_hasRoutine p0 σ) fun v1 s1 => if v1 = 0 then (some ((-19 : Int32), s1)) else (zbind (f_X2_enter s1) fun v2 s2 => zop v2 12 (some ((-16 : Int32), s2)) fun v3 => zlet (zu s2 (16 + 2 * v3) 2 p0) fun s3 => zc p0 8 (zlet (zu s3 (16 + 2 * v3) 3 (s3 10 (p0).toNatClampNeg)) fun s4 => zc p0 8 (zlet (zu s4 (16 + 2 * v3) 1 (s4 11 (p0).toNatClampNeg)) fun s5 => zlet (zu s5 (16 + 2 * v3) 4 p3) fun s6 => zbind (f_X1_setLocal v3 (1 : Int32) p1 s6) fun v4 s7 => zbind (f_X1_setLocal v3 (2 : Int32) p2 s7) fun v5 s8 => some ((1 : Int32), s8))))
def rm_X6_begin : Room := { frames := 3, cells := 0, slots := 0, locals := 106 }
def f_X6_begin (p0 : Int32) (p1 : Int32) (p2 : Int32) (σ : zS) : Option (Unit × zS) := zbind (f_X2_begin σ) fun _ s1 => zlet (zu s1 41 1 (0 : Int32)) fun s2 => zlet (zr s2 43 (zfill (s2 43) 8 (0 : Int32))) fun s3 => zlet (zu s3 13 9 (-1 : Int32)) fun s4 => zlet (zu s4 13 10 (0 : Int32)) fun s5 => zlet (zu s5 13 11 (0 : Int32)) fun s6 => zlet (zu s6 13 12 (0 : Int32)) fun s7 => zlet (zu s7 13 13 (0 : Int32)) fun s8 => zlet (zu s8 13 14 (0 : Int32)) fun s9 => zlet (zu s9 13 15 (0 : Int32)) fun s10 => zbind (f_X6_enter p0 p1 p2 (-1 : Int32) s10) fun v1 s11 => some ((), s11)
def rm_X6_isGoing : Room := { frames := 0, cells := 0, slots := 0, locals := 0 }
def f_X6_isGoing (σ : zS) : Option (Int32 × zS) := if (σ 13 9) = (-1 : Int32) then (some ((1 : Int32), σ)) else (some ((0 : Int32), σ))
def rm_X6_leaveDownTo : Room := { frames := 1, cells := 0, slots := 0, locals := 20 }
def f_X6_leaveDownTo_L8 : Nat → Int32 → Int32 → zS → Option (Unit × zS)
  | 0, _, _, _ => none
  | n + 1, x1, x2, σ => if x2 ≤ x1 then (some ((), σ)) else (if x2 ≤ 0 then (some ((), σ)) else (zbind (f_X2_top σ) fun v1 s1 => zop v1 12 (none) fun v2 => zc (s1 (16 + 2 * v2) 2) 8 (zc (s1 (16 + 2 * v2) 2) 8 (zlet (zu s1 43 ((s1 (16 + 2 * v2) 2)).toNatClampNeg ((s1 43 ((s1 (16 + 2 * v2) 2)).toNatClampNeg) + (1 : Int32))) fun s2 => zbind (f_X2_leave s2) fun _ s3 => f_X6_leaveDownTo_L8 n x1 (x2 + (-1 : Int32)) s3))))
def f_X6_leaveDownTo (p0 : Int32) (σ : zS) : Option (Unit × zS) := f_X6_leaveDownTo_L8 zF p0 (σ 14 3) σ
def rm_X6_finish : Room := { frames := 2, cells := 0, slots := 0, locals := 42 }
def f_X6_finish (σ : zS) : Option (Int32 × zS) := if (σ 13 9) = (-1 : Int32) then (zlet (zu σ 13 9 (3 : Int32)) fun s2 => zbind (f_X6_leaveDownTo (0 : Int32) s2) fun _ s3 => some ((s3 13 9), s3)) else (zbind (f_X6_leaveDownTo (0 : Int32) σ) fun _ s1 => some ((s1 13 9), s1))
def rm_X6_goOnIf : Room := { frames := 1, cells := 0, slots := 0, locals := 20 }
def f_X6_goOnIf (p0 : Int32) (p1 : Int32) (σ : zS) : Option (Int32 × zS) := if p0 = 0 then (some ((1 : Int32), σ)) else (zbind (f_X2_top σ) fun v1 s1 => zop v1 12 (none) fun v2 => zlet (zu s1 (16 + 2 * v2) 3 p1) fun s2 => some ((1 : Int32), s2))
def rm_X7_number : Room := { frames := 0, cells := 0, slots := 0, locals := 0 }
def f_X7_number (p0 : Int32) (σ : zS) : Option (Int32 × zS) := some ((p0.toInt16.toInt32), σ)
def rm_X6_placeOfGlobal : Room := { frames := 0, cells := 0, slots := 0, locals := 0 }
def f_X6_placeOfGlobal (p0 : Int32) (σ : zS) : Option (Int32 × zS) := some (((σ 13 7) + ((2 : Int32) * (p0 - (16 : Int32)))), σ)
def rm_X6_ask : Room := { frames := 2, cells := 0, slots := 0, locals := 42 }
def f_X6_ask (p0 : Int32) (σ : zS) : Option (Int32 × zS) := if p0 = 0 then (zbind (f_X2_pop σ) fun v6 s5 => some (v6, s5)) else (if (16 : Int32) ≤ p0 then (zbind (f_X6_placeOfGlobal p0 σ) fun v1 s1 => zbind (f_X3_wordAt v1 s1) fun v2 s2 => some (v2, s2)) else (zbind (f_X2_top σ) fun v3 s3 => zop v3 12 (none) fun v4 => zbind (f_X1_local v4 p0 s3) fun v5 s4 => some (v5, s4)))
def rm_X7_word : Room := { frames := 0, cells := 0, slots := 0, locals := 0 }
def f_X7_word (p0 : Int32) (σ : zS) : Option (Int32 × zS) := some ((p0 &&& (65535 : Int32)), σ)
def rm_X6_tell : Room := { frames := 0, cells := 0, slots := 0, locals := 0 }
def f_X6_tell (p0 : Int32) (p1 : Int32) (σ : zS) : Option (Int32 × zS) := zlet (zu σ 13 16 p0) fun s1 => some (p1, s1)
def rm_X6_change : Room := { frames := 3, cells := 0, slots := 0, locals := 63 }
def f_X6_change (p0 : Int32) (p1 : Int32) (σ : zS) : Option (Int32 × zS) := zbind (f_X6_ask p0 σ) fun v1 s1 => if 0 ≤ v1 then (zbind (f_X7_word (v1 + p1) s1) fun v2 s2 => zbind (f_X6_tell p0 v2 s2) fun v3 s3 => some (v3, s3)) else (some (v1, s1))
def rm_X6_end : Room := { frames := 1, cells := 0, slots := 0, locals := 22 }
def f_X6_end (p0 : Int32) (σ : zS) : Option (Int32 × zS) := zlet (zu σ 13 9 p0) fun s1 => zbind (f_X6_tell (-1 : Int32) (1 : Int32) s1) fun v1 s2 => some (v1, s2)
def rm_X6_giveBack : Room := { frames := 2, cells := 0, slots := 0, locals := 43 }
def f_X6_giveBack (p0 : Int32) (σ : zS) : Option (Int32 × zS) := zbind (f_X2_top σ) fun v1 s1 => zop v1 12 (none) fun v2 => zlet ((s1 (16 + 2 * v2) 4) : Int32) fun v3 => zbind (f_X6_leaveDownTo ((s1 14 3) - (1 : Int32)) s1) fun _ s2 => if (s2 14 3) = 0 then (zlet (zu s2 13 12 p0) fun s4 => zbind (f_X6_end (0 : Int32) s4) fun v5 s5 => some (v5, s5)) else (zbind (f_X6_tell v3 p0 s2) fun v4 s3 => some (v4, s3))
def rm_X6_throwTo : Room := { frames := 3, cells := 0, slots := 0, locals := 65 }
def f_X6_throwTo (p0 : Int32) (p1 : Int32) (σ : zS) : Option (Int32 × zS) := if p0 < (σ 14 3) then (if (σ 13 11) < (12 : Int32) then (zlet (zu σ 13 11 ((σ 13 11) + (1 : Int32))) fun s1 => zlet (zu s1 13 15 ((s1 13 15) + (1 : Int32))) fun s2 => zbind (f_X6_leaveDownTo (p0 + (1 : Int32)) s2) fun _ s3 => zbind (f_X6_giveBack p1 s3) fun v1 s4 => some (v1, s4)) else (zbind (f_X6_end (3 : Int32) σ) fun v2 s5 => some (v2, s5))) else (some ((-18 : Int32), σ))
def rm_X6_printRows : Room := { frames := 2, cells := 0, slots := 0, locals := 42 }
def f_X6_printRows_L35 : Nat → Int32 → Int32 → Int32 → Int32 → Int32 → Int32 → zS → (Int32 → Int32 → Int32 → Int32 → Int32 → Int32 → zS → Option (Int32 × zS)) → Option (Int32 × zS)
  | 0, _, _, _, _, _, _, _, _ => none
  | n + 1, x1, x2, x3, x4, x5, x6, σ, K => if x2 ≤ x6 then (K x1 x2 x3 x4 x5 x6 σ) else (zbind (f_X3_byteAt x4 σ) fun v1 s1 => if 0 ≤ v1 then (zbind (f_X4_print v1 s1) fun v2 s2 => if 0 ≤ v2 then (f_X6_printRows_L35 n x1 x2 x3 (x4 + (1 : Int32)) x5 (x6 + (1 : Int32)) s2 K) else (some (v2, s2))) else (if 0 ≤ v1 then (f_X6_printRows_L35 n x1 x2 x3 (x4 + (1 : Int32)) x5 (x6 + (1 : Int32)) s1 K) else (some (v1, s1))))
def f_X6_printRows_L6 : Nat → Int32 → Int32 → Int32 → Int32 → Int32 → zS → Option (Int32 × zS)
  | 0, _, _, _, _, _, _ => none
  | n + 1, x1, x2, x3, x4, x5, σ => if x3 ≤ x5 then (some ((1 : Int32), σ)) else (if x5 ≤ 0 then (f_X6_printRows_L35 zF x1 x2 x3 x4 x5 (0 : Int32) σ (fun v3 v4 v5 v6 v7 v8 s3 => f_X6_printRows_L6 n v3 v4 v5 v6 (v7 + (1 : Int32)) s3)) else (zbind (f_X4_print (10 : Int32) σ) fun v9 s4 => if 0 ≤ v9 then (f_X6_printRows_L35 zF x1 x2 x3 x4 x5 (0 : Int32) s4 (fun v10 v11 v12 v13 v14 v15 s5 => f_X6_printRows_L6 n v10 v11 v12 v13 (v14 + (1 : Int32)) s5)) else (some ((-21 : Int32), s4))))
def f_X6_printRows (p0 : Int32) (p1 : Int32) (p2 : Int32) (σ : zS) : Option (Int32 × zS) := f_X6_printRows_L6 zF p0 p1 p2 p0 (0 : Int32) σ
def rm_X7_shiftNumber : Room := { frames := 1, cells := 0, slots := 0, locals := 60 }
def f_X7_shiftNumber (p0 : Int32) (p1 : Int32) (σ : zS) : Option (Int32 × zS) := if p1 ≤ 0 then (zbind (f_X7_word (p0 >>> ((if (15 : Int32) < (-p1) then (15 : Int32) else (-p1)) &&& 31)) σ) fun v1 s1 => some (v1, s1)) else (zbind (f_X7_word (p0 <<< ((if (15 : Int32) < p1 then (15 : Int32) else p1) &&& 31)) σ) fun v2 s2 => some (v2, s2))
def rm_X7_shiftBits : Room := { frames := 1, cells := 0, slots := 0, locals := 20 }
def f_X7_shiftBits (p0 : Int32) (p1 : Int32) (σ : zS) : Option (Int32 × zS) := if (15 : Int32) < p1 then (some ((0 : Int32), σ)) else (if (-15 : Int32) ≤ p1 then (if p1 ≤ 0 then (some ((zushr p0 (-p1)), σ)) else (zbind (f_X7_word (p0 <<< (p1 &&& 31)) σ) fun v1 s1 => some (v1, s1))) else (some ((0 : Int32), σ)))
def rm_X7_arithmetic : Room := { frames := 2, cells := 0, slots := 0, locals := 81 }
def f_X7_arithmetic (p0 : Int32) (p1 : Int32) (p2 : Int32) (σ : zS) : Option (Int32 × zS) := if p0 = (0 : Int32) then (zbind (f_X7_word (p1 + p2) σ) fun v1 s1 => some (v1, s1)) else (if p0 = (1 : Int32) then (zbind (f_X7_word (p1 - p2) σ) fun v2 s2 => some (v2, s2)) else (if p0 = (2 : Int32) then (zbind (f_X7_word (p1 * p2) σ) fun v3 s3 => some (v3, s3)) else (if p0 = (3 : Int32) then (if p2 = 0 then (some ((-11 : Int32), σ)) else (zd p2 (zbind (f_X7_word (p1 / p2) σ) fun v4 s4 => some (v4, s4)))) else (if p0 = (4 : Int32) then (if p2 = 0 then (some ((-11 : Int32), σ)) else (zd p2 (zbind (f_X7_word (p1 - p1 / p2 * p2) σ) fun v5 s5 => some (v5, s5)))) else (if p0 = (5 : Int32) then (zbind (f_X7_word (p1 &&& p2) σ) fun v6 s6 => some (v6, s6)) else (if p0 = (6 : Int32) then (zbind (f_X7_word (p1 ||| p2) σ) fun v7 s7 => some (v7, s7)) else (if p0 = (7 : Int32) then (zbind (f_X7_word (p1 ^^^ (-1 : Int32)) σ) fun v8 s8 => some (v8, s8)) else (if p0 = (8 : Int32) then (zbind (f_X7_shiftNumber p1 p2 σ) fun v9 s9 => some (v9, s9)) else (if p0 = (9 : Int32) then (zbind (f_X7_word p1 σ) fun v10 s10 => zbind (f_X7_shiftBits v10 p2 s10) fun v11 s11 => some (v11, s11)) else (some ((-20 : Int32), σ)))))))))))
def rm_X6_carryOut : Room := { frames := 4, cells := 0, slots := 0, locals := 106 }
def f_X6_carryOut (p0 : Int32) (p1 : Int32) (p2 : Int32) (p3 : Int32) (p4 : Int32) (σ : zS) : Option (Int32 × zS) := if (9 : Int32) < p0 then (if p0 = (10 : Int32) then (if p2 = p3 then (zbind (f_X6_goOnIf (1 : Int32) p4 σ) fun v2 s2 => some (v2, s2)) else (zbind (f_X6_goOnIf (0 : Int32) p4 σ) fun v1 s1 => some (v1, s1))) else (if p0 = (11 : Int32) then (zbind (f_X7_number p2 σ) fun v3 s3 => zbind (f_X7_number p3 s3) fun v4 s4 => if v4 ≤ v3 then (zbind (f_X6_goOnIf (0 : Int32) p4 s4) fun v5 s5 => some (v5, s5)) else (zbind (f_X6_goOnIf (1 : Int32) p4 s4) fun v6 s6 => some (v6, s6))) else (if p0 = (12 : Int32) then (zbind (f_X7_number p2 σ) fun v7 s7 => zbind (f_X7_number p3 s7) fun v8 s8 => if v7 ≤ v8 then (zbind (f_X6_goOnIf (0 : Int32) p4 s8) fun v9 s9 => some (v9, s9)) else (zbind (f_X6_goOnIf (1 : Int32) p4 s8) fun v10 s10 => some (v10, s10))) else (if p0 = (13 : Int32) then (zbind (f_X6_goOnIf (1 : Int32) p2 σ) fun v11 s11 => some (v11, s11)) else (if p0 = (14 : Int32) then (zbind (f_X6_change (p2 &&& (255 : Int32)) (1 : Int32) σ) fun v12 s12 => some (v12, s12)) else (if p0 = (15 : Int32) then (zbind (f_X6_change (p2 &&& (255 : Int32)) (-1 : Int32) σ) fun v13 s13 => some (v13, s13)) else (if p0 = (16 : Int32) then (zbind (f_X7_number p3 σ) fun v14 s14 => zbind (f_X3_wordAt (p2 + ((2 : Int32) * v14)) s14) fun v15 s15 => zbind (f_X6_tell p1 v15 s15) fun v16 s16 => some (v16, s16)) else (if p0 = (17 : Int32) then (zbind (f_X7_number p3 σ) fun v17 s17 => zbind (f_X3_byteAt (p2 + v17) s17) fun v18 s18 => zbind (f_X6_tell p1 v18 s18) fun v19 s19 => some (v19, s19)) else (if p0 = (18 : Int32) then (zbind (f_X7_number p3 σ) fun v20 s20 => zbind (f_X3_setWord (p2 + ((2 : Int32) * v20)) p4 (0 : Int32) s20) fun v21 s21 => some (v21, s21)) else (if p0 = (19 : Int32) then (zbind (f_X7_number p3 σ) fun v22 s22 => zbind (f_X3_setByte (p2 + v22) p4 (0 : Int32) s22) fun v23 s23 => some (v23, s23)) else (if p0 = (20 : Int32) then (zbind (f_X6_enter p2 p3 p4 p1 σ) fun v24 s24 => some (v24, s24)) else (if p0 = (21 : Int32) then (zbind (f_X6_giveBack p2 σ) fun v25 s25 => some (v25, s25)) else (if p0 = (22 : Int32) then (zbind (f_X2_push p2 σ) fun v26 s26 => some (v26, s26)) else (if p0 = (23 : Int32) then (zbind (f_X2_pop σ) fun v27 s27 => zbind (f_X6_tell (p2 &&& (255 : Int32)) v27 s27) fun v28 s28 => some (v28, s28)) else (if p0 = (24 : Int32) then (zbind (f_X6_tell p1 ((σ 14 3) - (1 : Int32)) σ) fun v29 s29 => some (v29, s29)) else (if p0 = (25 : Int32) then (zbind (f_X6_throwTo p3 p2 σ) fun v30 s30 => some (v30, s30)) else (if p0 = (26 : Int32) then (zbind (f_X7_number p4 σ) fun v31 s31 => zbind (f_X3_copyTable p2 p3 v31 s31) fun v32 s32 => some (v32, s32)) else (if p0 = (27 : Int32) then (zbind (f_X7_number p4 σ) fun v33 s33 => zbind (f_X3_find p2 p3 v33 (s33 13 8) s33) fun v34 s34 => zbind (f_X6_tell p1 v34 s34) fun v35 s35 => some (v35, s35)) else (if p0 = (28 : Int32) then (zbind (f_X7_number p2 σ) fun v36 s36 => zbind (f_X0_draw v36 s36) fun v37 s37 => zbind (f_X6_tell p1 v37 s37) fun v38 s38 => some (v38, s38)) else (if p0 = (29 : Int32) then (zbind (f_X7_number p2 σ) fun v39 s39 => zbind (f_X4_printNumber v39 s39) fun v40 s40 => some (v40, s40)) else (if p0 = (30 : Int32) then (zbind (f_X4_print p2 σ) fun v41 s41 => some (v41, s41)) else (if p0 = (31 : Int32) then (zbind (f_X7_number p3 σ) fun v42 s42 => zbind (f_X7_number p4 s42) fun v43 s43 => zbind (f_X6_printRows p2 v42 v43 s43) fun v44 s44 => some (v44, s44)) else (if p0 = (32 : Int32) then (zbind (f_X6_end (1 : Int32) σ) fun v45 s45 => some (v45, s45)) else (some ((-20 : Int32), σ))))))))))))))))))))))))) else (zbind (f_X7_number p2 σ) fun v46 s46 => zbind (f_X7_number p3 s46) fun v47 s47 => zbind (f_X7_arithmetic p0 v46 v47 s47) fun v48 s48 => zbind (f_X6_tell p1 v48 s48) fun v49 s49 => some (v49, s49))
def rm_X6_step : Room := { frames := 5, cells := 0, slots := 0, locals := 131 }
def f_X6_step_L52 : Nat → Int32 → Int32 → Int32 → zS → Option (Int32 × zS)
  | 0, _, _, _, _ => none
  | n + 1, x1, x2, x3, σ => zc x2 33 (if (tb_0 (x2).toNatClampNeg) ≤ x3 then (zbind (f_X2_top σ) fun v5 s5 => zop v5 12 (none) fun v6 => zlet (zu s5 (16 + 2 * v6) 3 (x1 + (1 : Int32))) fun s6 => zc x1 100 (zc (0 : Int32) 3 (zc (1 : Int32) 3 (zc (2 : Int32) 3 (zbind (f_X6_carryOut x2 (s6 8 (x1).toNatClampNeg) (s6 44 ((0 : Int32)).toNatClampNeg) (s6 44 ((1 : Int32)).toNatClampNeg) (s6 44 ((2 : Int32)).toNatClampNeg) s6) fun v7 s7 => some (v7, s7)))))) else (zc (((3 : Int32) * x1) + x3) 300 (zlet ((σ 7 ((((3 : Int32) * x1) + x3)).toNatClampNeg) : Int32) fun v8 => if 0 ≤ v8 then (if 0 ≤ v8 then (zc x3 3 (zlet (zu σ 44 (x3).toNatClampNeg v8) fun s8 => f_X6_step_L52 n x1 x2 (x3 + (1 : Int32)) s8)) else (some (v8, σ))) else (zbind (f_X6_ask ((-1 : Int32) - v8) σ) fun v9 s9 => if 0 ≤ v9 then (zc x3 3 (zlet (zu s9 44 (x3).toNatClampNeg v9) fun s10 => f_X6_step_L52 n x1 x2 (x3 + (1 : Int32)) s10)) else (some (v9, s9))))))
def f_X6_step (σ : zS) : Option (Int32 × zS) := zlet (zu σ 13 10 ((σ 13 10) + (1 : Int32))) fun s1 => zlet (zu s1 13 16 (-1 : Int32)) fun s2 => zbind (f_X2_top s2) fun v1 s3 => zop v1 12 (none) fun v2 => zlet ((s3 (16 + 2 * v2) 3) : Int32) fun v3 => zbind (f_X5_opAt v3 s3) fun v4 s4 => if v4 < 0 then (some ((-20 : Int32), s4)) else (if v4 < (33 : Int32) then (f_X6_step_L52 zF v3 v4 (0 : Int32) s4) else (some ((-20 : Int32), s4)))
def rm_X6_set : Room := { frames := 2, cells := 0, slots := 0, locals := 44 }
def f_X6_set (p0 : Int32) (p1 : Int32) (σ : zS) : Option (Int32 × zS) := if p0 = 0 then (zbind (f_X2_push p1 σ) fun v6 s5 => some (v6, s5)) else (if (16 : Int32) ≤ p0 then (zbind (f_X6_placeOfGlobal p0 σ) fun v1 s1 => zbind (f_X3_setWord v1 p1 (0 : Int32) s1) fun v2 s2 => some (v2, s2)) else (zbind (f_X2_top σ) fun v3 s3 => zop v3 12 (none) fun v4 => zbind (f_X1_setLocal v4 p0 p1 s3) fun v5 s4 => some (v5, s4)))
def rm_X6_keep : Room := { frames := 3, cells := 0, slots := 0, locals := 66 }
def f_X6_keep (p0 : Int32) (σ : zS) : Option (Int32 × zS) := if p0 < 0 then (some (p0, σ)) else (if (σ 13 16) = (-1 : Int32) then (some (p0, σ)) else (zbind (f_X6_set (σ 13 16) p0 σ) fun v1 s1 => some (v1, s1)))
def rm_X6_raise : Room := { frames := 3, cells := 0, slots := 0, locals := 65 }
def f_X6_raise_L33 : Nat → Int32 → Int32 → zS → Option (Int32 × zS)
  | 0, _, _, _ => none
  | n + 1, x1, x2, σ => if x2 ≤ 0 then (if (σ 14 3) = 0 then (zlet (zu σ 13 13 ((-10 : Int32) - x1)) fun s4 => zbind (f_X6_end (2 : Int32) s4) fun v2 s5 => some (v2, s5)) else (zlet (zu σ 13 14 ((σ 13 14) + (1 : Int32))) fun s2 => zbind (f_X6_giveBack ((-10 : Int32) - x1) s2) fun v1 s3 => some (v1, s3))) else (zbind (f_X2_top σ) fun v3 s6 => zop v3 12 (none) fun v4 => zc (s6 (16 + 2 * v4) 2) 8 (if (s6 12 ((s6 (16 + 2 * v4) 2)).toNatClampNeg) = 0 then (zbind (f_X6_leaveDownTo (x2 - (1 : Int32)) s6) fun _ s11 => f_X6_raise_L33 n x1 (x2 + (-1 : Int32)) s11) else (if (s6 14 3) = 0 then (zlet (zu s6 13 13 ((-10 : Int32) - x1)) fun s9 => zbind (f_X6_end (2 : Int32) s9) fun v6 s10 => some (v6, s10)) else (zlet (zu s6 13 14 ((s6 13 14) + (1 : Int32))) fun s7 => zbind (f_X6_giveBack ((-10 : Int32) - x1) s7) fun v5 s8 => some (v5, s8)))))
def f_X6_raise (p0 : Int32) (σ : zS) : Option (Int32 × zS) := if (σ 13 11) < (12 : Int32) then (zlet (zu σ 13 11 ((σ 13 11) + (1 : Int32))) fun s1 => f_X6_raise_L33 zF p0 (s1 14 3) s1) else (zbind (f_X6_end (3 : Int32) σ) fun v7 s12 => some (v7, s12))
def rm_X6_settle : Room := { frames := 4, cells := 0, slots := 0, locals := 87 }
def f_X6_settle_L8 : Nat → Int32 → Int32 → Int32 → zS → Option (Unit × zS)
  | 0, _, _, _, _ => none
  | n + 1, x1, x2, x3, σ => if (12 : Int32) ≤ x3 then (some ((), σ)) else (if 0 ≤ x2 then (some ((), σ)) else (zbind (f_X6_raise x2 σ) fun v2 s2 => zbind (f_X6_keep v2 s2) fun v3 s3 => f_X6_settle_L8 n x1 v3 (x3 + (1 : Int32)) s3))
def f_X6_settle (p0 : Int32) (σ : zS) : Option (Unit × zS) := zbind (f_X6_keep p0 σ) fun v1 s1 => f_X6_settle_L8 zF p0 v1 (0 : Int32) s1
def rm_X7_size : Room := { frames := 2, cells := 0, slots := 0, locals := 45 }
def f_X7_size (p0 : Int32) (p1 : Int32) (σ : zS) : Option (Int32 × zS) := if p0 < 0 then (some ((-2 : Int32), σ)) else (if (2000 : Int32) < p0 then (some ((-2 : Int32), σ)) else (if p1 < 0 then (some ((-2 : Int32), σ)) else (if p1 ≤ p0 then (zbind (f_X3_begin p0 p1 σ) fun _ s1 => some ((1 : Int32), s1)) else (some ((-2 : Int32), σ)))))
def rm_X7_get : Room := { frames := 2, cells := 0, slots := 0, locals := 42 }
def f_X7_get (p0 : Int32) (p1 : Int32) (σ : zS) : Option (Int32 × zS) := if p1 = 0 then (zbind (f_X3_byteAt p0 σ) fun v1 s1 => some (v1, s1)) else (zbind (f_X3_wordAt p0 σ) fun v2 s2 => some (v2, s2))
def rm_X7_put : Room := { frames := 2, cells := 0, slots := 0, locals := 44 }
def f_X7_put (p0 : Int32) (p1 : Int32) (p2 : Int32) (p3 : Int32) (σ : zS) : Option (Int32 × zS) := if p2 = 0 then (zbind (f_X3_setByte p0 p1 p3 σ) fun v1 s1 => some (v1, s1)) else (zbind (f_X3_setWord p0 p1 p3 σ) fun v2 s2 => some (v2, s2))
def rm_X7_copy : Room := { frames := 4, cells := 0, slots := 0, locals := 106 }
def f_X7_copy (p0 : Int32) (p1 : Int32) (p2 : Int32) (σ : zS) : Option (Int32 × zS) := zbind (f_X7_word p0 σ) fun v1 s1 => zbind (f_X7_word p1 s1) fun v2 s2 => zbind (f_X7_number p2 s2) fun v3 s3 => zbind (f_X3_copyTable v1 v2 v3 s3) fun v4 s4 => some (v4, s4)
def rm_X7_look : Room := { frames := 3, cells := 0, slots := 0, locals := 89 }
def f_X7_look (p0 : Int32) (p1 : Int32) (p2 : Int32) (p3 : Int32) (σ : zS) : Option (Int32 × zS) := zbind (f_X7_isWithin p3 (255 : Int32) σ) fun v1 s1 => if v1 = 0 then (some ((-2 : Int32), s1)) else (zbind (f_X7_word p0 s1) fun v2 s2 => zbind (f_X7_word p1 s2) fun v3 s3 => zbind (f_X7_number p2 s3) fun v4 s4 => zbind (f_X3_find v2 v3 v4 p3 s4) fun v5 s5 => some (v5, s5))
def rm_X7_random : Room := { frames := 3, cells := 0, slots := 0, locals := 62 }
def f_X7_random (p0 : Int32) (σ : zS) : Option (Int32 × zS) := zbind (f_X7_number p0 σ) fun v1 s1 => zbind (f_X0_draw v1 s1) fun v2 s2 => some (v2, s2)
def rm_X7_tape : Room := { frames := 1, cells := 0, slots := 0, locals := 21 }
def f_X7_tape (p0 : Int32) (σ : zS) : Option (Int32 × zS) := zbind (f_X7_isWithin p0 (65535 : Int32) σ) fun v1 s1 => if v1 = 0 then (some ((-2 : Int32), s1)) else (zbind (f_X0_record p0 s1) fun v2 s2 => some (v2, s2))
def rm_X7_globe : Room := { frames := 1, cells := 0, slots := 0, locals := 21 }
def f_X7_globe (p0 : Int32) (σ : zS) : Option (Int32 × zS) := zbind (f_X7_isWithin p0 (65535 : Int32) σ) fun v1 s1 => if v1 = 0 then (some ((-2 : Int32), s1)) else (zlet (zu s1 13 7 p0) fun s2 => some ((s1 13 7), s2))
def rm_X7_form : Room := { frames := 1, cells := 0, slots := 0, locals := 21 }
def f_X7_form (p0 : Int32) (σ : zS) : Option (Int32 × zS) := zbind (f_X7_isWithin p0 (255 : Int32) σ) fun v1 s1 => if v1 = 0 then (some ((-2 : Int32), s1)) else (zlet (zu s1 13 8 p0) fun s2 => some ((s1 13 8), s2))
def rm_X7_isOperand : Room := { frames := 0, cells := 0, slots := 0, locals := 0 }
def f_X7_isOperand (p0 : Int32) (σ : zS) : Option (Int32 × zS) := if p0 < (-256 : Int32) then (some ((0 : Int32), σ)) else (if (65535 : Int32) < p0 then (some ((0 : Int32), σ)) else (some ((1 : Int32), σ)))
def rm_X7_instruction : Room := { frames := 1, cells := 0, slots := 0, locals := 26 }
def f_X7_instruction (p0 : Int32) (p1 : Int32) (p2 : Int32) (p3 : Int32) (p4 : Int32) (σ : zS) : Option (Int32 × zS) := zbind (f_X7_isOperand p1 σ) fun v1 s1 => if v1 = 0 then (some ((-2 : Int32), s1)) else (zbind (f_X7_isOperand p2 s1) fun v2 s2 => if v2 = 0 then (some ((-2 : Int32), s2)) else (zbind (f_X7_isOperand p3 s2) fun v3 s3 => if v3 = 0 then (some ((-2 : Int32), s3)) else (if p4 < (-1 : Int32) then (some ((-2 : Int32), s3)) else (if p4 ≤ (255 : Int32) then (zbind (f_X5_append p0 p1 p2 p3 p4 s3) fun v4 s4 => some (v4, s4)) else (some ((-2 : Int32), s3))))))
def rm_X7_routine : Room := { frames := 1, cells := 0, slots := 0, locals := 24 }
def f_X7_routine (p0 : Int32) (p1 : Int32) (p2 : Int32) (p3 : Int32) (σ : zS) : Option (Int32 × zS) := zbind (f_X7_isWithin p0 (7 : Int32) σ) fun v1 s1 => if v1 = 0 then (some ((-1 : Int32), s1)) else (zbind (f_X7_isWithin p1 (99 : Int32) s1) fun v2 s2 => if v2 = 0 then (some ((-2 : Int32), s2)) else (zbind (f_X7_isWithin p2 (15 : Int32) s2) fun v3 s3 => if v3 = 0 then (some ((-2 : Int32), s3)) else (zbind (f_X5_define p0 p1 p2 p3 s3) fun _ s4 => some ((1 : Int32), s4))))
def rm_X7_clear : Room := { frames := 1, cells := 0, slots := 0, locals := 22 }
def f_X7_clear (σ : zS) : Option (Int32 × zS) := zbind (f_X5_forget σ) fun v1 s1 => some (v1, s1)
def rm_X7_run : Room := { frames := 6, cells := 0, slots := 0, locals := 156 }
def f_X7_run_L32 : Nat → Int32 → Int32 → Int32 → Int32 → zS → Option (Int32 × zS)
  | 0, _, _, _, _, _ => none
  | n + 1, x1, x2, x3, x4, σ => if (300 : Int32) ≤ x4 then (zbind (f_X6_finish σ) fun v4 s5 => some (v4, s5)) else (zbind (f_X6_isGoing σ) fun v5 s6 => if v5 = 0 then (zbind (f_X6_finish s6) fun v6 s7 => some (v6, s7)) else (zbind (f_X6_step s6) fun v7 s8 => zbind (f_X6_settle v7 s8) fun _ s9 => f_X7_run_L32 n x1 x2 x3 (x4 + (1 : Int32)) s9))
def f_X7_run (p0 : Int32) (p1 : Int32) (p2 : Int32) (σ : zS) : Option (Int32 × zS) := zbind (f_X5_hasRoutine p0 σ) fun v1 s1 => if v1 = 0 then (some ((-1 : Int32), s1)) else (zbind (f_X7_word p1 s1) fun v2 s2 => zbind (f_X7_word p2 s2) fun v3 s3 => zbind (f_X6_begin p0 v2 v3 s3) fun _ s4 => f_X7_run_L32 zF p0 p1 p2 (0 : Int32) s4)
def rm_X7_told : Room := { frames := 1, cells := 0, slots := 0, locals := 20 }
def f_X7_told (p0 : Int32) (σ : zS) : Option (Int32 × zS) := if p0 = (0 : Int32) then (some ((σ 13 10), σ)) else (if p0 = (1 : Int32) then (zbind (f_X7_number (σ 13 12) σ) fun v1 s1 => some (v1, s1)) else (if p0 = (2 : Int32) then (some ((σ 13 13), σ)) else (if p0 = (3 : Int32) then (some ((σ 13 14), σ)) else (if p0 = (4 : Int32) then (some ((σ 13 15), σ)) else (if p0 = (5 : Int32) then (some ((σ 41 1), σ)) else (if p0 = (6 : Int32) then (some ((σ 14 4), σ)) else (if p0 = (7 : Int32) then (some ((σ 5 3), σ)) else (if p0 = (8 : Int32) then (some ((σ 3 2), σ)) else (some ((-2 : Int32), σ))))))))))
def rm_X7_left : Room := { frames := 1, cells := 0, slots := 0, locals := 21 }
def f_X7_left (p0 : Int32) (σ : zS) : Option (Int32 × zS) := zbind (f_X7_isWithin p0 (7 : Int32) σ) fun v1 s1 => if v1 = 0 then (some ((-1 : Int32), s1)) else (zc p0 8 (some ((s1 43 (p0).toNatClampNeg), s1)))
end
section
set_option maxHeartbeats 4000000 in
set_option maxRecDepth 100000 in
theorem g_X0_record {E : zG} {Γ : zX} (C : zO E Γ RX0 cX0_record 2 (some .int)) (p0 : Int32) (σ : zS) : zJ E Γ rm_X0_record 2 (fun r : Int32 => some (.int r)) (f_X0_record p0 σ) σ 0 [some (.ref (zad E 3)), some (.int p0)] [] := by
  unfold f_X0_record
  refine r_aload_n (pc := 0) C dX0_record_0 rfl ?_
  refine r_get (pc := 1) C K_X0 3 2 (by decide) rfl (by decide) lk_f_X0_22 rfl dX0_record_1 ?_
  refine r_bipush (pc := 4) (v := 50) C dX0_record_4 (by decide) ?_
  refine r_icmp_lt (pc := 6) (tgt := 12) C dX0_record_6 (by decide) (fun _ => ?_) (fun _ => ?_)
  · refine r_aload_n (pc := 12) C dX0_record_12 rfl ?_
    refine r_get (pc := 13) C K_X0 3 0 (by decide) rfl (by decide) lk_f_X0_9 rfl dX0_record_13 ?_
    refine r_aload_n (pc := 16) C dX0_record_16 rfl ?_
    refine r_get (pc := 17) C K_X0 3 1 (by decide) rfl (by decide) lk_f_X0_25 rfl dX0_record_17 ?_
    refine r_aload_n (pc := 20) C dX0_record_20 rfl ?_
    refine r_get (pc := 21) C K_X0 3 2 (by decide) rfl (by decide) lk_f_X0_22 rfl dX0_record_21 ?_
    refine r_iadd (pc := 24) C dX0_record_24 ?_
    refine r_bipush (pc := 25) (v := 50) C dX0_record_25 (by decide) ?_
    refine r_irem (pc := 27) C dX0_record_27 ?_
    refine r_iload_n (pc := 28) C dX0_record_28 rfl ?_
    refine r_iast (pc := 29) (t0 := 0) C 4 (by decide) rfl (fun _ => rfl) rfl dX0_record_29 (fun s1 _ => ?_)
    refine r_aload_n (pc := 30) C dX0_record_30 rfl ?_
    refine r_dup (pc := 31) C dX0_record_31 rfl ?_
    refine r_get (pc := 32) C K_X0 3 2 (by decide) rfl (by decide) lk_f_X0_22 rfl dX0_record_32 ?_
    refine r_iconst (pc := 35) (v := 1) C dX0_record_35 (by decide) ?_
    refine r_iadd (pc := 36) C dX0_record_36 ?_
    refine r_put (pc := 37) C K_X0 3 2 (by decide) rfl (by decide) lk_f_X0_22 rfl rfl (Nat.le_of_ble_eq_true rfl) rfl dX0_record_37 (fun s2 _ => ?_)
    refine r_aload_n (pc := 40) C dX0_record_40 rfl ?_
    refine r_get (pc := 41) C K_X0 3 2 (by decide) rfl (by decide) lk_f_X0_22 rfl dX0_record_41 ?_
    exact r_iret (pc := 44) C dX0_record_44
  · refine r_bipush (pc := 9) (v := -3) C dX0_record_9 (by decide) ?_
    exact r_iret (pc := 11) C dX0_record_11
theorem c_X0_record {E : zG} (hAp : zAp E) (p0 : Int32) (σ : zS) : zM E yX0_record cX0_record 2 (some .int) rm_X0_record (fun r : Int32 => some (.int r)) [.ref (zad E 3), .int p0] (f_X0_record p0 σ) σ :=
  zM_of (nn := 0) hAp (by decide) (Nat.le_of_ble_eq_true rfl) rfl rfl (fun Γ C => g_X0_record C p0 σ)
set_option maxHeartbeats 4000000 in
set_option maxRecDepth 100000 in
theorem g_X0_nextOfSeed {E : zG} {Γ : zX} (C : zO E Γ RX0 cX0_nextOfSeed 1 (some .int)) (σ : zS) : zJ E Γ rm_X0_nextOfSeed 1 (fun r : Int32 => some (.int r)) (f_X0_nextOfSeed σ) σ 0 [some (.ref (zad E 3))] [] := by
  unfold f_X0_nextOfSeed
  refine r_aload_n (pc := 0) C dX0_nextOfSeed_0 rfl ?_
  refine r_aload_n (pc := 1) C dX0_nextOfSeed_1 rfl ?_
  refine r_get (pc := 2) C K_X0 3 4 (by decide) rfl (by decide) lk_f_X0_19 rfl dX0_nextOfSeed_2 ?_
  refine r_ldc (pc := 5) (v := 1103515245) C dX0_nextOfSeed_5 lk_k_X0_47 ?_
  refine r_imul (pc := 7) C dX0_nextOfSeed_7 ?_
  refine r_sipush (pc := 8) (v := 12345) C dX0_nextOfSeed_8 (by decide) ?_
  refine r_iadd (pc := 11) C dX0_nextOfSeed_11 ?_
  refine r_ldc (pc := 12) (v := 2147483647) C dX0_nextOfSeed_12 lk_k_X0_48 ?_
  refine r_iand (pc := 14) C dX0_nextOfSeed_14 ?_
  refine r_put (pc := 15) C K_X0 3 4 (by decide) rfl (by decide) lk_f_X0_19 rfl rfl (Nat.le_of_ble_eq_true rfl) rfl dX0_nextOfSeed_15 (fun s1 _ => ?_)
  refine r_aload_n (pc := 18) C dX0_nextOfSeed_18 rfl ?_
  refine r_get (pc := 19) C K_X0 3 4 (by decide) rfl (by decide) lk_f_X0_19 rfl dX0_nextOfSeed_19 ?_
  refine r_bipush (pc := 22) (v := 16) C dX0_nextOfSeed_22 (by decide) ?_
  refine r_iushr (pc := 24) C dX0_nextOfSeed_24 ?_
  exact r_iret (pc := 25) C dX0_nextOfSeed_25
theorem c_X0_nextOfSeed {E : zG} (hAp : zAp E) (σ : zS) : zM E yX0_nextOfSeed cX0_nextOfSeed 1 (some .int) rm_X0_nextOfSeed (fun r : Int32 => some (.int r)) [.ref (zad E 3)] (f_X0_nextOfSeed σ) σ :=
  zM_of (nn := 0) hAp (by decide) (Nat.le_of_ble_eq_true rfl) rfl rfl (fun Γ C => g_X0_nextOfSeed C σ)
set_option maxHeartbeats 4000000 in
set_option maxRecDepth 100000 in
theorem g_X0_nextOfTape {E : zG} {Γ : zX} (C : zO E Γ RX0 cX0_nextOfTape 2 (some .int)) (σ : zS) : zJ E Γ rm_X0_nextOfTape 2 (fun r : Int32 => some (.int r)) (f_X0_nextOfTape σ) σ 0 [some (.ref (zad E 3)), none] [] := by
  unfold f_X0_nextOfTape
  refine r_aload_n (pc := 0) C dX0_nextOfTape_0 rfl ?_
  refine r_get (pc := 1) C K_X0 3 0 (by decide) rfl (by decide) lk_f_X0_9 rfl dX0_nextOfTape_1 ?_
  refine r_aload_n (pc := 4) C dX0_nextOfTape_4 rfl ?_
  refine r_get (pc := 5) C K_X0 3 1 (by decide) rfl (by decide) lk_f_X0_25 rfl dX0_nextOfTape_5 ?_
  refine r_iald (pc := 8) (t0 := 0) C 4 (by decide) rfl rfl dX0_nextOfTape_8 ?_
  refine r_leti (fun v1 => ?_)
  refine r_istore_n (pc := 9) (lv' := [some (.ref (zad E 3)), some (.int v1)]) C dX0_nextOfTape_9 (by decide) rfl ?_
  refine r_aload_n (pc := 10) C dX0_nextOfTape_10 rfl ?_
  refine r_aload_n (pc := 11) C dX0_nextOfTape_11 rfl ?_
  refine r_get (pc := 12) C K_X0 3 1 (by decide) rfl (by decide) lk_f_X0_25 rfl dX0_nextOfTape_12 ?_
  refine r_iconst (pc := 15) (v := 1) C dX0_nextOfTape_15 (by decide) ?_
  refine r_iadd (pc := 16) C dX0_nextOfTape_16 ?_
  refine r_bipush (pc := 17) (v := 50) C dX0_nextOfTape_17 (by decide) ?_
  refine r_irem (pc := 19) C dX0_nextOfTape_19 ?_
  refine r_put (pc := 20) C K_X0 3 1 (by decide) rfl (by decide) lk_f_X0_25 rfl rfl (Nat.le_of_ble_eq_true rfl) rfl dX0_nextOfTape_20 (fun s1 _ => ?_)
  refine r_aload_n (pc := 23) C dX0_nextOfTape_23 rfl ?_
  refine r_dup (pc := 24) C dX0_nextOfTape_24 rfl ?_
  refine r_get (pc := 25) C K_X0 3 2 (by decide) rfl (by decide) lk_f_X0_22 rfl dX0_nextOfTape_25 ?_
  refine r_iconst (pc := 28) (v := 1) C dX0_nextOfTape_28 (by decide) ?_
  refine r_isub (pc := 29) C dX0_nextOfTape_29 ?_
  refine r_put (pc := 30) C K_X0 3 2 (by decide) rfl (by decide) lk_f_X0_22 rfl rfl (Nat.le_of_ble_eq_true rfl) rfl dX0_nextOfTape_30 (fun s2 _ => ?_)
  refine r_iload_n (pc := 33) C dX0_nextOfTape_33 rfl ?_
  exact r_iret (pc := 34) C dX0_nextOfTape_34
theorem c_X0_nextOfTape {E : zG} (hAp : zAp E) (σ : zS) : zM E yX0_nextOfTape cX0_nextOfTape 2 (some .int) rm_X0_nextOfTape (fun r : Int32 => some (.int r)) [.ref (zad E 3)] (f_X0_nextOfTape σ) σ :=
  zM_of (nn := 1) hAp (by decide) (Nat.le_of_ble_eq_true rfl) rfl rfl (fun Γ C => g_X0_nextOfTape C σ)
set_option maxHeartbeats 4000000 in
set_option maxRecDepth 100000 in
theorem g_X0_nextOfCount {E : zG} {Γ : zX} (C : zO E Γ RX0 cX0_nextOfCount 2 (some .int)) (σ : zS) : zJ E Γ rm_X0_nextOfCount 2 (fun r : Int32 => some (.int r)) (f_X0_nextOfCount σ) σ 0 [some (.ref (zad E 3)), none] [] := by
  unfold f_X0_nextOfCount
  refine r_aload_n (pc := 0) C dX0_nextOfCount_0 rfl ?_
  refine r_get (pc := 1) C K_X0 3 5 (by decide) rfl (by decide) lk_f_X0_35 rfl dX0_nextOfCount_1 ?_
  refine r_istore_n (pc := 4) (lv' := [some (.ref (zad E 3)), some (.int (σ 3 5))]) C dX0_nextOfCount_4 (by decide) rfl ?_
  refine r_aload_n (pc := 5) C dX0_nextOfCount_5 rfl ?_
  refine r_iload_n (pc := 6) C dX0_nextOfCount_6 rfl ?_
  refine r_iconst (pc := 7) (v := 1) C dX0_nextOfCount_7 (by decide) ?_
  refine r_iadd (pc := 8) C dX0_nextOfCount_8 ?_
  refine r_aload_n (pc := 9) C dX0_nextOfCount_9 rfl ?_
  refine r_get (pc := 10) C K_X0 3 6 (by decide) rfl (by decide) lk_f_X0_32 rfl dX0_nextOfCount_10 ?_
  refine r_icmp_ge (pc := 13) (tgt := 22) C dX0_nextOfCount_13 (by decide) (fun _ => ?_) (fun _ => ?_)
  · refine r_iconst (pc := 22) (v := 0) C dX0_nextOfCount_22 (by decide) ?_
    refine r_put (pc := 23) C K_X0 3 5 (by decide) rfl (by decide) lk_f_X0_35 rfl rfl (Nat.le_of_ble_eq_true rfl) rfl dX0_nextOfCount_23 (fun s1 _ => ?_)
    refine r_iload_n (pc := 26) C dX0_nextOfCount_26 rfl ?_
    exact r_iret (pc := 27) C dX0_nextOfCount_27
  · refine r_iload_n (pc := 16) C dX0_nextOfCount_16 rfl ?_
    refine r_iconst (pc := 17) (v := 1) C dX0_nextOfCount_17 (by decide) ?_
    refine r_iadd (pc := 18) C dX0_nextOfCount_18 ?_
    refine r_goto (pc := 19) (tgt := 23) C dX0_nextOfCount_19 (by decide) ?_
    refine r_put (pc := 23) C K_X0 3 5 (by decide) rfl (by decide) lk_f_X0_35 rfl rfl (Nat.le_of_ble_eq_true rfl) rfl dX0_nextOfCount_23 (fun s2 _ => ?_)
    refine r_iload_n (pc := 26) C dX0_nextOfCount_26 rfl ?_
    exact r_iret (pc := 27) C dX0_nextOfCount_27
theorem c_X0_nextOfCount {E : zG} (hAp : zAp E) (σ : zS) : zM E yX0_nextOfCount cX0_nextOfCount 2 (some .int) rm_X0_nextOfCount (fun r : Int32 => some (.int r)) [.ref (zad E 3)] (f_X0_nextOfCount σ) σ :=
  zM_of (nn := 1) hAp (by decide) (Nat.le_of_ble_eq_true rfl) rfl rfl (fun Γ C => g_X0_nextOfCount C σ)
set_option maxHeartbeats 4000000 in
set_option maxRecDepth 100000 in
theorem g_X0_next {E : zG} {Γ : zX} (C : zO E Γ RX0 cX0_next 1 (some .int)) (σ : zS) : zJ E Γ rm_X0_next 1 (fun r : Int32 => some (.int r)) (f_X0_next σ) σ 0 [some (.ref (zad E 3))] [] := by
  unfold f_X0_next
  refine r_aload_n (pc := 0) C dX0_next_0 rfl ?_
  refine r_get (pc := 1) C K_X0 3 3 (by decide) rfl (by decide) lk_f_X0_15 rfl dX0_next_1 ?_
  refine r_iconst (pc := 4) (v := 1) C dX0_next_4 (by decide) ?_
  refine r_icmp_ne (pc := 5) (tgt := 13) C dX0_next_5 (by decide) (fun _ => ?_) (fun _ => ?_)
  · refine r_aload_n (pc := 8) C dX0_next_8 rfl ?_
    refine r_callV (pc := 9) C 3 (c_X0_nextOfCount (zO.ap C)  _) lk_c_X0_nextOfCount lk_i_X0 lk_m_X0_38 lk_n_X0_nextOfCount lk_v_X0_nextOfCount (n := 0) (by decide +kernel) rfl ⟨rfl, rfl⟩ (by decide) (by decide) rfl rfl rfl (Nat.le_of_ble_eq_true rfl) ⟨Nat.zero_le _, Nat.zero_le _⟩ dX0_next_9 (fun v4 s4 _ => ?_)
    exact r_iret (pc := 12) C dX0_next_12
  · refine r_aload_n (pc := 13) C dX0_next_13 rfl ?_
    refine r_get (pc := 14) C K_X0 3 3 (by decide) rfl (by decide) lk_f_X0_15 rfl dX0_next_14 ?_
    refine r_iconst (pc := 17) (v := 2) C dX0_next_17 (by decide) ?_
    refine r_icmp_ne (pc := 18) (tgt := 35) C dX0_next_18 (by decide) (fun _ => ?_) (fun _ => ?_)
    · refine r_aload_n (pc := 21) C dX0_next_21 rfl ?_
      refine r_get (pc := 22) C K_X0 3 2 (by decide) rfl (by decide) lk_f_X0_22 rfl dX0_next_22 ?_
      refine r_if_le (pc := 25) (tgt := 35) C dX0_next_25 (by decide) (fun _ => ?_) (fun _ => ?_)
      · refine r_aload_n (pc := 35) C dX0_next_35 rfl ?_
        refine r_callV (pc := 36) C 3 (c_X0_nextOfSeed (zO.ap C)  _) lk_c_X0_nextOfSeed lk_i_X0 lk_m_X0_44 lk_n_X0_nextOfSeed lk_v_X0_nextOfSeed (n := 0) (by decide +kernel) rfl ⟨rfl, rfl⟩ (by decide) (by decide) rfl rfl rfl (Nat.le_of_ble_eq_true rfl) ⟨Nat.zero_le _, Nat.zero_le _⟩ dX0_next_36 (fun v2 s2 _ => ?_)
        exact r_iret (pc := 39) C dX0_next_39
      · refine r_aload_n (pc := 28) C dX0_next_28 rfl ?_
        refine r_callV (pc := 29) C 3 (c_X0_nextOfTape (zO.ap C)  _) lk_c_X0_nextOfTape lk_i_X0 lk_m_X0_41 lk_n_X0_nextOfTape lk_v_X0_nextOfTape (n := 0) (by decide +kernel) rfl ⟨rfl, rfl⟩ (by decide) (by decide) rfl rfl rfl (Nat.le_of_ble_eq_true rfl) ⟨Nat.zero_le _, Nat.zero_le _⟩ dX0_next_29 (fun v3 s3 _ => ?_)
        refine r_goto (pc := 32) (tgt := 39) C dX0_next_32 (by decide) ?_
        exact r_iret (pc := 39) C dX0_next_39
    · refine r_aload_n (pc := 35) C dX0_next_35 rfl ?_
      refine r_callV (pc := 36) C 3 (c_X0_nextOfSeed (zO.ap C)  _) lk_c_X0_nextOfSeed lk_i_X0 lk_m_X0_44 lk_n_X0_nextOfSeed lk_v_X0_nextOfSeed (n := 0) (by decide +kernel) rfl ⟨rfl, rfl⟩ (by decide) (by decide) rfl rfl rfl (Nat.le_of_ble_eq_true rfl) ⟨Nat.zero_le _, Nat.zero_le _⟩ dX0_next_36 (fun v1 s1 _ => ?_)
      exact r_iret (pc := 39) C dX0_next_39
theorem c_X0_next {E : zG} (hAp : zAp E) (σ : zS) : zM E yX0_next cX0_next 1 (some .int) rm_X0_next (fun r : Int32 => some (.int r)) [.ref (zad E 3)] (f_X0_next σ) σ :=
  zM_of (nn := 0) hAp (by decide) (Nat.le_of_ble_eq_true rfl) rfl rfl (fun Γ C => g_X0_next C σ)
set_option maxHeartbeats 4000000 in
set_option maxRecDepth 100000 in
theorem g_X0_draw {E : zG} {Γ : zX} (C : zO E Γ RX0 cX0_draw 2 (some .int)) (p0 : Int32) (σ : zS) : zJ E Γ rm_X0_draw 2 (fun r : Int32 => some (.int r)) (f_X0_draw p0 σ) σ 0 [some (.ref (zad E 3)), some (.int p0)] [] := by
  unfold f_X0_draw
  refine r_iload_n (pc := 0) C dX0_draw_0 rfl ?_
  refine r_if_le (pc := 1) (tgt := 13) C dX0_draw_1 (by decide) (fun _ => ?_) (fun _ => ?_)
  · refine r_iload_n (pc := 13) C dX0_draw_13 rfl ?_
    refine r_if_ne (pc := 14) (tgt := 25) C dX0_draw_14 (by decide) (fun _ => ?_) (fun _ => ?_)
    · refine r_aload_n (pc := 17) C dX0_draw_17 rfl ?_
      refine r_iconst (pc := 18) (v := 2) C dX0_draw_18 (by decide) ?_
      refine r_put (pc := 19) C K_X0 3 3 (by decide) rfl (by decide) lk_f_X0_15 rfl rfl (Nat.le_of_ble_eq_true rfl) rfl dX0_draw_19 (fun s6 _ => ?_)
      refine r_goto (pc := 22) (tgt := 63) C dX0_draw_22 (by decide) ?_
      refine r_iconst (pc := 63) (v := 0) C dX0_draw_63 (by decide) ?_
      exact r_iret (pc := 64) C dX0_draw_64
    · refine r_iload_n (pc := 25) C dX0_draw_25 rfl ?_
      refine r_ineg (pc := 26) C dX0_draw_26 ?_
      refine r_sipush (pc := 27) (v := 1000) C dX0_draw_27 (by decide) ?_
      refine r_icmp_ge (pc := 30) (tgt := 52) C dX0_draw_30 (by decide) (fun _ => ?_) (fun _ => ?_)
      · refine r_aload_n (pc := 52) C dX0_draw_52 rfl ?_
        refine r_iconst (pc := 53) (v := 0) C dX0_draw_53 (by decide) ?_
        refine r_put (pc := 54) C K_X0 3 3 (by decide) rfl (by decide) lk_f_X0_15 rfl rfl (Nat.le_of_ble_eq_true rfl) rfl dX0_draw_54 (fun s1 _ => ?_)
        refine r_aload_n (pc := 57) C dX0_draw_57 rfl ?_
        refine r_iload_n (pc := 58) C dX0_draw_58 rfl ?_
        refine r_ineg (pc := 59) C dX0_draw_59 ?_
        refine r_put (pc := 60) C K_X0 3 4 (by decide) rfl (by decide) lk_f_X0_19 rfl rfl (Nat.le_of_ble_eq_true rfl) rfl dX0_draw_60 (fun s2 _ => ?_)
        refine r_iconst (pc := 63) (v := 0) C dX0_draw_63 (by decide) ?_
        exact r_iret (pc := 64) C dX0_draw_64
      · refine r_aload_n (pc := 33) C dX0_draw_33 rfl ?_
        refine r_iconst (pc := 34) (v := 1) C dX0_draw_34 (by decide) ?_
        refine r_put (pc := 35) C K_X0 3 3 (by decide) rfl (by decide) lk_f_X0_15 rfl rfl (Nat.le_of_ble_eq_true rfl) rfl dX0_draw_35 (fun s3 _ => ?_)
        refine r_aload_n (pc := 38) C dX0_draw_38 rfl ?_
        refine r_iload_n (pc := 39) C dX0_draw_39 rfl ?_
        refine r_ineg (pc := 40) C dX0_draw_40 ?_
        refine r_put (pc := 41) C K_X0 3 6 (by decide) rfl (by decide) lk_f_X0_32 rfl rfl (Nat.le_of_ble_eq_true rfl) rfl dX0_draw_41 (fun s4 _ => ?_)
        refine r_aload_n (pc := 44) C dX0_draw_44 rfl ?_
        refine r_iconst (pc := 45) (v := 0) C dX0_draw_45 (by decide) ?_
        refine r_put (pc := 46) C K_X0 3 5 (by decide) rfl (by decide) lk_f_X0_35 rfl rfl (Nat.le_of_ble_eq_true rfl) rfl dX0_draw_46 (fun s5 _ => ?_)
        refine r_goto (pc := 49) (tgt := 63) C dX0_draw_49 (by decide) ?_
        refine r_iconst (pc := 63) (v := 0) C dX0_draw_63 (by decide) ?_
        exact r_iret (pc := 64) C dX0_draw_64
  · refine r_aload_n (pc := 4) C dX0_draw_4 rfl ?_
    refine r_callV (pc := 5) C 3 (c_X0_next (zO.ap C)  _) lk_c_X0_next lk_i_X0 lk_m_X0_28 lk_n_X0_next lk_v_X0_next (n := 0) (by decide +kernel) rfl ⟨rfl, rfl⟩ (by decide) (by decide) rfl rfl rfl (Nat.le_of_ble_eq_true rfl) ⟨Nat.zero_le _, Nat.zero_le _⟩ dX0_draw_5 (fun v1 s7 _ => ?_)
    refine r_iload_n (pc := 8) C dX0_draw_8 rfl ?_
    refine r_irem (pc := 9) C dX0_draw_9 ?_
    refine r_iconst (pc := 10) (v := 1) C dX0_draw_10 (by decide) ?_
    refine r_iadd (pc := 11) C dX0_draw_11 ?_
    exact r_iret (pc := 12) C dX0_draw_12
theorem c_X0_draw {E : zG} (hAp : zAp E) (p0 : Int32) (σ : zS) : zM E yX0_draw cX0_draw 2 (some .int) rm_X0_draw (fun r : Int32 => some (.int r)) [.ref (zad E 3), .int p0] (f_X0_draw p0 σ) σ :=
  zM_of (nn := 0) hAp (by decide) (Nat.le_of_ble_eq_true rfl) rfl rfl (fun Γ C => g_X0_draw C p0 σ)
set_option maxHeartbeats 4000000 in
set_option maxRecDepth 100000 in
theorem g_X1_hasLocal {E : zG} {Γ : zX} (C : zO E Γ RX1 cX1_hasLocal 2 (some .boolean)) {i : Nat} (hi : i < 12) (p0 : Int32) (σ : zS) : zJ E Γ rm_X1_hasLocal 2 (fun r : Int32 => some (.int r)) (f_X1_hasLocal i p0 σ) σ 0 [some (.ref (zad E (16 + 2 * i))), some (.int p0)] [] := by
  unfold f_X1_hasLocal
  refine r_iload_n (pc := 0) C dX1_hasLocal_0 rfl ?_
  refine r_iconst (pc := 1) (v := 1) C dX1_hasLocal_1 (by decide) ?_
  refine r_icmp_lt (pc := 2) (tgt := 17) C dX1_hasLocal_2 (by decide) (fun _ => ?_) (fun _ => ?_)
  · refine r_iconst (pc := 17) (v := 0) C dX1_hasLocal_17 (by decide) ?_
    exact r_zret (pc := 18) C (by first | rfl | decide) dX1_hasLocal_18
  · refine r_iload_n (pc := 5) C dX1_hasLocal_5 rfl ?_
    refine r_aload_n (pc := 6) C dX1_hasLocal_6 rfl ?_
    refine r_get (pc := 7) C K_X1 (16 + 2 * i) 1 (lt_F hi) (ly_F hi _) (by decide) lk_f_X1_19 rfl dX1_hasLocal_7 ?_
    refine r_icmp_gt (pc := 10) (tgt := 17) C dX1_hasLocal_10 (by decide) (fun _ => ?_) (fun _ => ?_)
    · refine r_iconst (pc := 17) (v := 0) C dX1_hasLocal_17 (by decide) ?_
      exact r_zret (pc := 18) C (by first | rfl | decide) dX1_hasLocal_18
    · refine r_iconst (pc := 13) (v := 1) C dX1_hasLocal_13 (by decide) ?_
      refine r_goto (pc := 14) (tgt := 18) C dX1_hasLocal_14 (by decide) ?_
      exact r_zret (pc := 18) C (by first | rfl | decide) dX1_hasLocal_18
theorem c_X1_hasLocal {E : zG} (hAp : zAp E) {i : Nat} (hi : i < 12) (p0 : Int32) (σ : zS) : zM E yX1_hasLocal cX1_hasLocal 2 (some .boolean) rm_X1_hasLocal (fun r : Int32 => some (.int r)) [.ref (zad E (16 + 2 * i)), .int p0] (f_X1_hasLocal i p0 σ) σ :=
  zM_of (nn := 0) hAp (by decide) (Nat.le_of_ble_eq_true rfl) rfl rfl (fun Γ C => g_X1_hasLocal C hi p0 σ)
set_option maxHeartbeats 4000000 in
set_option maxRecDepth 100000 in
theorem g_X1_local {E : zG} {Γ : zX} (C : zO E Γ RX1 cX1_local 2 (some .int)) {i : Nat} (hi : i < 12) (p0 : Int32) (σ : zS) : zJ E Γ rm_X1_local 2 (fun r : Int32 => some (.int r)) (f_X1_local i p0 σ) σ 0 [some (.ref (zad E (16 + 2 * i))), some (.int p0)] [] := by
  unfold f_X1_local
  refine r_aload_n (pc := 0) C dX1_local_0 rfl ?_
  refine r_iload_n (pc := 1) C dX1_local_1 rfl ?_
  refine r_callV (pc := 2) C (16 + 2 * i) (c_X1_hasLocal (zO.ap C) hi _ _) lk_c_X1_hasLocal lk_i_X1 lk_m_X1_15 lk_n_X1_hasLocal lk_v_X1_hasLocal (n := 1) (by decide +kernel) rfl ⟨rfl, rfl⟩ (by decide) (lt_F hi) (ly_F hi _) rfl rfl (Nat.le_of_ble_eq_true rfl) ⟨Nat.zero_le _, Nat.zero_le _⟩ dX1_local_2 (fun v1 s1 _ => ?_)
  refine r_if_eq (pc := 5) (tgt := 19) C dX1_local_5 (by decide) (fun _ => ?_) (fun _ => ?_)
  · refine r_bipush (pc := 19) (v := -17) C dX1_local_19 (by decide) ?_
    exact r_iret (pc := 21) C dX1_local_21
  · refine r_aload_n (pc := 8) C dX1_local_8 rfl ?_
    refine r_get (pc := 9) C K_X1 (16 + 2 * i) 0 (lt_F hi) (ly_F hi _) (by decide) lk_f_X1_9 rfl dX1_local_9 ?_
    refine r_iload_n (pc := 12) C dX1_local_12 rfl ?_
    refine r_iconst (pc := 13) (v := 1) C dX1_local_13 (by decide) ?_
    refine r_isub (pc := 14) C dX1_local_14 ?_
    refine r_iald (pc := 15) (t0 := 0) C (17 + 2 * i) (lt_FL hi) (ly_FL hi _) rfl dX1_local_15 ?_
    refine r_goto (pc := 16) (tgt := 21) C dX1_local_16 (by decide) ?_
    exact r_iret (pc := 21) C dX1_local_21
theorem c_X1_local {E : zG} (hAp : zAp E) {i : Nat} (hi : i < 12) (p0 : Int32) (σ : zS) : zM E yX1_local cX1_local 2 (some .int) rm_X1_local (fun r : Int32 => some (.int r)) [.ref (zad E (16 + 2 * i)), .int p0] (f_X1_local i p0 σ) σ :=
  zM_of (nn := 0) hAp (by decide) (Nat.le_of_ble_eq_true rfl) rfl rfl (fun Γ C => g_X1_local C hi p0 σ)
set_option maxHeartbeats 4000000 in
set_option maxRecDepth 100000 in
theorem g_X1_setLocal {E : zG} {Γ : zX} (C : zO E Γ RX1 cX1_setLocal 3 (some .int)) {i : Nat} (hi : i < 12) (p0 : Int32) (p1 : Int32) (σ : zS) : zJ E Γ rm_X1_setLocal 3 (fun r : Int32 => some (.int r)) (f_X1_setLocal i p0 p1 σ) σ 0 [some (.ref (zad E (16 + 2 * i))), some (.int p0), some (.int p1)] [] := by
  unfold f_X1_setLocal
  refine r_aload_n (pc := 0) C dX1_setLocal_0 rfl ?_
  refine r_iload_n (pc := 1) C dX1_setLocal_1 rfl ?_
  refine r_callV (pc := 2) C (16 + 2 * i) (c_X1_hasLocal (zO.ap C) hi _ _) lk_c_X1_hasLocal lk_i_X1 lk_m_X1_15 lk_n_X1_hasLocal lk_v_X1_hasLocal (n := 1) (by decide +kernel) rfl ⟨rfl, rfl⟩ (by decide) (lt_F hi) (ly_F hi _) rfl rfl (Nat.le_of_ble_eq_true rfl) ⟨Nat.zero_le _, Nat.zero_le _⟩ dX1_setLocal_2 (fun v1 s1 _ => ?_)
  refine r_if_ne (pc := 5) (tgt := 11) C dX1_setLocal_5 (by decide) (fun _ => ?_) (fun _ => ?_)
  · refine r_bipush (pc := 8) (v := -17) C dX1_setLocal_8 (by decide) ?_
    exact r_iret (pc := 10) C dX1_setLocal_10
  · refine r_aload_n (pc := 11) C dX1_setLocal_11 rfl ?_
    refine r_get (pc := 12) C K_X1 (16 + 2 * i) 0 (lt_F hi) (ly_F hi _) (by decide) lk_f_X1_9 rfl dX1_setLocal_12 ?_
    refine r_iload_n (pc := 15) C dX1_setLocal_15 rfl ?_
    refine r_iconst (pc := 16) (v := 1) C dX1_setLocal_16 (by decide) ?_
    refine r_isub (pc := 17) C dX1_setLocal_17 ?_
    refine r_iload_n (pc := 18) C dX1_setLocal_18 rfl ?_
    refine r_iast (pc := 19) (t0 := 0) C (17 + 2 * i) (lt_FL hi) (ly_FL hi _) (fun f => ly_FL hi f) rfl dX1_setLocal_19 (fun s2 _ => ?_)
    refine r_iconst (pc := 20) (v := 1) C dX1_setLocal_20 (by decide) ?_
    exact r_iret (pc := 21) C dX1_setLocal_21
theorem c_X1_setLocal {E : zG} (hAp : zAp E) {i : Nat} (hi : i < 12) (p0 : Int32) (p1 : Int32) (σ : zS) : zM E yX1_setLocal cX1_setLocal 3 (some .int) rm_X1_setLocal (fun r : Int32 => some (.int r)) [.ref (zad E (16 + 2 * i)), .int p0, .int p1] (f_X1_setLocal i p0 p1 σ) σ :=
  zM_of (nn := 0) hAp (by decide) (Nat.le_of_ble_eq_true rfl) rfl rfl (fun Γ C => g_X1_setLocal C hi p0 p1 σ)
set_option maxHeartbeats 4000000 in
set_option maxRecDepth 100000 in
theorem g_X2_begin {E : zG} {Γ : zX} (C : zO E Γ RX2 cX2_begin 1 none) (σ : zS) : zJ E Γ rm_X2_begin 1 (fun _ : Unit => none) (f_X2_begin σ) σ 0 [some (.ref (zad E 14))] [] := by
  unfold f_X2_begin
  refine r_aload_n (pc := 0) C dX2_begin_0 rfl ?_
  refine r_iconst (pc := 1) (v := 0) C dX2_begin_1 (by decide) ?_
  refine r_put (pc := 2) C K_X2 14 2 (by decide) rfl (by decide) lk_f_X2_22 rfl rfl (Nat.le_of_ble_eq_true rfl) rfl dX2_begin_2 (fun s1 _ => ?_)
  refine r_aload_n (pc := 5) C dX2_begin_5 rfl ?_
  refine r_iconst (pc := 6) (v := 0) C dX2_begin_6 (by decide) ?_
  refine r_put (pc := 7) C K_X2 14 3 (by decide) rfl (by decide) lk_f_X2_26 rfl rfl (Nat.le_of_ble_eq_true rfl) rfl dX2_begin_7 (fun s2 _ => ?_)
  refine r_aload_n (pc := 10) C dX2_begin_10 rfl ?_
  refine r_iconst (pc := 11) (v := 0) C dX2_begin_11 (by decide) ?_
  refine r_put (pc := 12) C K_X2 14 4 (by decide) rfl (by decide) lk_f_X2_29 rfl rfl (Nat.le_of_ble_eq_true rfl) rfl dX2_begin_12 (fun s3 _ => ?_)
  exact r_vret (pc := 15) C dX2_begin_15
theorem c_X2_begin {E : zG} (hAp : zAp E) (σ : zS) : zM E yX2_begin cX2_begin 1 none rm_X2_begin (fun _ : Unit => none) [.ref (zad E 14)] (f_X2_begin σ) σ :=
  zM_of (nn := 0) hAp (by decide) (Nat.le_of_ble_eq_true rfl) rfl rfl (fun Γ C => g_X2_begin C σ)
set_option maxHeartbeats 4000000 in
set_option maxRecDepth 100000 in
theorem g_X2_top {E : zG} {Γ : zX} (C : zO E Γ RX2 cX2_top 1 (some (.object "ZMemory$Frame"))) (σ : zS) : zJ E Γ rm_X2_top 1 (zrf E 16) (f_X2_top σ) σ 0 [some (.ref (zad E 14))] [] := by
  unfold f_X2_top
  refine r_aload_n (pc := 0) C dX2_top_0 rfl ?_
  refine r_get (pc := 1) C K_X2 14 0 (by decide) rfl (by decide) lk_f_X2_11 rfl dX2_top_1 ?_
  refine r_aload_n (pc := 4) C dX2_top_4 rfl ?_
  refine r_get (pc := 5) C K_X2 14 3 (by decide) rfl (by decide) lk_f_X2_26 rfl dX2_top_5 ?_
  refine r_if_le (pc := 8) (tgt := 20) C dX2_top_8 (by decide) (fun _ => ?_) (fun _ => ?_)
  · refine r_iconst (pc := 20) (v := 0) C dX2_top_20 (by decide) ?_
    refine r_aald (pc := 21) (t0 := 2) C 15 (by decide) rfl rfl (zad E (16 + 2 * ((0 : Int32)).toNatClampNeg)) (fun _ => rfl) dX2_top_21 (fun h1 => ?_)
    exact r_aret (pc := 22) (v := ((0 : Int32)).toNatClampNeg) C rfl dX2_top_22
  · refine r_aload_n (pc := 11) C dX2_top_11 rfl ?_
    refine r_get (pc := 12) C K_X2 14 3 (by decide) rfl (by decide) lk_f_X2_26 rfl dX2_top_12 ?_
    refine r_iconst (pc := 15) (v := 1) C dX2_top_15 (by decide) ?_
    refine r_isub (pc := 16) C dX2_top_16 ?_
    refine r_goto (pc := 17) (tgt := 21) C dX2_top_17 (by decide) ?_
    refine r_aald (pc := 21) (t0 := 2) C 15 (by decide) rfl rfl (zad E (16 + 2 * (((σ 14 3) - (1 : Int32))).toNatClampNeg)) (fun _ => rfl) dX2_top_21 (fun h2 => ?_)
    exact r_aret (pc := 22) (v := (((σ 14 3) - (1 : Int32))).toNatClampNeg) C rfl dX2_top_22
theorem c_X2_top {E : zG} (hAp : zAp E) (σ : zS) : zM E yX2_top cX2_top 1 (some (.object "ZMemory$Frame")) rm_X2_top (zrf E 16) [.ref (zad E 14)] (f_X2_top σ) σ :=
  zM_of (nn := 0) hAp (by decide) (Nat.le_of_ble_eq_true rfl) rfl rfl (fun Γ C => g_X2_top C σ)
set_option maxHeartbeats 4000000 in
set_option maxRecDepth 100000 in
theorem g_X2_enter {E : zG} {Γ : zX} (C : zO E Γ RX2 cX2_enter 2 (some (.object "ZMemory$Frame"))) (σ : zS) : zJ E Γ rm_X2_enter 2 (zrf E 16) (f_X2_enter σ) σ 0 [some (.ref (zad E 14)), none] [] := by
  unfold f_X2_enter
  refine r_aload_n (pc := 0) C dX2_enter_0 rfl ?_
  refine r_get (pc := 1) C K_X2 14 3 (by decide) rfl (by decide) lk_f_X2_26 rfl dX2_enter_1 ?_
  refine r_bipush (pc := 4) (v := 12) C dX2_enter_4 (by decide) ?_
  refine r_icmp_lt (pc := 6) (tgt := 11) C dX2_enter_6 (by decide) (fun _ => ?_) (fun _ => ?_)
  · refine r_aload_n (pc := 11) C dX2_enter_11 rfl ?_
    refine r_get (pc := 12) C K_X2 14 0 (by decide) rfl (by decide) lk_f_X2_11 rfl dX2_enter_12 ?_
    refine r_aload_n (pc := 15) C dX2_enter_15 rfl ?_
    refine r_get (pc := 16) C K_X2 14 3 (by decide) rfl (by decide) lk_f_X2_26 rfl dX2_enter_16 ?_
    refine r_aald (pc := 19) (t0 := 2) C 15 (by decide) rfl rfl (zad E (16 + 2 * ((σ 14 3)).toNatClampNeg)) (fun _ => rfl) dX2_enter_19 (fun h1 => ?_)
    refine r_astore_n (pc := 20) (lv' := [some (.ref (zad E 14)), some (.ref (zad E (16 + 2 * ((σ 14 3)).toNatClampNeg)))]) C dX2_enter_20 (by decide) rfl ?_
    refine r_aload_n (pc := 21) C dX2_enter_21 rfl ?_
    refine r_getN (pc := 22) C K_X1 (16 + 2 * ((σ 14 3)).toNatClampNeg) 0 (lt_F h1) (ly_F h1 _) (by decide) lk_fn_X2_32 rfl dX2_enter_22 ?_
    refine r_iconst (pc := 25) (v := 0) C dX2_enter_25 (by decide) ?_
    refine r_fill (pc := 26) C (17 + 2 * ((σ 14 3)).toNatClampNeg) (lt_FL h1) (fun f => ly_FL h1 f) (by decide) lk_m_X2_35 (by decide) (Nat.le_of_ble_eq_true rfl) ⟨Nat.zero_le _, Nat.zero_le _⟩ dX2_enter_26 (fun s1 _ => ?_)
    refine r_aload_n (pc := 29) C dX2_enter_29 rfl ?_
    refine r_aload_n (pc := 30) C dX2_enter_30 rfl ?_
    refine r_get (pc := 31) C K_X2 14 2 (by decide) rfl (by decide) lk_f_X2_22 rfl dX2_enter_31 ?_
    refine r_putN (pc := 34) C K_X1 (16 + 2 * ((σ 14 3)).toNatClampNeg) 5 (lt_F h1) (ly_F h1 _) (by decide) lk_fn_X2_41 rfl rfl (Nat.le_of_ble_eq_true rfl) (ly_Fs h1 _ 5 _ (by decide)) dX2_enter_34 (fun s2 _ => ?_)
    refine r_aload_n (pc := 37) C dX2_enter_37 rfl ?_
    refine r_dup (pc := 38) C dX2_enter_38 rfl ?_
    refine r_get (pc := 39) C K_X2 14 3 (by decide) rfl (by decide) lk_f_X2_26 rfl dX2_enter_39 ?_
    refine r_iconst (pc := 42) (v := 1) C dX2_enter_42 (by decide) ?_
    refine r_iadd (pc := 43) C dX2_enter_43 ?_
    refine r_put (pc := 44) C K_X2 14 3 (by decide) rfl (by decide) lk_f_X2_26 rfl rfl (Nat.le_of_ble_eq_true rfl) rfl dX2_enter_44 (fun s3 _ => ?_)
    refine r_aload_n (pc := 47) C dX2_enter_47 rfl ?_
    refine r_aload_n (pc := 48) C dX2_enter_48 rfl ?_
    refine r_get (pc := 49) C K_X2 14 4 (by decide) rfl (by decide) lk_f_X2_29 rfl dX2_enter_49 ?_
    refine r_aload_n (pc := 52) C dX2_enter_52 rfl ?_
    refine r_get (pc := 53) C K_X2 14 3 (by decide) rfl (by decide) lk_f_X2_26 rfl dX2_enter_53 ?_
    refine r_mmax (pc := 56) C lk_m_X2_44 lk_ms_max lk_mi lk_mc_max (by decide) (Nat.le_of_ble_eq_true rfl) ⟨Nat.zero_le _, Nat.zero_le _⟩ dX2_enter_56 ?_
    refine r_put (pc := 59) C K_X2 14 4 (by decide) rfl (by decide) lk_f_X2_29 rfl rfl (Nat.le_of_ble_eq_true rfl) rfl dX2_enter_59 (fun s4 _ => ?_)
    refine r_aload_n (pc := 62) C dX2_enter_62 rfl ?_
    exact r_aret (pc := 63) (v := ((σ 14 3)).toNatClampNeg) C rfl dX2_enter_63
  · refine r_null (pc := 9) C dX2_enter_9 ?_
    exact r_aretN (pc := 10) C rfl dX2_enter_10
theorem c_X2_enter {E : zG} (hAp : zAp E) (σ : zS) : zM E yX2_enter cX2_enter 2 (some (.object "ZMemory$Frame")) rm_X2_enter (zrf E 16) [.ref (zad E 14)] (f_X2_enter σ) σ :=
  zM_of (nn := 1) hAp (by decide) (Nat.le_of_ble_eq_true rfl) rfl rfl (fun Γ C => g_X2_enter C σ)
set_option maxHeartbeats 4000000 in
set_option maxRecDepth 100000 in
theorem g_X2_leave {E : zG} {Γ : zX} (C : zO E Γ RX2 cX2_leave 1 none) (σ : zS) : zJ E Γ rm_X2_leave 1 (fun _ : Unit => none) (f_X2_leave σ) σ 0 [some (.ref (zad E 14))] [] := by
  unfold f_X2_leave
  refine r_aload_n (pc := 0) C dX2_leave_0 rfl ?_
  refine r_get (pc := 1) C K_X2 14 3 (by decide) rfl (by decide) lk_f_X2_26 rfl dX2_leave_1 ?_
  refine r_if_le (pc := 4) (tgt := 33) C dX2_leave_4 (by decide) (fun _ => ?_) (fun _ => ?_)
  · exact r_vret (pc := 33) C dX2_leave_33
  · refine r_aload_n (pc := 7) C dX2_leave_7 rfl ?_
    refine r_dup (pc := 8) C dX2_leave_8 rfl ?_
    refine r_get (pc := 9) C K_X2 14 3 (by decide) rfl (by decide) lk_f_X2_26 rfl dX2_leave_9 ?_
    refine r_iconst (pc := 12) (v := 1) C dX2_leave_12 (by decide) ?_
    refine r_isub (pc := 13) C dX2_leave_13 ?_
    refine r_put (pc := 14) C K_X2 14 3 (by decide) rfl (by decide) lk_f_X2_26 rfl rfl (Nat.le_of_ble_eq_true rfl) rfl dX2_leave_14 (fun s1 _ => ?_)
    refine r_aload_n (pc := 17) C dX2_leave_17 rfl ?_
    refine r_aload_n (pc := 18) C dX2_leave_18 rfl ?_
    refine r_get (pc := 19) C K_X2 14 0 (by decide) rfl (by decide) lk_f_X2_11 rfl dX2_leave_19 ?_
    refine r_aload_n (pc := 22) C dX2_leave_22 rfl ?_
    refine r_get (pc := 23) C K_X2 14 3 (by decide) rfl (by decide) lk_f_X2_26 rfl dX2_leave_23 ?_
    refine r_aald (pc := 26) (t0 := 2) C 15 (by decide) rfl rfl (zad E (16 + 2 * ((s1 14 3)).toNatClampNeg)) (fun _ => rfl) dX2_leave_26 (fun h1 => ?_)
    refine r_getN (pc := 27) C K_X1 (16 + 2 * ((s1 14 3)).toNatClampNeg) 5 (lt_F h1) (ly_F h1 _) (by decide) lk_fn_X2_41 rfl dX2_leave_27 ?_
    refine r_put (pc := 30) C K_X2 14 2 (by decide) rfl (by decide) lk_f_X2_22 rfl rfl (Nat.le_of_ble_eq_true rfl) rfl dX2_leave_30 (fun s2 _ => ?_)
    exact r_vret (pc := 33) C dX2_leave_33
theorem c_X2_leave {E : zG} (hAp : zAp E) (σ : zS) : zM E yX2_leave cX2_leave 1 none rm_X2_leave (fun _ : Unit => none) [.ref (zad E 14)] (f_X2_leave σ) σ :=
  zM_of (nn := 0) hAp (by decide) (Nat.le_of_ble_eq_true rfl) rfl rfl (fun Γ C => g_X2_leave C σ)
set_option maxHeartbeats 4000000 in
set_option maxRecDepth 100000 in
theorem g_X2_pop {E : zG} {Γ : zX} (C : zO E Γ RX2 cX2_pop 1 (some .int)) (σ : zS) : zJ E Γ rm_X2_pop 1 (fun r : Int32 => some (.int r)) (f_X2_pop σ) σ 0 [some (.ref (zad E 14))] [] := by
  unfold f_X2_pop
  refine r_aload_n (pc := 0) C dX2_pop_0 rfl ?_
  refine r_get (pc := 1) C K_X2 14 2 (by decide) rfl (by decide) lk_f_X2_22 rfl dX2_pop_1 ?_
  refine r_aload_n (pc := 4) C dX2_pop_4 rfl ?_
  refine r_callV (pc := 5) C 14 (c_X2_top (zO.ap C)  _) lk_c_X2_top lk_i_X2 lk_m_X2_50 lk_n_X2_top lk_v_X2_top (n := 0) (by decide +kernel) rfl ⟨rfl, rfl⟩ (by decide) (by decide) rfl rfl rfl (Nat.le_of_ble_eq_true rfl) ⟨Nat.zero_le _, Nat.zero_le _⟩ dX2_pop_5 (fun v1 s1 _ => ?_)
  refine r_op (fun _ => ?_) (fun v2 h1 _ => ?_)
  · exact r_none
  · refine r_getN (pc := 8) C K_X1 (16 + 2 * v2) 5 (lt_F h1) (ly_F h1 _) (by decide) lk_fn_X2_41 rfl dX2_pop_8 ?_
    refine r_icmp_gt (pc := 11) (tgt := 17) C dX2_pop_11 (by decide) (fun _ => ?_) (fun _ => ?_)
    · refine r_aload_n (pc := 17) C dX2_pop_17 rfl ?_
      refine r_dup (pc := 18) C dX2_pop_18 rfl ?_
      refine r_get (pc := 19) C K_X2 14 2 (by decide) rfl (by decide) lk_f_X2_22 rfl dX2_pop_19 ?_
      refine r_iconst (pc := 22) (v := 1) C dX2_pop_22 (by decide) ?_
      refine r_isub (pc := 23) C dX2_pop_23 ?_
      refine r_put (pc := 24) C K_X2 14 2 (by decide) rfl (by decide) lk_f_X2_22 rfl rfl (Nat.le_of_ble_eq_true rfl) rfl dX2_pop_24 (fun s2 _ => ?_)
      refine r_aload_n (pc := 27) C dX2_pop_27 rfl ?_
      refine r_get (pc := 28) C K_X2 14 1 (by decide) rfl (by decide) lk_f_X2_17 rfl dX2_pop_28 ?_
      refine r_aload_n (pc := 31) C dX2_pop_31 rfl ?_
      refine r_get (pc := 32) C K_X2 14 2 (by decide) rfl (by decide) lk_f_X2_22 rfl dX2_pop_32 ?_
      refine r_iald (pc := 35) (t0 := 0) C 40 (by decide) rfl rfl dX2_pop_35 ?_
      exact r_iret (pc := 36) C dX2_pop_36
    · refine r_bipush (pc := 14) (v := -14) C dX2_pop_14 (by decide) ?_
      exact r_iret (pc := 16) C dX2_pop_16
theorem c_X2_pop {E : zG} (hAp : zAp E) (σ : zS) : zM E yX2_pop cX2_pop 1 (some .int) rm_X2_pop (fun r : Int32 => some (.int r)) [.ref (zad E 14)] (f_X2_pop σ) σ :=
  zM_of (nn := 0) hAp (by decide) (Nat.le_of_ble_eq_true rfl) rfl rfl (fun Γ C => g_X2_pop C σ)
set_option maxHeartbeats 4000000 in
set_option maxRecDepth 100000 in
theorem g_X2_push {E : zG} {Γ : zX} (C : zO E Γ RX2 cX2_push 2 (some .int)) (p0 : Int32) (σ : zS) : zJ E Γ rm_X2_push 2 (fun r : Int32 => some (.int r)) (f_X2_push p0 σ) σ 0 [some (.ref (zad E 14)), some (.int p0)] [] := by
  unfold f_X2_push
  refine r_aload_n (pc := 0) C dX2_push_0 rfl ?_
  refine r_get (pc := 1) C K_X2 14 2 (by decide) rfl (by decide) lk_f_X2_22 rfl dX2_push_1 ?_
  refine r_bipush (pc := 4) (v := 100) C dX2_push_4 (by decide) ?_
  refine r_icmp_lt (pc := 6) (tgt := 12) C dX2_push_6 (by decide) (fun _ => ?_) (fun _ => ?_)
  · refine r_aload_n (pc := 12) C dX2_push_12 rfl ?_
    refine r_get (pc := 13) C K_X2 14 1 (by decide) rfl (by decide) lk_f_X2_17 rfl dX2_push_13 ?_
    refine r_aload_n (pc := 16) C dX2_push_16 rfl ?_
    refine r_get (pc := 17) C K_X2 14 2 (by decide) rfl (by decide) lk_f_X2_22 rfl dX2_push_17 ?_
    refine r_iload_n (pc := 20) C dX2_push_20 rfl ?_
    refine r_iast (pc := 21) (t0 := 0) C 40 (by decide) rfl (fun _ => rfl) rfl dX2_push_21 (fun s1 _ => ?_)
    refine r_aload_n (pc := 22) C dX2_push_22 rfl ?_
    refine r_dup (pc := 23) C dX2_push_23 rfl ?_
    refine r_get (pc := 24) C K_X2 14 2 (by decide) rfl (by decide) lk_f_X2_22 rfl dX2_push_24 ?_
    refine r_iconst (pc := 27) (v := 1) C dX2_push_27 (by decide) ?_
    refine r_iadd (pc := 28) C dX2_push_28 ?_
    refine r_put (pc := 29) C K_X2 14 2 (by decide) rfl (by decide) lk_f_X2_22 rfl rfl (Nat.le_of_ble_eq_true rfl) rfl dX2_push_29 (fun s2 _ => ?_)
    refine r_iconst (pc := 32) (v := 1) C dX2_push_32 (by decide) ?_
    exact r_iret (pc := 33) C dX2_push_33
  · refine r_bipush (pc := 9) (v := -15) C dX2_push_9 (by decide) ?_
    exact r_iret (pc := 11) C dX2_push_11
theorem c_X2_push {E : zG} (hAp : zAp E) (p0 : Int32) (σ : zS) : zM E yX2_push cX2_push 2 (some .int) rm_X2_push (fun r : Int32 => some (.int r)) [.ref (zad E 14), .int p0] (f_X2_push p0 σ) σ :=
  zM_of (nn := 0) hAp (by decide) (Nat.le_of_ble_eq_true rfl) rfl rfl (fun Γ C => g_X2_push C p0 σ)
set_option maxHeartbeats 4000000 in
set_option maxRecDepth 100000 in
theorem g_X3_begin {E : zG} {Γ : zX} (C : zO E Γ RX3 cX3_begin 3 none) (p0 : Int32) (p1 : Int32) (σ : zS) : zJ E Γ rm_X3_begin 3 (fun _ : Unit => none) (f_X3_begin p0 p1 σ) σ 0 [some (.ref (zad E 1)), some (.int p0), some (.int p1)] [] := by
  unfold f_X3_begin
  refine r_aload_n (pc := 0) C dX3_begin_0 rfl ?_
  refine r_get (pc := 1) C K_X3 1 0 (by decide) rfl (by decide) lk_f_X3_9 rfl dX3_begin_1 ?_
  refine r_iconst (pc := 4) (v := 0) C dX3_begin_4 (by decide) ?_
  refine r_fill (pc := 5) C 2 (by decide) (fun _ => rfl) (by decide) lk_m_X3_15 (by decide) (Nat.le_of_ble_eq_true rfl) ⟨Nat.zero_le _, Nat.zero_le _⟩ dX3_begin_5 (fun s1 _ => ?_)
  refine r_aload_n (pc := 8) C dX3_begin_8 rfl ?_
  refine r_iload_n (pc := 9) C dX3_begin_9 rfl ?_
  refine r_put (pc := 10) C K_X3 1 1 (by decide) rfl (by decide) lk_f_X3_21 rfl rfl (Nat.le_of_ble_eq_true rfl) rfl dX3_begin_10 (fun s2 _ => ?_)
  refine r_aload_n (pc := 13) C dX3_begin_13 rfl ?_
  refine r_iload_n (pc := 14) C dX3_begin_14 rfl ?_
  refine r_put (pc := 15) C K_X3 1 2 (by decide) rfl (by decide) lk_f_X3_25 rfl rfl (Nat.le_of_ble_eq_true rfl) rfl dX3_begin_15 (fun s3 _ => ?_)
  exact r_vret (pc := 18) C dX3_begin_18
theorem c_X3_begin {E : zG} (hAp : zAp E) (p0 : Int32) (p1 : Int32) (σ : zS) : zM E yX3_begin cX3_begin 3 none rm_X3_begin (fun _ : Unit => none) [.ref (zad E 1), .int p0, .int p1] (f_X3_begin p0 p1 σ) σ :=
  zM_of (nn := 0) hAp (by decide) (Nat.le_of_ble_eq_true rfl) rfl rfl (fun Γ C => g_X3_begin C p0 p1 σ)
set_option maxHeartbeats 4000000 in
set_option maxRecDepth 100000 in
theorem g_X3_isOutside {E : zG} {Γ : zX} (C : zO E Γ RX3 cX3_isOutside 2 (some .boolean)) (p0 : Int32) (σ : zS) : zJ E Γ rm_X3_isOutside 2 (fun r : Int32 => some (.int r)) (f_X3_isOutside p0 σ) σ 0 [some (.ref (zad E 1)), some (.int p0)] [] := by
  unfold f_X3_isOutside
  refine r_iload_n (pc := 0) C dX3_isOutside_0 rfl ?_
  refine r_if_lt (pc := 1) (tgt := 12) C dX3_isOutside_1 (by decide) (fun _ => ?_) (fun _ => ?_)
  · refine r_iconst (pc := 12) (v := 1) C dX3_isOutside_12 (by decide) ?_
    refine r_goto (pc := 13) (tgt := 17) C dX3_isOutside_13 (by decide) ?_
    exact r_zret (pc := 17) C (by first | rfl | decide) dX3_isOutside_17
  · refine r_iload_n (pc := 4) C dX3_isOutside_4 rfl ?_
    refine r_aload_n (pc := 5) C dX3_isOutside_5 rfl ?_
    refine r_get (pc := 6) C K_X3 1 1 (by decide) rfl (by decide) lk_f_X3_21 rfl dX3_isOutside_6 ?_
    refine r_icmp_lt (pc := 9) (tgt := 16) C dX3_isOutside_9 (by decide) (fun _ => ?_) (fun _ => ?_)
    · refine r_iconst (pc := 16) (v := 0) C dX3_isOutside_16 (by decide) ?_
      exact r_zret (pc := 17) C (by first | rfl | decide) dX3_isOutside_17
    · refine r_iconst (pc := 12) (v := 1) C dX3_isOutside_12 (by decide) ?_
      refine r_goto (pc := 13) (tgt := 17) C dX3_isOutside_13 (by decide) ?_
      exact r_zret (pc := 17) C (by first | rfl | decide) dX3_isOutside_17
theorem c_X3_isOutside {E : zG} (hAp : zAp E) (p0 : Int32) (σ : zS) : zM E yX3_isOutside cX3_isOutside 2 (some .boolean) rm_X3_isOutside (fun r : Int32 => some (.int r)) [.ref (zad E 1), .int p0] (f_X3_isOutside p0 σ) σ :=
  zM_of (nn := 0) hAp (by decide) (Nat.le_of_ble_eq_true rfl) rfl rfl (fun Γ C => g_X3_isOutside C p0 σ)
set_option maxHeartbeats 4000000 in
set_option maxRecDepth 100000 in
theorem g_X3_byteAt {E : zG} {Γ : zX} (C : zO E Γ RX3 cX3_byteAt 2 (some .int)) (p0 : Int32) (σ : zS) : zJ E Γ rm_X3_byteAt 2 (fun r : Int32 => some (.int r)) (f_X3_byteAt p0 σ) σ 0 [some (.ref (zad E 1)), some (.int p0)] [] := by
  unfold f_X3_byteAt
  refine r_aload_n (pc := 0) C dX3_byteAt_0 rfl ?_
  refine r_iload_n (pc := 1) C dX3_byteAt_1 rfl ?_
  refine r_callV (pc := 2) C 1 (c_X3_isOutside (zO.ap C) _ _) lk_c_X3_isOutside lk_i_X3 lk_m_X3_28 lk_n_X3_isOutside lk_v_X3_isOutside (n := 1) (by decide +kernel) rfl ⟨rfl, rfl⟩ (by decide) (by decide) rfl rfl rfl (Nat.le_of_ble_eq_true rfl) ⟨Nat.zero_le _, Nat.zero_le _⟩ dX3_byteAt_2 (fun v1 s1 _ => ?_)
  refine r_if_eq (pc := 5) (tgt := 13) C dX3_byteAt_5 (by decide) (fun _ => ?_) (fun _ => ?_)
  · refine r_aload_n (pc := 13) C dX3_byteAt_13 rfl ?_
    refine r_get (pc := 14) C K_X3 1 0 (by decide) rfl (by decide) lk_f_X3_9 rfl dX3_byteAt_14 ?_
    refine r_iload_n (pc := 17) C dX3_byteAt_17 rfl ?_
    refine r_iald (pc := 18) (t0 := 0) C 2 (by decide) rfl rfl dX3_byteAt_18 ?_
    exact r_iret (pc := 19) C dX3_byteAt_19
  · refine r_bipush (pc := 8) (v := -12) C dX3_byteAt_8 (by decide) ?_
    refine r_goto (pc := 10) (tgt := 19) C dX3_byteAt_10 (by decide) ?_
    exact r_iret (pc := 19) C dX3_byteAt_19
theorem c_X3_byteAt {E : zG} (hAp : zAp E) (p0 : Int32) (σ : zS) : zM E yX3_byteAt cX3_byteAt 2 (some .int) rm_X3_byteAt (fun r : Int32 => some (.int r)) [.ref (zad E 1), .int p0] (f_X3_byteAt p0 σ) σ :=
  zM_of (nn := 0) hAp (by decide) (Nat.le_of_ble_eq_true rfl) rfl rfl (fun Γ C => g_X3_byteAt C p0 σ)
set_option maxHeartbeats 4000000 in
set_option maxRecDepth 100000 in
theorem g_X3_wordAt {E : zG} {Γ : zX} (C : zO E Γ RX3 cX3_wordAt 2 (some .int)) (p0 : Int32) (σ : zS) : zJ E Γ rm_X3_wordAt 2 (fun r : Int32 => some (.int r)) (f_X3_wordAt p0 σ) σ 0 [some (.ref (zad E 1)), some (.int p0)] [] := by
  unfold f_X3_wordAt
  refine r_aload_n (pc := 0) C dX3_wordAt_0 rfl ?_
  refine r_iload_n (pc := 1) C dX3_wordAt_1 rfl ?_
  refine r_callV (pc := 2) C 1 (c_X3_isOutside (zO.ap C) _ _) lk_c_X3_isOutside lk_i_X3 lk_m_X3_28 lk_n_X3_isOutside lk_v_X3_isOutside (n := 1) (by decide +kernel) rfl ⟨rfl, rfl⟩ (by decide) (by decide) rfl rfl rfl (Nat.le_of_ble_eq_true rfl) ⟨Nat.zero_le _, Nat.zero_le _⟩ dX3_wordAt_2 (fun v1 s1 _ => ?_)
  refine r_if_ne (pc := 5) (tgt := 18) C dX3_wordAt_5 (by decide) (fun _ => ?_) (fun _ => ?_)
  · refine r_aload_n (pc := 8) C dX3_wordAt_8 rfl ?_
    refine r_iload_n (pc := 9) C dX3_wordAt_9 rfl ?_
    refine r_iconst (pc := 10) (v := 1) C dX3_wordAt_10 (by decide) ?_
    refine r_iadd (pc := 11) C dX3_wordAt_11 ?_
    refine r_callV (pc := 12) C 1 (c_X3_isOutside (zO.ap C) _ _) lk_c_X3_isOutside lk_i_X3 lk_m_X3_28 lk_n_X3_isOutside lk_v_X3_isOutside (n := 1) (by decide +kernel) rfl ⟨rfl, rfl⟩ (by decide) (by decide) rfl rfl rfl (Nat.le_of_ble_eq_true rfl) ⟨Nat.zero_le _, Nat.zero_le _⟩ dX3_wordAt_12 (fun v2 s2 _ => ?_)
    refine r_if_eq (pc := 15) (tgt := 21) C dX3_wordAt_15 (by decide) (fun _ => ?_) (fun _ => ?_)
    · refine r_aload_n (pc := 21) C dX3_wordAt_21 rfl ?_
      refine r_get (pc := 22) C K_X3 1 0 (by decide) rfl (by decide) lk_f_X3_9 rfl dX3_wordAt_22 ?_
      refine r_iload_n (pc := 25) C dX3_wordAt_25 rfl ?_
      refine r_iald (pc := 26) (t0 := 0) C 2 (by decide) rfl rfl dX3_wordAt_26 ?_
      refine r_bipush (pc := 27) (v := 8) C dX3_wordAt_27 (by decide) ?_
      refine r_ishl (pc := 29) C dX3_wordAt_29 ?_
      refine r_aload_n (pc := 30) C dX3_wordAt_30 rfl ?_
      refine r_get (pc := 31) C K_X3 1 0 (by decide) rfl (by decide) lk_f_X3_9 rfl dX3_wordAt_31 ?_
      refine r_iload_n (pc := 34) C dX3_wordAt_34 rfl ?_
      refine r_iconst (pc := 35) (v := 1) C dX3_wordAt_35 (by decide) ?_
      refine r_iadd (pc := 36) C dX3_wordAt_36 ?_
      refine r_iald (pc := 37) (t0 := 0) C 2 (by decide) rfl rfl dX3_wordAt_37 ?_
      refine r_ior (pc := 38) C dX3_wordAt_38 ?_
      exact r_iret (pc := 39) C dX3_wordAt_39
    · refine r_bipush (pc := 18) (v := -12) C dX3_wordAt_18 (by decide) ?_
      exact r_iret (pc := 20) C dX3_wordAt_20
  · refine r_bipush (pc := 18) (v := -12) C dX3_wordAt_18 (by decide) ?_
    exact r_iret (pc := 20) C dX3_wordAt_20
theorem c_X3_wordAt {E : zG} (hAp : zAp E) (p0 : Int32) (σ : zS) : zM E yX3_wordAt cX3_wordAt 2 (some .int) rm_X3_wordAt (fun r : Int32 => some (.int r)) [.ref (zad E 1), .int p0] (f_X3_wordAt p0 σ) σ :=
  zM_of (nn := 0) hAp (by decide) (Nat.le_of_ble_eq_true rfl) rfl rfl (fun Γ C => g_X3_wordAt C p0 σ)
set_option maxHeartbeats 4000000 in
set_option maxRecDepth 100000 in
theorem g_X3_setByte {E : zG} {Γ : zX} (C : zO E Γ RX3 cX3_setByte 4 (some .int)) (p0 : Int32) (p1 : Int32) (p2 : Int32) (σ : zS) : zJ E Γ rm_X3_setByte 4 (fun r : Int32 => some (.int r)) (f_X3_setByte p0 p1 p2 σ) σ 0 [some (.ref (zad E 1)), some (.int p0), some (.int p1), some (.int p2)] [] := by
  unfold f_X3_setByte
  refine r_aload_n (pc := 0) C dX3_setByte_0 rfl ?_
  refine r_iload_n (pc := 1) C dX3_setByte_1 rfl ?_
  refine r_callV (pc := 2) C 1 (c_X3_isOutside (zO.ap C) _ _) lk_c_X3_isOutside lk_i_X3 lk_m_X3_28 lk_n_X3_isOutside lk_v_X3_isOutside (n := 1) (by decide +kernel) rfl ⟨rfl, rfl⟩ (by decide) (by decide) rfl rfl rfl (Nat.le_of_ble_eq_true rfl) ⟨Nat.zero_le _, Nat.zero_le _⟩ dX3_setByte_2 (fun v1 s1 _ => ?_)
  refine r_if_eq (pc := 5) (tgt := 11) C dX3_setByte_5 (by decide) (fun _ => ?_) (fun _ => ?_)
  · refine r_iload_n (pc := 11) C dX3_setByte_11 rfl ?_
    refine r_if_ne (pc := 12) (tgt := 26) C dX3_setByte_12 (by decide) (fun _ => ?_) (fun _ => ?_)
    · refine r_iload_n (pc := 15) C dX3_setByte_15 rfl ?_
      refine r_aload_n (pc := 16) C dX3_setByte_16 rfl ?_
      refine r_get (pc := 17) C K_X3 1 2 (by decide) rfl (by decide) lk_f_X3_25 rfl dX3_setByte_17 ?_
      refine r_icmp_lt (pc := 20) (tgt := 26) C dX3_setByte_20 (by decide) (fun _ => ?_) (fun _ => ?_)
      · refine r_aload_n (pc := 26) C dX3_setByte_26 rfl ?_
        refine r_get (pc := 27) C K_X3 1 0 (by decide) rfl (by decide) lk_f_X3_9 rfl dX3_setByte_27 ?_
        refine r_iload_n (pc := 30) C dX3_setByte_30 rfl ?_
        refine r_iload_n (pc := 31) C dX3_setByte_31 rfl ?_
        refine r_sipush (pc := 32) (v := 255) C dX3_setByte_32 (by decide) ?_
        refine r_iand (pc := 35) C dX3_setByte_35 ?_
        refine r_iast (pc := 36) (t0 := 0) C 2 (by decide) rfl (fun _ => rfl) rfl dX3_setByte_36 (fun s3 _ => ?_)
        refine r_iconst (pc := 37) (v := 1) C dX3_setByte_37 (by decide) ?_
        exact r_iret (pc := 38) C dX3_setByte_38
      · refine r_bipush (pc := 23) (v := -13) C dX3_setByte_23 (by decide) ?_
        exact r_iret (pc := 25) C dX3_setByte_25
    · refine r_aload_n (pc := 26) C dX3_setByte_26 rfl ?_
      refine r_get (pc := 27) C K_X3 1 0 (by decide) rfl (by decide) lk_f_X3_9 rfl dX3_setByte_27 ?_
      refine r_iload_n (pc := 30) C dX3_setByte_30 rfl ?_
      refine r_iload_n (pc := 31) C dX3_setByte_31 rfl ?_
      refine r_sipush (pc := 32) (v := 255) C dX3_setByte_32 (by decide) ?_
      refine r_iand (pc := 35) C dX3_setByte_35 ?_
      refine r_iast (pc := 36) (t0 := 0) C 2 (by decide) rfl (fun _ => rfl) rfl dX3_setByte_36 (fun s2 _ => ?_)
      refine r_iconst (pc := 37) (v := 1) C dX3_setByte_37 (by decide) ?_
      exact r_iret (pc := 38) C dX3_setByte_38
  · refine r_bipush (pc := 8) (v := -12) C dX3_setByte_8 (by decide) ?_
    exact r_iret (pc := 10) C dX3_setByte_10
theorem c_X3_setByte {E : zG} (hAp : zAp E) (p0 : Int32) (p1 : Int32) (p2 : Int32) (σ : zS) : zM E yX3_setByte cX3_setByte 4 (some .int) rm_X3_setByte (fun r : Int32 => some (.int r)) [.ref (zad E 1), .int p0, .int p1, .int p2] (f_X3_setByte p0 p1 p2 σ) σ :=
  zM_of (nn := 0) hAp (by decide) (Nat.le_of_ble_eq_true rfl) rfl rfl (fun Γ C => g_X3_setByte C p0 p1 p2 σ)
set_option maxHeartbeats 4000000 in
set_option maxRecDepth 100000 in
theorem g_X3_setWord {E : zG} {Γ : zX} (C : zO E Γ RX3 cX3_setWord 4 (some .int)) (p0 : Int32) (p1 : Int32) (p2 : Int32) (σ : zS) : zJ E Γ rm_X3_setWord 4 (fun r : Int32 => some (.int r)) (f_X3_setWord p0 p1 p2 σ) σ 0 [some (.ref (zad E 1)), some (.int p0), some (.int p1), some (.int p2)] [] := by
  unfold f_X3_setWord
  refine r_aload_n (pc := 0) C dX3_setWord_0 rfl ?_
  refine r_iload_n (pc := 1) C dX3_setWord_1 rfl ?_
  refine r_callV (pc := 2) C 1 (c_X3_isOutside (zO.ap C) _ _) lk_c_X3_isOutside lk_i_X3 lk_m_X3_28 lk_n_X3_isOutside lk_v_X3_isOutside (n := 1) (by decide +kernel) rfl ⟨rfl, rfl⟩ (by decide) (by decide) rfl rfl rfl (Nat.le_of_ble_eq_true rfl) ⟨Nat.zero_le _, Nat.zero_le _⟩ dX3_setWord_2 (fun v1 s1 _ => ?_)
  refine r_if_ne (pc := 5) (tgt := 18) C dX3_setWord_5 (by decide) (fun _ => ?_) (fun _ => ?_)
  · refine r_aload_n (pc := 8) C dX3_setWord_8 rfl ?_
    refine r_iload_n (pc := 9) C dX3_setWord_9 rfl ?_
    refine r_iconst (pc := 10) (v := 1) C dX3_setWord_10 (by decide) ?_
    refine r_iadd (pc := 11) C dX3_setWord_11 ?_
    refine r_callV (pc := 12) C 1 (c_X3_isOutside (zO.ap C) _ _) lk_c_X3_isOutside lk_i_X3 lk_m_X3_28 lk_n_X3_isOutside lk_v_X3_isOutside (n := 1) (by decide +kernel) rfl ⟨rfl, rfl⟩ (by decide) (by decide) rfl rfl rfl (Nat.le_of_ble_eq_true rfl) ⟨Nat.zero_le _, Nat.zero_le _⟩ dX3_setWord_12 (fun v2 s2 _ => ?_)
    refine r_if_eq (pc := 15) (tgt := 21) C dX3_setWord_15 (by decide) (fun _ => ?_) (fun _ => ?_)
    · refine r_iload_n (pc := 21) C dX3_setWord_21 rfl ?_
      refine r_if_ne (pc := 22) (tgt := 38) C dX3_setWord_22 (by decide) (fun _ => ?_) (fun _ => ?_)
      · refine r_iload_n (pc := 25) C dX3_setWord_25 rfl ?_
        refine r_iconst (pc := 26) (v := 1) C dX3_setWord_26 (by decide) ?_
        refine r_iadd (pc := 27) C dX3_setWord_27 ?_
        refine r_aload_n (pc := 28) C dX3_setWord_28 rfl ?_
        refine r_get (pc := 29) C K_X3 1 2 (by decide) rfl (by decide) lk_f_X3_25 rfl dX3_setWord_29 ?_
        refine r_icmp_lt (pc := 32) (tgt := 38) C dX3_setWord_32 (by decide) (fun _ => ?_) (fun _ => ?_)
        · refine r_aload_n (pc := 38) C dX3_setWord_38 rfl ?_
          refine r_get (pc := 39) C K_X3 1 0 (by decide) rfl (by decide) lk_f_X3_9 rfl dX3_setWord_39 ?_
          refine r_iload_n (pc := 42) C dX3_setWord_42 rfl ?_
          refine r_iload_n (pc := 43) C dX3_setWord_43 rfl ?_
          refine r_bipush (pc := 44) (v := 8) C dX3_setWord_44 (by decide) ?_
          refine r_ishr (pc := 46) C dX3_setWord_46 ?_
          refine r_sipush (pc := 47) (v := 255) C dX3_setWord_47 (by decide) ?_
          refine r_iand (pc := 50) C dX3_setWord_50 ?_
          refine r_iast (pc := 51) (t0 := 0) C 2 (by decide) rfl (fun _ => rfl) rfl dX3_setWord_51 (fun s5 _ => ?_)
          refine r_aload_n (pc := 52) C dX3_setWord_52 rfl ?_
          refine r_get (pc := 53) C K_X3 1 0 (by decide) rfl (by decide) lk_f_X3_9 rfl dX3_setWord_53 ?_
          refine r_iload_n (pc := 56) C dX3_setWord_56 rfl ?_
          refine r_iconst (pc := 57) (v := 1) C dX3_setWord_57 (by decide) ?_
          refine r_iadd (pc := 58) C dX3_setWord_58 ?_
          refine r_iload_n (pc := 59) C dX3_setWord_59 rfl ?_
          refine r_sipush (pc := 60) (v := 255) C dX3_setWord_60 (by decide) ?_
          refine r_iand (pc := 63) C dX3_setWord_63 ?_
          refine r_iast (pc := 64) (t0 := 0) C 2 (by decide) rfl (fun _ => rfl) rfl dX3_setWord_64 (fun s6 _ => ?_)
          refine r_iconst (pc := 65) (v := 1) C dX3_setWord_65 (by decide) ?_
          exact r_iret (pc := 66) C dX3_setWord_66
        · refine r_bipush (pc := 35) (v := -13) C dX3_setWord_35 (by decide) ?_
          exact r_iret (pc := 37) C dX3_setWord_37
      · refine r_aload_n (pc := 38) C dX3_setWord_38 rfl ?_
        refine r_get (pc := 39) C K_X3 1 0 (by decide) rfl (by decide) lk_f_X3_9 rfl dX3_setWord_39 ?_
        refine r_iload_n (pc := 42) C dX3_setWord_42 rfl ?_
        refine r_iload_n (pc := 43) C dX3_setWord_43 rfl ?_
        refine r_bipush (pc := 44) (v := 8) C dX3_setWord_44 (by decide) ?_
        refine r_ishr (pc := 46) C dX3_setWord_46 ?_
        refine r_sipush (pc := 47) (v := 255) C dX3_setWord_47 (by decide) ?_
        refine r_iand (pc := 50) C dX3_setWord_50 ?_
        refine r_iast (pc := 51) (t0 := 0) C 2 (by decide) rfl (fun _ => rfl) rfl dX3_setWord_51 (fun s3 _ => ?_)
        refine r_aload_n (pc := 52) C dX3_setWord_52 rfl ?_
        refine r_get (pc := 53) C K_X3 1 0 (by decide) rfl (by decide) lk_f_X3_9 rfl dX3_setWord_53 ?_
        refine r_iload_n (pc := 56) C dX3_setWord_56 rfl ?_
        refine r_iconst (pc := 57) (v := 1) C dX3_setWord_57 (by decide) ?_
        refine r_iadd (pc := 58) C dX3_setWord_58 ?_
        refine r_iload_n (pc := 59) C dX3_setWord_59 rfl ?_
        refine r_sipush (pc := 60) (v := 255) C dX3_setWord_60 (by decide) ?_
        refine r_iand (pc := 63) C dX3_setWord_63 ?_
        refine r_iast (pc := 64) (t0 := 0) C 2 (by decide) rfl (fun _ => rfl) rfl dX3_setWord_64 (fun s4 _ => ?_)
        refine r_iconst (pc := 65) (v := 1) C dX3_setWord_65 (by decide) ?_
        exact r_iret (pc := 66) C dX3_setWord_66
    · refine r_bipush (pc := 18) (v := -12) C dX3_setWord_18 (by decide) ?_
      exact r_iret (pc := 20) C dX3_setWord_20
  · refine r_bipush (pc := 18) (v := -12) C dX3_setWord_18 (by decide) ?_
    exact r_iret (pc := 20) C dX3_setWord_20
theorem c_X3_setWord {E : zG} (hAp : zAp E) (p0 : Int32) (p1 : Int32) (p2 : Int32) (σ : zS) : zM E yX3_setWord cX3_setWord 4 (some .int) rm_X3_setWord (fun r : Int32 => some (.int r)) [.ref (zad E 1), .int p0, .int p1, .int p2] (f_X3_setWord p0 p1 p2 σ) σ :=
  zM_of (nn := 0) hAp (by decide) (Nat.le_of_ble_eq_true rfl) rfl rfl (fun Γ C => g_X3_setWord C p0 p1 p2 σ)
set_option maxHeartbeats 4000000 in
set_option maxRecDepth 100000 in
theorem g_X3_copyInTurn_L3 {E : zG} {Γ : zX} (C : zO E Γ RX3 cX3_copyInTurn 7 (some .int)) : ∀ (n : Nat) (x1 : Int32) (x2 : Int32) (x3 : Int32) (x4 : Int32) (σ : zS), zJ E Γ rm_X3_copyInTurn 7 (fun r : Int32 => some (.int r)) (f_X3_copyInTurn_L3 n x1 x2 x3 x4 σ) σ 3 [some (.ref (zad E 1)), some (.int x1), some (.int x2), some (.int x3), some (.int x4), none, none] [] := by
  intro n
  induction n with
  | zero => intro x1 x2 x3 x4 σ; rw [f_X3_copyInTurn_L3]; exact r_none
  | succ n ih =>
    intro x1 x2 x3 x4 σ
    rw [f_X3_copyInTurn_L3]
    refine r_iload (pc := 3) C dX3_copyInTurn_3 rfl ?_
    refine r_iload_n (pc := 5) C dX3_copyInTurn_5 rfl ?_
    refine r_icmp_ge (pc := 6) (tgt := 54) C dX3_copyInTurn_6 (by decide) (fun _ => ?_) (fun _ => ?_)
    · refine r_iconst (pc := 54) (v := 1) C dX3_copyInTurn_54 (by decide) ?_
      exact r_iret (pc := 55) C dX3_copyInTurn_55
    · refine r_aload_n (pc := 9) C dX3_copyInTurn_9 rfl ?_
      refine r_iload_n (pc := 10) C dX3_copyInTurn_10 rfl ?_
      refine r_iload (pc := 11) C dX3_copyInTurn_11 rfl ?_
      refine r_iadd (pc := 13) C dX3_copyInTurn_13 ?_
      refine r_callV (pc := 14) C 1 (c_X3_byteAt (zO.ap C) _ _) lk_c_X3_byteAt lk_i_X3 lk_m_X3_55 lk_n_X3_byteAt lk_v_X3_byteAt (n := 1) (by decide +kernel) rfl ⟨rfl, rfl⟩ (by decide) (by decide) rfl rfl rfl (Nat.le_of_ble_eq_true rfl) ⟨Nat.zero_le _, Nat.zero_le _⟩ dX3_copyInTurn_14 (fun v1 s1 _ => ?_)
      refine r_istore (pc := 17) (lv' := [some (.ref (zad E 1)), some (.int x1), some (.int x2), some (.int x3), some (.int x4), some (.int v1), none]) C dX3_copyInTurn_17 (by decide) rfl ?_
      refine r_iload (pc := 19) C dX3_copyInTurn_19 rfl ?_
      refine r_if_ge (pc := 21) (tgt := 27) C dX3_copyInTurn_21 (by decide) (fun _ => ?_) (fun _ => ?_)
      · refine r_aload_n (pc := 27) C dX3_copyInTurn_27 rfl ?_
        refine r_iload_n (pc := 28) C dX3_copyInTurn_28 rfl ?_
        refine r_iload (pc := 29) C dX3_copyInTurn_29 rfl ?_
        refine r_iadd (pc := 31) C dX3_copyInTurn_31 ?_
        refine r_iload (pc := 32) C dX3_copyInTurn_32 rfl ?_
        refine r_iconst (pc := 34) (v := 0) C dX3_copyInTurn_34 (by decide) ?_
        refine r_callV (pc := 35) C 1 (c_X3_setByte (zO.ap C) _ _ _ _) lk_c_X3_setByte lk_i_X3 lk_m_X3_58 lk_n_X3_setByte lk_v_X3_setByte (n := 3) (by decide +kernel) rfl ⟨rfl, rfl⟩ (by decide) (by decide) rfl rfl rfl (Nat.le_of_ble_eq_true rfl) ⟨Nat.zero_le _, Nat.zero_le _⟩ dX3_copyInTurn_35 (fun v2 s2 _ => ?_)
        refine r_istore (pc := 38) (lv' := [some (.ref (zad E 1)), some (.int x1), some (.int x2), some (.int x3), some (.int x4), some (.int v1), some (.int v2)]) C dX3_copyInTurn_38 (by decide) rfl ?_
        refine r_iload (pc := 40) C dX3_copyInTurn_40 rfl ?_
        refine r_if_ge (pc := 42) (tgt := 48) C dX3_copyInTurn_42 (by decide) (fun _ => ?_) (fun _ => ?_)
        · refine r_iinc (pc := 48) (lv' := [some (.ref (zad E 1)), some (.int x1), some (.int x2), some (.int x3), some (.int (x4 + (1 : Int32))), some (.int v1), some (.int v2)]) C dX3_copyInTurn_48 (by decide) rfl rfl rfl ?_
          refine r_goto (pc := 51) (tgt := 3) C dX3_copyInTurn_51 (by decide) ?_
          refine r_mask [true, true, true, true, true, false, false] (lv' := [some (.ref (zad E 1)), some (.int x1), some (.int x2), some (.int x3), some (.int (x4 + (1 : Int32))), none, none]) rfl ?_
          exact ih _ _ _ _ _
        · refine r_iload (pc := 45) C dX3_copyInTurn_45 rfl ?_
          exact r_iret (pc := 47) C dX3_copyInTurn_47
      · refine r_iload (pc := 24) C dX3_copyInTurn_24 rfl ?_
        exact r_iret (pc := 26) C dX3_copyInTurn_26
set_option maxHeartbeats 4000000 in
set_option maxRecDepth 100000 in
theorem g_X3_copyInTurn {E : zG} {Γ : zX} (C : zO E Γ RX3 cX3_copyInTurn 7 (some .int)) (p0 : Int32) (p1 : Int32) (p2 : Int32) (σ : zS) : zJ E Γ rm_X3_copyInTurn 7 (fun r : Int32 => some (.int r)) (f_X3_copyInTurn p0 p1 p2 σ) σ 0 [some (.ref (zad E 1)), some (.int p0), some (.int p1), some (.int p2), none, none, none] [] := by
  unfold f_X3_copyInTurn
  refine r_iconst (pc := 0) (v := 0) C dX3_copyInTurn_0 (by decide) ?_
  refine r_istore (pc := 1) (lv' := [some (.ref (zad E 1)), some (.int p0), some (.int p1), some (.int p2), some (.int (0 : Int32)), none, none]) C dX3_copyInTurn_1 (by decide) rfl ?_
  exact g_X3_copyInTurn_L3 C zF _ _ _ _ _
theorem c_X3_copyInTurn {E : zG} (hAp : zAp E) (p0 : Int32) (p1 : Int32) (p2 : Int32) (σ : zS) : zM E yX3_copyInTurn cX3_copyInTurn 7 (some .int) rm_X3_copyInTurn (fun r : Int32 => some (.int r)) [.ref (zad E 1), .int p0, .int p1, .int p2] (f_X3_copyInTurn p0 p1 p2 σ) σ :=
  zM_of (nn := 3) hAp (by decide) (Nat.le_of_ble_eq_true rfl) rfl rfl (fun Γ C => g_X3_copyInTurn C p0 p1 p2 σ)
set_option maxHeartbeats 4000000 in
set_option maxRecDepth 100000 in
theorem g_X3_copyAtOnce {E : zG} {Γ : zX} (C : zO E Γ RX3 cX3_copyAtOnce 4 (some .int)) (p0 : Int32) (p1 : Int32) (p2 : Int32) (σ : zS) : zJ E Γ rm_X3_copyAtOnce 4 (fun r : Int32 => some (.int r)) (f_X3_copyAtOnce p0 p1 p2 σ) σ 0 [some (.ref (zad E 1)), some (.int p0), some (.int p1), some (.int p2)] [] := by
  unfold f_X3_copyAtOnce
  refine r_aload_n (pc := 0) C dX3_copyAtOnce_0 rfl ?_
  refine r_iload_n (pc := 1) C dX3_copyAtOnce_1 rfl ?_
  refine r_callV (pc := 2) C 1 (c_X3_isOutside (zO.ap C) _ _) lk_c_X3_isOutside lk_i_X3 lk_m_X3_28 lk_n_X3_isOutside lk_v_X3_isOutside (n := 1) (by decide +kernel) rfl ⟨rfl, rfl⟩ (by decide) (by decide) rfl rfl rfl (Nat.le_of_ble_eq_true rfl) ⟨Nat.zero_le _, Nat.zero_le _⟩ dX3_copyAtOnce_2 (fun v1 s1 _ => ?_)
  refine r_if_ne (pc := 5) (tgt := 40) C dX3_copyAtOnce_5 (by decide) (fun _ => ?_) (fun _ => ?_)
  · refine r_aload_n (pc := 8) C dX3_copyAtOnce_8 rfl ?_
    refine r_iload_n (pc := 9) C dX3_copyAtOnce_9 rfl ?_
    refine r_iload_n (pc := 10) C dX3_copyAtOnce_10 rfl ?_
    refine r_iadd (pc := 11) C dX3_copyAtOnce_11 ?_
    refine r_iconst (pc := 12) (v := 1) C dX3_copyAtOnce_12 (by decide) ?_
    refine r_isub (pc := 13) C dX3_copyAtOnce_13 ?_
    refine r_callV (pc := 14) C 1 (c_X3_isOutside (zO.ap C) _ _) lk_c_X3_isOutside lk_i_X3 lk_m_X3_28 lk_n_X3_isOutside lk_v_X3_isOutside (n := 1) (by decide +kernel) rfl ⟨rfl, rfl⟩ (by decide) (by decide) rfl rfl rfl (Nat.le_of_ble_eq_true rfl) ⟨Nat.zero_le _, Nat.zero_le _⟩ dX3_copyAtOnce_14 (fun v2 s2 _ => ?_)
    refine r_if_ne (pc := 17) (tgt := 40) C dX3_copyAtOnce_17 (by decide) (fun _ => ?_) (fun _ => ?_)
    · refine r_aload_n (pc := 20) C dX3_copyAtOnce_20 rfl ?_
      refine r_iload_n (pc := 21) C dX3_copyAtOnce_21 rfl ?_
      refine r_callV (pc := 22) C 1 (c_X3_isOutside (zO.ap C) _ _) lk_c_X3_isOutside lk_i_X3 lk_m_X3_28 lk_n_X3_isOutside lk_v_X3_isOutside (n := 1) (by decide +kernel) rfl ⟨rfl, rfl⟩ (by decide) (by decide) rfl rfl rfl (Nat.le_of_ble_eq_true rfl) ⟨Nat.zero_le _, Nat.zero_le _⟩ dX3_copyAtOnce_22 (fun v3 s3 _ => ?_)
      refine r_if_ne (pc := 25) (tgt := 40) C dX3_copyAtOnce_25 (by decide) (fun _ => ?_) (fun _ => ?_)
      · refine r_aload_n (pc := 28) C dX3_copyAtOnce_28 rfl ?_
        refine r_iload_n (pc := 29) C dX3_copyAtOnce_29 rfl ?_
        refine r_iload_n (pc := 30) C dX3_copyAtOnce_30 rfl ?_
        refine r_iadd (pc := 31) C dX3_copyAtOnce_31 ?_
        refine r_iconst (pc := 32) (v := 1) C dX3_copyAtOnce_32 (by decide) ?_
        refine r_isub (pc := 33) C dX3_copyAtOnce_33 ?_
        refine r_callV (pc := 34) C 1 (c_X3_isOutside (zO.ap C) _ _) lk_c_X3_isOutside lk_i_X3 lk_m_X3_28 lk_n_X3_isOutside lk_v_X3_isOutside (n := 1) (by decide +kernel) rfl ⟨rfl, rfl⟩ (by decide) (by decide) rfl rfl rfl (Nat.le_of_ble_eq_true rfl) ⟨Nat.zero_le _, Nat.zero_le _⟩ dX3_copyAtOnce_34 (fun v4 s4 _ => ?_)
        refine r_if_eq (pc := 37) (tgt := 43) C dX3_copyAtOnce_37 (by decide) (fun _ => ?_) (fun _ => ?_)
        · refine r_iload_n (pc := 43) C dX3_copyAtOnce_43 rfl ?_
          refine r_iload_n (pc := 44) C dX3_copyAtOnce_44 rfl ?_
          refine r_iadd (pc := 45) C dX3_copyAtOnce_45 ?_
          refine r_aload_n (pc := 46) C dX3_copyAtOnce_46 rfl ?_
          refine r_get (pc := 47) C K_X3 1 2 (by decide) rfl (by decide) lk_f_X3_25 rfl dX3_copyAtOnce_47 ?_
          refine r_icmp_le (pc := 50) (tgt := 56) C dX3_copyAtOnce_50 (by decide) (fun _ => ?_) (fun _ => ?_)
          · refine r_aload_n (pc := 56) C dX3_copyAtOnce_56 rfl ?_
            refine r_get (pc := 57) C K_X3 1 0 (by decide) rfl (by decide) lk_f_X3_9 rfl dX3_copyAtOnce_57 ?_
            refine r_iload_n (pc := 60) C dX3_copyAtOnce_60 rfl ?_
            refine r_aload_n (pc := 61) C dX3_copyAtOnce_61 rfl ?_
            refine r_get (pc := 62) C K_X3 1 0 (by decide) rfl (by decide) lk_f_X3_9 rfl dX3_copyAtOnce_62 ?_
            refine r_iload_n (pc := 65) C dX3_copyAtOnce_65 rfl ?_
            refine r_iload_n (pc := 66) C dX3_copyAtOnce_66 rfl ?_
            refine r_acopy (pc := 67) (t0 := 0) (t1 := 0) C 2 2 (by decide) (by decide) rfl (fun _ => rfl) rfl rfl lk_m_X3_49 lk_acn lk_acs lk_aci (by decide) (Nat.le_of_ble_eq_true rfl) dX3_copyAtOnce_67 (fun s5 _ => ?_)
            refine r_iconst (pc := 70) (v := 1) C dX3_copyAtOnce_70 (by decide) ?_
            exact r_iret (pc := 71) C dX3_copyAtOnce_71
          · refine r_bipush (pc := 53) (v := -13) C dX3_copyAtOnce_53 (by decide) ?_
            exact r_iret (pc := 55) C dX3_copyAtOnce_55
        · refine r_bipush (pc := 40) (v := -12) C dX3_copyAtOnce_40 (by decide) ?_
          exact r_iret (pc := 42) C dX3_copyAtOnce_42
      · refine r_bipush (pc := 40) (v := -12) C dX3_copyAtOnce_40 (by decide) ?_
        exact r_iret (pc := 42) C dX3_copyAtOnce_42
    · refine r_bipush (pc := 40) (v := -12) C dX3_copyAtOnce_40 (by decide) ?_
      exact r_iret (pc := 42) C dX3_copyAtOnce_42
  · refine r_bipush (pc := 40) (v := -12) C dX3_copyAtOnce_40 (by decide) ?_
    exact r_iret (pc := 42) C dX3_copyAtOnce_42
theorem c_X3_copyAtOnce {E : zG} (hAp : zAp E) (p0 : Int32) (p1 : Int32) (p2 : Int32) (σ : zS) : zM E yX3_copyAtOnce cX3_copyAtOnce 4 (some .int) rm_X3_copyAtOnce (fun r : Int32 => some (.int r)) [.ref (zad E 1), .int p0, .int p1, .int p2] (f_X3_copyAtOnce p0 p1 p2 σ) σ :=
  zM_of (nn := 0) hAp (by decide) (Nat.le_of_ble_eq_true rfl) rfl rfl (fun Γ C => g_X3_copyAtOnce C p0 p1 p2 σ)
set_option maxHeartbeats 4000000 in
set_option maxRecDepth 100000 in
theorem g_X3_wipe_L38 {E : zG} {Γ : zX} (C : zO E Γ RX3 cX3_wipe 4 (some .int)) : ∀ (n : Nat) (x1 : Int32) (x2 : Int32) (x3 : Int32) (σ : zS), zJ E Γ rm_X3_wipe 4 (fun r : Int32 => some (.int r)) (f_X3_wipe_L38 n x1 x2 x3 σ) σ 38 [some (.ref (zad E 1)), some (.int x1), some (.int x2), some (.int x3)] [] := by
  intro n
  induction n with
  | zero => intro x1 x2 x3 σ; rw [f_X3_wipe_L38]; exact r_none
  | succ n ih =>
    intro x1 x2 x3 σ
    rw [f_X3_wipe_L38]
    refine r_iload_n (pc := 38) C dX3_wipe_38 rfl ?_
    refine r_iload_n (pc := 39) C dX3_wipe_39 rfl ?_
    refine r_icmp_ge (pc := 40) (tgt := 58) C dX3_wipe_40 (by decide) (fun _ => ?_) (fun _ => ?_)
    · refine r_iconst (pc := 58) (v := 1) C dX3_wipe_58 (by decide) ?_
      exact r_iret (pc := 59) C dX3_wipe_59
    · refine r_aload_n (pc := 43) C dX3_wipe_43 rfl ?_
      refine r_get (pc := 44) C K_X3 1 0 (by decide) rfl (by decide) lk_f_X3_9 rfl dX3_wipe_44 ?_
      refine r_iload_n (pc := 47) C dX3_wipe_47 rfl ?_
      refine r_iload_n (pc := 48) C dX3_wipe_48 rfl ?_
      refine r_iadd (pc := 49) C dX3_wipe_49 ?_
      refine r_iconst (pc := 50) (v := 0) C dX3_wipe_50 (by decide) ?_
      refine r_iast (pc := 51) (t0 := 0) C 2 (by decide) rfl (fun _ => rfl) rfl dX3_wipe_51 (fun s3 _ => ?_)
      refine r_iinc (pc := 52) (lv' := [some (.ref (zad E 1)), some (.int x1), some (.int x2), some (.int (x3 + (1 : Int32)))]) C dX3_wipe_52 (by decide) rfl rfl rfl ?_
      refine r_goto (pc := 55) (tgt := 38) C dX3_wipe_55 (by decide) ?_
      exact ih _ _ _ _
set_option maxHeartbeats 4000000 in
set_option maxRecDepth 100000 in
theorem g_X3_wipe {E : zG} {Γ : zX} (C : zO E Γ RX3 cX3_wipe 4 (some .int)) (p0 : Int32) (p1 : Int32) (σ : zS) : zJ E Γ rm_X3_wipe 4 (fun r : Int32 => some (.int r)) (f_X3_wipe p0 p1 σ) σ 0 [some (.ref (zad E 1)), some (.int p0), some (.int p1), none] [] := by
  unfold f_X3_wipe
  refine r_aload_n (pc := 0) C dX3_wipe_0 rfl ?_
  refine r_iload_n (pc := 1) C dX3_wipe_1 rfl ?_
  refine r_callV (pc := 2) C 1 (c_X3_isOutside (zO.ap C) _ _) lk_c_X3_isOutside lk_i_X3 lk_m_X3_28 lk_n_X3_isOutside lk_v_X3_isOutside (n := 1) (by decide +kernel) rfl ⟨rfl, rfl⟩ (by decide) (by decide) rfl rfl rfl (Nat.le_of_ble_eq_true rfl) ⟨Nat.zero_le _, Nat.zero_le _⟩ dX3_wipe_2 (fun v1 s1 _ => ?_)
  refine r_if_ne (pc := 5) (tgt := 20) C dX3_wipe_5 (by decide) (fun _ => ?_) (fun _ => ?_)
  · refine r_aload_n (pc := 8) C dX3_wipe_8 rfl ?_
    refine r_iload_n (pc := 9) C dX3_wipe_9 rfl ?_
    refine r_iload_n (pc := 10) C dX3_wipe_10 rfl ?_
    refine r_iadd (pc := 11) C dX3_wipe_11 ?_
    refine r_iconst (pc := 12) (v := 1) C dX3_wipe_12 (by decide) ?_
    refine r_isub (pc := 13) C dX3_wipe_13 ?_
    refine r_callV (pc := 14) C 1 (c_X3_isOutside (zO.ap C) _ _) lk_c_X3_isOutside lk_i_X3 lk_m_X3_28 lk_n_X3_isOutside lk_v_X3_isOutside (n := 1) (by decide +kernel) rfl ⟨rfl, rfl⟩ (by decide) (by decide) rfl rfl rfl (Nat.le_of_ble_eq_true rfl) ⟨Nat.zero_le _, Nat.zero_le _⟩ dX3_wipe_14 (fun v2 s2 _ => ?_)
    refine r_if_eq (pc := 17) (tgt := 23) C dX3_wipe_17 (by decide) (fun _ => ?_) (fun _ => ?_)
    · refine r_iload_n (pc := 23) C dX3_wipe_23 rfl ?_
      refine r_iload_n (pc := 24) C dX3_wipe_24 rfl ?_
      refine r_iadd (pc := 25) C dX3_wipe_25 ?_
      refine r_aload_n (pc := 26) C dX3_wipe_26 rfl ?_
      refine r_get (pc := 27) C K_X3 1 2 (by decide) rfl (by decide) lk_f_X3_25 rfl dX3_wipe_27 ?_
      refine r_icmp_le (pc := 30) (tgt := 36) C dX3_wipe_30 (by decide) (fun _ => ?_) (fun _ => ?_)
      · refine r_iconst (pc := 36) (v := 0) C dX3_wipe_36 (by decide) ?_
        refine r_istore_n (pc := 37) (lv' := [some (.ref (zad E 1)), some (.int p0), some (.int p1), some (.int (0 : Int32))]) C dX3_wipe_37 (by decide) rfl ?_
        exact g_X3_wipe_L38 C zF _ _ _ _
      · refine r_bipush (pc := 33) (v := -13) C dX3_wipe_33 (by decide) ?_
        exact r_iret (pc := 35) C dX3_wipe_35
    · refine r_bipush (pc := 20) (v := -12) C dX3_wipe_20 (by decide) ?_
      exact r_iret (pc := 22) C dX3_wipe_22
  · refine r_bipush (pc := 20) (v := -12) C dX3_wipe_20 (by decide) ?_
    exact r_iret (pc := 22) C dX3_wipe_22
theorem c_X3_wipe {E : zG} (hAp : zAp E) (p0 : Int32) (p1 : Int32) (σ : zS) : zM E yX3_wipe cX3_wipe 4 (some .int) rm_X3_wipe (fun r : Int32 => some (.int r)) [.ref (zad E 1), .int p0, .int p1] (f_X3_wipe p0 p1 σ) σ :=
  zM_of (nn := 1) hAp (by decide) (Nat.le_of_ble_eq_true rfl) rfl rfl (fun Γ C => g_X3_wipe C p0 p1 σ)
set_option maxHeartbeats 4000000 in
set_option maxRecDepth 100000 in
theorem g_X3_copyTable {E : zG} {Γ : zX} (C : zO E Γ RX3 cX3_copyTable 4 (some .int)) (p0 : Int32) (p1 : Int32) (p2 : Int32) (σ : zS) : zJ E Γ rm_X3_copyTable 4 (fun r : Int32 => some (.int r)) (f_X3_copyTable p0 p1 p2 σ) σ 0 [some (.ref (zad E 1)), some (.int p0), some (.int p1), some (.int p2)] [] := by
  unfold f_X3_copyTable
  refine r_iload_n (pc := 0) C dX3_copyTable_0 rfl ?_
  refine r_if_ne (pc := 1) (tgt := 6) C dX3_copyTable_1 (by decide) (fun _ => ?_) (fun _ => ?_)
  · refine r_iconst (pc := 4) (v := 1) C dX3_copyTable_4 (by decide) ?_
    exact r_iret (pc := 5) C dX3_copyTable_5
  · refine r_iload_n (pc := 6) C dX3_copyTable_6 rfl ?_
    refine r_if_ne (pc := 7) (tgt := 20) C dX3_copyTable_7 (by decide) (fun _ => ?_) (fun _ => ?_)
    · refine r_aload_n (pc := 10) C dX3_copyTable_10 rfl ?_
      refine r_iload_n (pc := 11) C dX3_copyTable_11 rfl ?_
      refine r_iload_n (pc := 12) C dX3_copyTable_12 rfl ?_
      refine r_mabs (pc := 13) C lk_m_X3_32 lk_ms_abs lk_mi lk_mc_abs (by decide) (Nat.le_of_ble_eq_true rfl) ⟨Nat.zero_le _, Nat.zero_le _⟩ dX3_copyTable_13 ?_
      refine r_callV (pc := 16) C 1 (c_X3_wipe (zO.ap C) _ _ _) lk_c_X3_wipe lk_i_X3 lk_m_X3_38 lk_n_X3_wipe lk_v_X3_wipe (n := 2) (by decide +kernel) rfl ⟨rfl, rfl⟩ (by decide) (by decide) rfl rfl rfl (Nat.le_of_ble_eq_true rfl) ⟨Nat.zero_le _, Nat.zero_le _⟩ dX3_copyTable_16 (fun v3 s3 _ => ?_)
      exact r_iret (pc := 19) C dX3_copyTable_19
    · refine r_iload_n (pc := 20) C dX3_copyTable_20 rfl ?_
      refine r_if_le (pc := 21) (tgt := 34) C dX3_copyTable_21 (by decide) (fun _ => ?_) (fun _ => ?_)
      · refine r_aload_n (pc := 34) C dX3_copyTable_34 rfl ?_
        refine r_iload_n (pc := 35) C dX3_copyTable_35 rfl ?_
        refine r_iload_n (pc := 36) C dX3_copyTable_36 rfl ?_
        refine r_iload_n (pc := 37) C dX3_copyTable_37 rfl ?_
        refine r_ineg (pc := 38) C dX3_copyTable_38 ?_
        refine r_callV (pc := 39) C 1 (c_X3_copyInTurn (zO.ap C) _ _ _ _) lk_c_X3_copyInTurn lk_i_X3 lk_m_X3_46 lk_n_X3_copyInTurn lk_v_X3_copyInTurn (n := 3) (by decide +kernel) rfl ⟨rfl, rfl⟩ (by decide) (by decide) rfl rfl rfl (Nat.le_of_ble_eq_true rfl) ⟨Nat.zero_le _, Nat.zero_le _⟩ dX3_copyTable_39 (fun v1 s1 _ => ?_)
        exact r_iret (pc := 42) C dX3_copyTable_42
      · refine r_aload_n (pc := 24) C dX3_copyTable_24 rfl ?_
        refine r_iload_n (pc := 25) C dX3_copyTable_25 rfl ?_
        refine r_iload_n (pc := 26) C dX3_copyTable_26 rfl ?_
        refine r_iload_n (pc := 27) C dX3_copyTable_27 rfl ?_
        refine r_callV (pc := 28) C 1 (c_X3_copyAtOnce (zO.ap C) _ _ _ _) lk_c_X3_copyAtOnce lk_i_X3 lk_m_X3_42 lk_n_X3_copyAtOnce lk_v_X3_copyAtOnce (n := 3) (by decide +kernel) rfl ⟨rfl, rfl⟩ (by decide) (by decide) rfl rfl rfl (Nat.le_of_ble_eq_true rfl) ⟨Nat.zero_le _, Nat.zero_le _⟩ dX3_copyTable_28 (fun v2 s2 _ => ?_)
        refine r_goto (pc := 31) (tgt := 42) C dX3_copyTable_31 (by decide) ?_
        exact r_iret (pc := 42) C dX3_copyTable_42
theorem c_X3_copyTable {E : zG} (hAp : zAp E) (p0 : Int32) (p1 : Int32) (p2 : Int32) (σ : zS) : zM E yX3_copyTable cX3_copyTable 4 (some .int) rm_X3_copyTable (fun r : Int32 => some (.int r)) [.ref (zad E 1), .int p0, .int p1, .int p2] (f_X3_copyTable p0 p1 p2 σ) σ :=
  zM_of (nn := 0) hAp (by decide) (Nat.le_of_ble_eq_true rfl) rfl rfl (fun Γ C => g_X3_copyTable C p0 p1 p2 σ)
end
section
set_option maxHeartbeats 4000000 in
set_option maxRecDepth 100000 in
theorem g_X3_find_L26 {E : zG} {Γ : zX} (C : zO E Γ RX3 cX3_find 10 (some .int)) : ∀ (n : Nat) (x1 : Int32) (x2 : Int32) (x3 : Int32) (x4 : Int32) (x5 : Int32) (x6 : Int32) (x7 : Int32) (σ : zS), zJ E Γ rm_X3_find 10 (fun r : Int32 => some (.int r)) (f_X3_find_L26 n x1 x2 x3 x4 x5 x6 x7 σ) σ 26 [some (.ref (zad E 1)), some (.int x1), some (.int x2), some (.int x3), some (.int x4), some (.int x5), some (.int x6), some (.int x7), none, none] [] := by
  intro n
  induction n with
  | zero => intro x1 x2 x3 x4 x5 x6 x7 σ; rw [f_X3_find_L26]; exact r_none
  | succ n ih =>
    intro x1 x2 x3 x4 x5 x6 x7 σ
    rw [f_X3_find_L26]
    refine r_iload (pc := 26) C dX3_find_26 rfl ?_
    refine r_iload (pc := 28) C dX3_find_28 rfl ?_
    refine r_icmp_ge (pc := 30) (tgt := 89) C dX3_find_30 (by decide) (fun _ => ?_) (fun _ => ?_)
    · refine r_iconst (pc := 89) (v := 0) C dX3_find_89 (by decide) ?_
      exact r_iret (pc := 90) C dX3_find_90
    · refine r_iload_n (pc := 33) C dX3_find_33 rfl ?_
      refine r_iload (pc := 34) C dX3_find_34 rfl ?_
      refine r_iload (pc := 36) C dX3_find_36 rfl ?_
      refine r_imul (pc := 38) C dX3_find_38 ?_
      refine r_iadd (pc := 39) C dX3_find_39 ?_
      refine r_leti (fun v2 => ?_)
      refine r_istore (pc := 40) (lv' := [some (.ref (zad E 1)), some (.int x1), some (.int x2), some (.int x3), some (.int x4), some (.int x5), some (.int x6), some (.int x7), some (.int v2), none]) C dX3_find_40 (by decide) rfl ?_
      refine r_iload (pc := 42) C dX3_find_42 rfl ?_
      refine r_bipush (pc := 44) (v := 127) C dX3_find_44 (by decide) ?_
      refine r_icmp_le (pc := 46) (tgt := 58) C dX3_find_46 (by decide) (fun _ => ?_) (fun _ => ?_)
      · refine r_aload_n (pc := 58) C dX3_find_58 rfl ?_
        refine r_iload (pc := 59) C dX3_find_59 rfl ?_
        refine r_callV (pc := 61) C 1 (c_X3_byteAt (zO.ap C) _ _) lk_c_X3_byteAt lk_i_X3 lk_m_X3_55 lk_n_X3_byteAt lk_v_X3_byteAt (n := 1) (by decide +kernel) rfl ⟨rfl, rfl⟩ (by decide) (by decide) rfl rfl rfl (Nat.le_of_ble_eq_true rfl) ⟨Nat.zero_le _, Nat.zero_le _⟩ dX3_find_61 (fun v3 s1 _ => ?_)
        refine r_istore (pc := 64) (lv' := [some (.ref (zad E 1)), some (.int x1), some (.int x2), some (.int x3), some (.int x4), some (.int x5), some (.int x6), some (.int x7), some (.int v2), some (.int v3)]) C dX3_find_64 (by decide) rfl ?_
        refine r_iload (pc := 66) C dX3_find_66 rfl ?_
        refine r_if_ge (pc := 68) (tgt := 74) C dX3_find_68 (by decide) (fun _ => ?_) (fun _ => ?_)
        · refine r_iload (pc := 74) C dX3_find_74 rfl ?_
          refine r_iload_n (pc := 76) C dX3_find_76 rfl ?_
          refine r_icmp_ne (pc := 77) (tgt := 83) C dX3_find_77 (by decide) (fun _ => ?_) (fun _ => ?_)
          · refine r_iload (pc := 80) C dX3_find_80 rfl ?_
            exact r_iret (pc := 82) C dX3_find_82
          · refine r_iinc (pc := 83) (lv' := [some (.ref (zad E 1)), some (.int x1), some (.int x2), some (.int x3), some (.int x4), some (.int x5), some (.int x6), some (.int (x7 + (1 : Int32))), some (.int v2), some (.int v3)]) C dX3_find_83 (by decide) rfl rfl rfl ?_
            refine r_goto (pc := 86) (tgt := 26) C dX3_find_86 (by decide) ?_
            refine r_mask [true, true, true, true, true, true, true, true, false, false] (lv' := [some (.ref (zad E 1)), some (.int x1), some (.int x2), some (.int x3), some (.int x4), some (.int x5), some (.int x6), some (.int (x7 + (1 : Int32))), none, none]) rfl ?_
            exact ih _ _ _ _ _ _ _ _
        · refine r_iload (pc := 71) C dX3_find_71 rfl ?_
          exact r_iret (pc := 73) C dX3_find_73
      · refine r_aload_n (pc := 49) C dX3_find_49 rfl ?_
        refine r_iload (pc := 50) C dX3_find_50 rfl ?_
        refine r_callV (pc := 52) C 1 (c_X3_wordAt (zO.ap C) _ _) lk_c_X3_wordAt lk_i_X3 lk_m_X3_65 lk_n_X3_wordAt lk_v_X3_wordAt (n := 1) (by decide +kernel) rfl ⟨rfl, rfl⟩ (by decide) (by decide) rfl rfl rfl (Nat.le_of_ble_eq_true rfl) ⟨Nat.zero_le _, Nat.zero_le _⟩ dX3_find_52 (fun v4 s2 _ => ?_)
        refine r_goto (pc := 55) (tgt := 64) C dX3_find_55 (by decide) ?_
        refine r_istore (pc := 64) (lv' := [some (.ref (zad E 1)), some (.int x1), some (.int x2), some (.int x3), some (.int x4), some (.int x5), some (.int x6), some (.int x7), some (.int v2), some (.int v4)]) C dX3_find_64 (by decide) rfl ?_
        refine r_iload (pc := 66) C dX3_find_66 rfl ?_
        refine r_if_ge (pc := 68) (tgt := 74) C dX3_find_68 (by decide) (fun _ => ?_) (fun _ => ?_)
        · refine r_iload (pc := 74) C dX3_find_74 rfl ?_
          refine r_iload_n (pc := 76) C dX3_find_76 rfl ?_
          refine r_icmp_ne (pc := 77) (tgt := 83) C dX3_find_77 (by decide) (fun _ => ?_) (fun _ => ?_)
          · refine r_iload (pc := 80) C dX3_find_80 rfl ?_
            exact r_iret (pc := 82) C dX3_find_82
          · refine r_iinc (pc := 83) (lv' := [some (.ref (zad E 1)), some (.int x1), some (.int x2), some (.int x3), some (.int x4), some (.int x5), some (.int x6), some (.int (x7 + (1 : Int32))), some (.int v2), some (.int v4)]) C dX3_find_83 (by decide) rfl rfl rfl ?_
            refine r_goto (pc := 86) (tgt := 26) C dX3_find_86 (by decide) ?_
            refine r_mask [true, true, true, true, true, true, true, true, false, false] (lv' := [some (.ref (zad E 1)), some (.int x1), some (.int x2), some (.int x3), some (.int x4), some (.int x5), some (.int x6), some (.int (x7 + (1 : Int32))), none, none]) rfl ?_
            exact ih _ _ _ _ _ _ _ _
        · refine r_iload (pc := 71) C dX3_find_71 rfl ?_
          exact r_iret (pc := 73) C dX3_find_73
set_option maxHeartbeats 4000000 in
set_option maxRecDepth 100000 in
theorem g_X3_find {E : zG} {Γ : zX} (C : zO E Γ RX3 cX3_find 10 (some .int)) (p0 : Int32) (p1 : Int32) (p2 : Int32) (p3 : Int32) (σ : zS) : zJ E Γ rm_X3_find 10 (fun r : Int32 => some (.int r)) (f_X3_find p0 p1 p2 p3 σ) σ 0 [some (.ref (zad E 1)), some (.int p0), some (.int p1), some (.int p2), some (.int p3), none, none, none, none, none] [] := by
  unfold f_X3_find
  refine r_iload (pc := 0) C dX3_find_0 rfl ?_
  refine r_bipush (pc := 2) (v := 127) C dX3_find_2 (by decide) ?_
  refine r_iand (pc := 4) C dX3_find_4 ?_
  refine r_leti (fun v1 => ?_)
  refine r_istore (pc := 5) (lv' := [some (.ref (zad E 1)), some (.int p0), some (.int p1), some (.int p2), some (.int p3), some (.int v1), none, none, none, none]) C dX3_find_5 (by decide) rfl ?_
  refine r_iload (pc := 7) C dX3_find_7 rfl ?_
  refine r_if_ne (pc := 9) (tgt := 20) C dX3_find_9 (by decide) (fun _ => ?_) (fun _ => ?_)
  · refine r_iload_n (pc := 12) C dX3_find_12 rfl ?_
    refine r_iconst (pc := 13) (v := 1) C dX3_find_13 (by decide) ?_
    refine r_mmin (pc := 14) C lk_m_X3_62 lk_ms_min lk_mi lk_mc_min (by decide) (Nat.le_of_ble_eq_true rfl) ⟨Nat.zero_le _, Nat.zero_le _⟩ dX3_find_14 ?_
    refine r_goto (pc := 17) (tgt := 21) C dX3_find_17 (by decide) ?_
    refine r_leti (fun v5 => ?_)
    refine r_istore (pc := 21) (lv' := [some (.ref (zad E 1)), some (.int p0), some (.int p1), some (.int p2), some (.int p3), some (.int v1), some (.int v5), none, none, none]) C dX3_find_21 (by decide) rfl ?_
    refine r_iconst (pc := 23) (v := 0) C dX3_find_23 (by decide) ?_
    refine r_istore (pc := 24) (lv' := [some (.ref (zad E 1)), some (.int p0), some (.int p1), some (.int p2), some (.int p3), some (.int v1), some (.int v5), some (.int (0 : Int32)), none, none]) C dX3_find_24 (by decide) rfl ?_
    exact g_X3_find_L26 C zF _ _ _ _ _ _ _ _
  · refine r_iload_n (pc := 20) C dX3_find_20 rfl ?_
    refine r_istore (pc := 21) (lv' := [some (.ref (zad E 1)), some (.int p0), some (.int p1), some (.int p2), some (.int p3), some (.int v1), some (.int p2), none, none, none]) C dX3_find_21 (by decide) rfl ?_
    refine r_iconst (pc := 23) (v := 0) C dX3_find_23 (by decide) ?_
    refine r_istore (pc := 24) (lv' := [some (.ref (zad E 1)), some (.int p0), some (.int p1), some (.int p2), some (.int p3), some (.int v1), some (.int p2), some (.int (0 : Int32)), none, none]) C dX3_find_24 (by decide) rfl ?_
    exact g_X3_find_L26 C zF _ _ _ _ _ _ _ _
theorem c_X3_find {E : zG} (hAp : zAp E) (p0 : Int32) (p1 : Int32) (p2 : Int32) (p3 : Int32) (σ : zS) : zM E yX3_find cX3_find 10 (some .int) rm_X3_find (fun r : Int32 => some (.int r)) [.ref (zad E 1), .int p0, .int p1, .int p2, .int p3] (f_X3_find p0 p1 p2 p3 σ) σ :=
  zM_of (nn := 5) hAp (by decide) (Nat.le_of_ble_eq_true rfl) rfl rfl (fun Γ C => g_X3_find C p0 p1 p2 p3 σ)
set_option maxHeartbeats 4000000 in
set_option maxRecDepth 100000 in
theorem g_X4_characterAt {E : zG} {Γ : zX} (C : zO E Γ RX4 cX4_characterAt 2 (some .int)) (p0 : Int32) (σ : zS) : zJ E Γ rm_X4_characterAt 2 (fun r : Int32 => some (.int r)) (f_X4_characterAt p0 σ) σ 0 [some (.ref (zad E 41)), some (.int p0)] [] := by
  unfold f_X4_characterAt
  refine r_iload_n (pc := 0) C dX4_characterAt_0 rfl ?_
  refine r_if_lt (pc := 1) (tgt := 21) C dX4_characterAt_1 (by decide) (fun _ => ?_) (fun _ => ?_)
  · refine r_iconst (pc := 21) (v := -1) C dX4_characterAt_21 (by decide) ?_
    exact r_iret (pc := 22) C dX4_characterAt_22
  · refine r_iload_n (pc := 4) C dX4_characterAt_4 rfl ?_
    refine r_aload_n (pc := 5) C dX4_characterAt_5 rfl ?_
    refine r_get (pc := 6) C K_X4 41 1 (by decide) rfl (by decide) lk_f_X4_15 rfl dX4_characterAt_6 ?_
    refine r_icmp_ge (pc := 9) (tgt := 21) C dX4_characterAt_9 (by decide) (fun _ => ?_) (fun _ => ?_)
    · refine r_iconst (pc := 21) (v := -1) C dX4_characterAt_21 (by decide) ?_
      exact r_iret (pc := 22) C dX4_characterAt_22
    · refine r_aload_n (pc := 12) C dX4_characterAt_12 rfl ?_
      refine r_get (pc := 13) C K_X4 41 0 (by decide) rfl (by decide) lk_f_X4_9 rfl dX4_characterAt_13 ?_
      refine r_iload_n (pc := 16) C dX4_characterAt_16 rfl ?_
      refine r_iald (pc := 17) (t0 := 0) C 42 (by decide) rfl rfl dX4_characterAt_17 ?_
      refine r_goto (pc := 18) (tgt := 22) C dX4_characterAt_18 (by decide) ?_
      exact r_iret (pc := 22) C dX4_characterAt_22
theorem c_X4_characterAt {E : zG} (hAp : zAp E) (p0 : Int32) (σ : zS) : zM E yX4_characterAt cX4_characterAt 2 (some .int) rm_X4_characterAt (fun r : Int32 => some (.int r)) [.ref (zad E 41), .int p0] (f_X4_characterAt p0 σ) σ :=
  zM_of (nn := 0) hAp (by decide) (Nat.le_of_ble_eq_true rfl) rfl rfl (fun Γ C => g_X4_characterAt C p0 σ)
set_option maxHeartbeats 4000000 in
set_option maxRecDepth 100000 in
theorem g_X4_print {E : zG} {Γ : zX} (C : zO E Γ RX4 cX4_print 2 (some .int)) (p0 : Int32) (σ : zS) : zJ E Γ rm_X4_print 2 (fun r : Int32 => some (.int r)) (f_X4_print p0 σ) σ 0 [some (.ref (zad E 41)), some (.int p0)] [] := by
  unfold f_X4_print
  refine r_aload_n (pc := 0) C dX4_print_0 rfl ?_
  refine r_get (pc := 1) C K_X4 41 1 (by decide) rfl (by decide) lk_f_X4_15 rfl dX4_print_1 ?_
  refine r_bipush (pc := 4) (v := 120) C dX4_print_4 (by decide) ?_
  refine r_icmp_lt (pc := 6) (tgt := 12) C dX4_print_6 (by decide) (fun _ => ?_) (fun _ => ?_)
  · refine r_aload_n (pc := 12) C dX4_print_12 rfl ?_
    refine r_get (pc := 13) C K_X4 41 0 (by decide) rfl (by decide) lk_f_X4_9 rfl dX4_print_13 ?_
    refine r_aload_n (pc := 16) C dX4_print_16 rfl ?_
    refine r_get (pc := 17) C K_X4 41 1 (by decide) rfl (by decide) lk_f_X4_15 rfl dX4_print_17 ?_
    refine r_iload_n (pc := 20) C dX4_print_20 rfl ?_
    refine r_sipush (pc := 21) (v := 255) C dX4_print_21 (by decide) ?_
    refine r_iand (pc := 24) C dX4_print_24 ?_
    refine r_iast (pc := 25) (t0 := 0) C 42 (by decide) rfl (fun _ => rfl) rfl dX4_print_25 (fun s1 _ => ?_)
    refine r_aload_n (pc := 26) C dX4_print_26 rfl ?_
    refine r_dup (pc := 27) C dX4_print_27 rfl ?_
    refine r_get (pc := 28) C K_X4 41 1 (by decide) rfl (by decide) lk_f_X4_15 rfl dX4_print_28 ?_
    refine r_iconst (pc := 31) (v := 1) C dX4_print_31 (by decide) ?_
    refine r_iadd (pc := 32) C dX4_print_32 ?_
    refine r_put (pc := 33) C K_X4 41 1 (by decide) rfl (by decide) lk_f_X4_15 rfl rfl (Nat.le_of_ble_eq_true rfl) rfl dX4_print_33 (fun s2 _ => ?_)
    refine r_iconst (pc := 36) (v := 1) C dX4_print_36 (by decide) ?_
    exact r_iret (pc := 37) C dX4_print_37
  · refine r_bipush (pc := 9) (v := -21) C dX4_print_9 (by decide) ?_
    exact r_iret (pc := 11) C dX4_print_11
theorem c_X4_print {E : zG} (hAp : zAp E) (p0 : Int32) (σ : zS) : zM E yX4_print cX4_print 2 (some .int) rm_X4_print (fun r : Int32 => some (.int r)) [.ref (zad E 41), .int p0] (f_X4_print p0 σ) σ :=
  zM_of (nn := 0) hAp (by decide) (Nat.le_of_ble_eq_true rfl) rfl rfl (fun Γ C => g_X4_print C p0 σ)
set_option maxHeartbeats 4000000 in
set_option maxRecDepth 100000 in
theorem g_X4_printNumber_L25 {E : zG} {Γ : zX} (C : zO E Γ RX4 cX4_printNumber 5 (some .int)) : ∀ (n : Nat) (x1 : Int32) (x2 : Int32) (x3 : Int32) (x4 : Int32) (σ : zS), zJ E Γ rm_X4_printNumber 5 (fun r : Int32 => some (.int r)) (f_X4_printNumber_L25 n x1 x2 x3 x4 σ) σ 25 [some (.ref (zad E 41)), some (.int x1), some (.int x2), some (.int x3), some (.int x4)] [] := by
  intro n
  induction n with
  | zero => intro x1 x2 x3 x4 σ; rw [f_X4_printNumber_L25]; exact r_none
  | succ n ih =>
    intro x1 x2 x3 x4 σ
    rw [f_X4_printNumber_L25]
    refine r_iload (pc := 25) C dX4_printNumber_25 rfl ?_
    refine r_if_le (pc := 27) (tgt := 71) C dX4_printNumber_27 (by decide) (fun _ => ?_) (fun _ => ?_)
    · refine r_iload_n (pc := 71) C dX4_printNumber_71 rfl ?_
      exact r_iret (pc := 72) C dX4_printNumber_72
    · refine r_iload_n (pc := 30) C dX4_printNumber_30 rfl ?_
      refine r_if_lt (pc := 31) (tgt := 71) C dX4_printNumber_31 (by decide) (fun _ => ?_) (fun _ => ?_)
      · refine r_iload_n (pc := 71) C dX4_printNumber_71 rfl ?_
        exact r_iret (pc := 72) C dX4_printNumber_72
      · refine r_iload_n (pc := 34) C dX4_printNumber_34 rfl ?_
        refine r_iload (pc := 35) C dX4_printNumber_35 rfl ?_
        refine r_icmp_ge (pc := 37) (tgt := 46) C dX4_printNumber_37 (by decide) (fun _ => ?_) (fun _ => ?_)
        · refine r_aload_n (pc := 46) C dX4_printNumber_46 rfl ?_
          refine r_bipush (pc := 47) (v := 48) C dX4_printNumber_47 (by decide) ?_
          refine r_iload_n (pc := 49) C dX4_printNumber_49 rfl ?_
          refine r_iload (pc := 50) C dX4_printNumber_50 rfl ?_
          refine r_idiv (pc := 52) C dX4_printNumber_52 ?_
          refine r_bipush (pc := 53) (v := 10) C dX4_printNumber_53 (by decide) ?_
          refine r_irem (pc := 55) C dX4_printNumber_55 ?_
          refine r_iadd (pc := 56) C dX4_printNumber_56 ?_
          refine r_callV (pc := 57) C 41 (c_X4_print (zO.ap C) _ _) lk_c_X4_print lk_i_X4 lk_m_X4_19 lk_n_X4_print lk_v_X4_print (n := 1) (by decide +kernel) rfl ⟨rfl, rfl⟩ (by decide) (by decide) rfl rfl rfl (Nat.le_of_ble_eq_true rfl) ⟨Nat.zero_le _, Nat.zero_le _⟩ dX4_printNumber_57 (fun v2 s1 _ => ?_)
          refine r_istore_n (pc := 60) (lv' := [some (.ref (zad E 41)), some (.int x1), some (.int v2), some (.int x3), some (.int x4)]) C dX4_printNumber_60 (by decide) rfl ?_
          refine r_iload (pc := 61) C dX4_printNumber_61 rfl ?_
          refine r_bipush (pc := 63) (v := 10) C dX4_printNumber_63 (by decide) ?_
          refine r_idiv (pc := 65) C dX4_printNumber_65 ?_
          refine r_leti (fun v3 => ?_)
          refine r_istore (pc := 66) (lv' := [some (.ref (zad E 41)), some (.int x1), some (.int v2), some (.int x3), some (.int v3)]) C dX4_printNumber_66 (by decide) rfl ?_
          refine r_goto (pc := 68) (tgt := 25) C dX4_printNumber_68 (by decide) ?_
          exact ih _ _ _ _ _
        · refine r_iload (pc := 40) C dX4_printNumber_40 rfl ?_
          refine r_iconst (pc := 42) (v := 1) C dX4_printNumber_42 (by decide) ?_
          refine r_icmp_ne (pc := 43) (tgt := 61) C dX4_printNumber_43 (by decide) (fun _ => ?_) (fun _ => ?_)
          · refine r_aload_n (pc := 46) C dX4_printNumber_46 rfl ?_
            refine r_bipush (pc := 47) (v := 48) C dX4_printNumber_47 (by decide) ?_
            refine r_iload_n (pc := 49) C dX4_printNumber_49 rfl ?_
            refine r_iload (pc := 50) C dX4_printNumber_50 rfl ?_
            refine r_idiv (pc := 52) C dX4_printNumber_52 ?_
            refine r_bipush (pc := 53) (v := 10) C dX4_printNumber_53 (by decide) ?_
            refine r_irem (pc := 55) C dX4_printNumber_55 ?_
            refine r_iadd (pc := 56) C dX4_printNumber_56 ?_
            refine r_callV (pc := 57) C 41 (c_X4_print (zO.ap C) _ _) lk_c_X4_print lk_i_X4 lk_m_X4_19 lk_n_X4_print lk_v_X4_print (n := 1) (by decide +kernel) rfl ⟨rfl, rfl⟩ (by decide) (by decide) rfl rfl rfl (Nat.le_of_ble_eq_true rfl) ⟨Nat.zero_le _, Nat.zero_le _⟩ dX4_printNumber_57 (fun v5 s2 _ => ?_)
            refine r_istore_n (pc := 60) (lv' := [some (.ref (zad E 41)), some (.int x1), some (.int v5), some (.int x3), some (.int x4)]) C dX4_printNumber_60 (by decide) rfl ?_
            refine r_iload (pc := 61) C dX4_printNumber_61 rfl ?_
            refine r_bipush (pc := 63) (v := 10) C dX4_printNumber_63 (by decide) ?_
            refine r_idiv (pc := 65) C dX4_printNumber_65 ?_
            refine r_leti (fun v6 => ?_)
            refine r_istore (pc := 66) (lv' := [some (.ref (zad E 41)), some (.int x1), some (.int v5), some (.int x3), some (.int v6)]) C dX4_printNumber_66 (by decide) rfl ?_
            refine r_goto (pc := 68) (tgt := 25) C dX4_printNumber_68 (by decide) ?_
            exact ih _ _ _ _ _
          · refine r_iload (pc := 61) C dX4_printNumber_61 rfl ?_
            refine r_bipush (pc := 63) (v := 10) C dX4_printNumber_63 (by decide) ?_
            refine r_idiv (pc := 65) C dX4_printNumber_65 ?_
            refine r_leti (fun v4 => ?_)
            refine r_istore (pc := 66) (lv' := [some (.ref (zad E 41)), some (.int x1), some (.int x2), some (.int x3), some (.int v4)]) C dX4_printNumber_66 (by decide) rfl ?_
            refine r_goto (pc := 68) (tgt := 25) C dX4_printNumber_68 (by decide) ?_
            exact ih _ _ _ _ _
set_option maxHeartbeats 4000000 in
set_option maxRecDepth 100000 in
theorem g_X4_printNumber {E : zG} {Γ : zX} (C : zO E Γ RX4 cX4_printNumber 5 (some .int)) (p0 : Int32) (σ : zS) : zJ E Γ rm_X4_printNumber 5 (fun r : Int32 => some (.int r)) (f_X4_printNumber p0 σ) σ 0 [some (.ref (zad E 41)), some (.int p0), none, none, none] [] := by
  unfold f_X4_printNumber
  refine r_iload_n (pc := 0) C dX4_printNumber_0 rfl ?_
  refine r_if_ge (pc := 1) (tgt := 13) C dX4_printNumber_1 (by decide) (fun _ => ?_) (fun _ => ?_)
  · refine r_iconst (pc := 13) (v := 1) C dX4_printNumber_13 (by decide) ?_
    refine r_istore_n (pc := 14) (lv' := [some (.ref (zad E 41)), some (.int p0), some (.int (1 : Int32)), none, none]) C dX4_printNumber_14 (by decide) rfl ?_
    refine r_iload_n (pc := 15) C dX4_printNumber_15 rfl ?_
    refine r_mabs (pc := 16) C lk_m_X4_23 lk_ms_abs lk_mi lk_mc_abs (by decide) (Nat.le_of_ble_eq_true rfl) ⟨Nat.zero_le _, Nat.zero_le _⟩ dX4_printNumber_16 ?_
    refine r_leti (fun v1 => ?_)
    refine r_istore_n (pc := 19) (lv' := [some (.ref (zad E 41)), some (.int p0), some (.int (1 : Int32)), some (.int v1), none]) C dX4_printNumber_19 (by decide) rfl ?_
    refine r_sipush (pc := 20) (v := 10000) C dX4_printNumber_20 (by decide) ?_
    refine r_istore (pc := 23) (lv' := [some (.ref (zad E 41)), some (.int p0), some (.int (1 : Int32)), some (.int v1), some (.int (10000 : Int32))]) C dX4_printNumber_23 (by decide) rfl ?_
    exact g_X4_printNumber_L25 C zF _ _ _ _ _
  · refine r_aload_n (pc := 4) C dX4_printNumber_4 rfl ?_
    refine r_bipush (pc := 5) (v := 45) C dX4_printNumber_5 (by decide) ?_
    refine r_callV (pc := 7) C 41 (c_X4_print (zO.ap C) _ _) lk_c_X4_print lk_i_X4 lk_m_X4_19 lk_n_X4_print lk_v_X4_print (n := 1) (by decide +kernel) rfl ⟨rfl, rfl⟩ (by decide) (by decide) rfl rfl rfl (Nat.le_of_ble_eq_true rfl) ⟨Nat.zero_le _, Nat.zero_le _⟩ dX4_printNumber_7 (fun v7 s3 _ => ?_)
    refine r_goto (pc := 10) (tgt := 14) C dX4_printNumber_10 (by decide) ?_
    refine r_istore_n (pc := 14) (lv' := [some (.ref (zad E 41)), some (.int p0), some (.int v7), none, none]) C dX4_printNumber_14 (by decide) rfl ?_
    refine r_iload_n (pc := 15) C dX4_printNumber_15 rfl ?_
    refine r_mabs (pc := 16) C lk_m_X4_23 lk_ms_abs lk_mi lk_mc_abs (by decide) (Nat.le_of_ble_eq_true rfl) ⟨Nat.zero_le _, Nat.zero_le _⟩ dX4_printNumber_16 ?_
    refine r_leti (fun v8 => ?_)
    refine r_istore_n (pc := 19) (lv' := [some (.ref (zad E 41)), some (.int p0), some (.int v7), some (.int v8), none]) C dX4_printNumber_19 (by decide) rfl ?_
    refine r_sipush (pc := 20) (v := 10000) C dX4_printNumber_20 (by decide) ?_
    refine r_istore (pc := 23) (lv' := [some (.ref (zad E 41)), some (.int p0), some (.int v7), some (.int v8), some (.int (10000 : Int32))]) C dX4_printNumber_23 (by decide) rfl ?_
    exact g_X4_printNumber_L25 C zF _ _ _ _ _
theorem c_X4_printNumber {E : zG} (hAp : zAp E) (p0 : Int32) (σ : zS) : zM E yX4_printNumber cX4_printNumber 5 (some .int) rm_X4_printNumber (fun r : Int32 => some (.int r)) [.ref (zad E 41), .int p0] (f_X4_printNumber p0 σ) σ :=
  zM_of (nn := 3) hAp (by decide) (Nat.le_of_ble_eq_true rfl) rfl rfl (fun Γ C => g_X4_printNumber C p0 σ)
set_option maxHeartbeats 4000000 in
set_option maxRecDepth 100000 in
theorem g_X5_append {E : zG} {Γ : zX} (C : zO E Γ RX5 cX5_append 7 (some .int)) (p0 : Int32) (p1 : Int32) (p2 : Int32) (p3 : Int32) (p4 : Int32) (σ : zS) : zJ E Γ rm_X5_append 7 (fun r : Int32 => some (.int r)) (f_X5_append p0 p1 p2 p3 p4 σ) σ 0 [some (.ref (zad E 5)), some (.int p0), some (.int p1), some (.int p2), some (.int p3), some (.int p4), none] [] := by
  unfold f_X5_append
  refine r_aload_n (pc := 0) C dX5_append_0 rfl ?_
  refine r_get (pc := 1) C K_X5 5 3 (by decide) rfl (by decide) lk_f_X5_34 rfl dX5_append_1 ?_
  refine r_bipush (pc := 4) (v := 100) C dX5_append_4 (by decide) ?_
  refine r_icmp_lt (pc := 6) (tgt := 12) C dX5_append_6 (by decide) (fun _ => ?_) (fun _ => ?_)
  · refine r_aload_n (pc := 12) C dX5_append_12 rfl ?_
    refine r_get (pc := 13) C K_X5 5 3 (by decide) rfl (by decide) lk_f_X5_34 rfl dX5_append_13 ?_
    refine r_istore (pc := 16) (lv' := [some (.ref (zad E 5)), some (.int p0), some (.int p1), some (.int p2), some (.int p3), some (.int p4), some (.int (σ 5 3))]) C dX5_append_16 (by decide) rfl ?_
    refine r_aload_n (pc := 18) C dX5_append_18 rfl ?_
    refine r_get (pc := 19) C K_X5 5 0 (by decide) rfl (by decide) lk_f_X5_9 rfl dX5_append_19 ?_
    refine r_iload (pc := 22) C dX5_append_22 rfl ?_
    refine r_iload_n (pc := 24) C dX5_append_24 rfl ?_
    refine r_iast (pc := 25) (t0 := 0) C 6 (by decide) rfl (fun _ => rfl) rfl dX5_append_25 (fun s1 _ => ?_)
    refine r_aload_n (pc := 26) C dX5_append_26 rfl ?_
    refine r_get (pc := 27) C K_X5 5 1 (by decide) rfl (by decide) lk_f_X5_15 rfl dX5_append_27 ?_
    refine r_iconst (pc := 30) (v := 3) C dX5_append_30 (by decide) ?_
    refine r_iload (pc := 31) C dX5_append_31 rfl ?_
    refine r_imul (pc := 33) C dX5_append_33 ?_
    refine r_iload_n (pc := 34) C dX5_append_34 rfl ?_
    refine r_iast (pc := 35) (t0 := 0) C 7 (by decide) rfl (fun _ => rfl) rfl dX5_append_35 (fun s2 _ => ?_)
    refine r_aload_n (pc := 36) C dX5_append_36 rfl ?_
    refine r_get (pc := 37) C K_X5 5 1 (by decide) rfl (by decide) lk_f_X5_15 rfl dX5_append_37 ?_
    refine r_iconst (pc := 40) (v := 3) C dX5_append_40 (by decide) ?_
    refine r_iload (pc := 41) C dX5_append_41 rfl ?_
    refine r_imul (pc := 43) C dX5_append_43 ?_
    refine r_iconst (pc := 44) (v := 1) C dX5_append_44 (by decide) ?_
    refine r_iadd (pc := 45) C dX5_append_45 ?_
    refine r_iload_n (pc := 46) C dX5_append_46 rfl ?_
    refine r_iast (pc := 47) (t0 := 0) C 7 (by decide) rfl (fun _ => rfl) rfl dX5_append_47 (fun s3 _ => ?_)
    refine r_aload_n (pc := 48) C dX5_append_48 rfl ?_
    refine r_get (pc := 49) C K_X5 5 1 (by decide) rfl (by decide) lk_f_X5_15 rfl dX5_append_49 ?_
    refine r_iconst (pc := 52) (v := 3) C dX5_append_52 (by decide) ?_
    refine r_iload (pc := 53) C dX5_append_53 rfl ?_
    refine r_imul (pc := 55) C dX5_append_55 ?_
    refine r_iconst (pc := 56) (v := 2) C dX5_append_56 (by decide) ?_
    refine r_iadd (pc := 57) C dX5_append_57 ?_
    refine r_iload (pc := 58) C dX5_append_58 rfl ?_
    refine r_iast (pc := 60) (t0 := 0) C 7 (by decide) rfl (fun _ => rfl) rfl dX5_append_60 (fun s4 _ => ?_)
    refine r_aload_n (pc := 61) C dX5_append_61 rfl ?_
    refine r_get (pc := 62) C K_X5 5 2 (by decide) rfl (by decide) lk_f_X5_18 rfl dX5_append_62 ?_
    refine r_iload (pc := 65) C dX5_append_65 rfl ?_
    refine r_iload (pc := 67) C dX5_append_67 rfl ?_
    refine r_iast (pc := 69) (t0 := 0) C 8 (by decide) rfl (fun _ => rfl) rfl dX5_append_69 (fun s5 _ => ?_)
    refine r_aload_n (pc := 70) C dX5_append_70 rfl ?_
    refine r_dup (pc := 71) C dX5_append_71 rfl ?_
    refine r_get (pc := 72) C K_X5 5 3 (by decide) rfl (by decide) lk_f_X5_34 rfl dX5_append_72 ?_
    refine r_iconst (pc := 75) (v := 1) C dX5_append_75 (by decide) ?_
    refine r_iadd (pc := 76) C dX5_append_76 ?_
    refine r_put (pc := 77) C K_X5 5 3 (by decide) rfl (by decide) lk_f_X5_34 rfl rfl (Nat.le_of_ble_eq_true rfl) rfl dX5_append_77 (fun s6 _ => ?_)
    refine r_iload (pc := 80) C dX5_append_80 rfl ?_
    exact r_iret (pc := 82) C dX5_append_82
  · refine r_bipush (pc := 9) (v := -3) C dX5_append_9 (by decide) ?_
    exact r_iret (pc := 11) C dX5_append_11
theorem c_X5_append {E : zG} (hAp : zAp E) (p0 : Int32) (p1 : Int32) (p2 : Int32) (p3 : Int32) (p4 : Int32) (σ : zS) : zM E yX5_append cX5_append 7 (some .int) rm_X5_append (fun r : Int32 => some (.int r)) [.ref (zad E 5), .int p0, .int p1, .int p2, .int p3, .int p4] (f_X5_append p0 p1 p2 p3 p4 σ) σ :=
  zM_of (nn := 1) hAp (by decide) (Nat.le_of_ble_eq_true rfl) rfl rfl (fun Γ C => g_X5_append C p0 p1 p2 p3 p4 σ)
set_option maxHeartbeats 4000000 in
set_option maxRecDepth 100000 in
theorem g_X5_define {E : zG} {Γ : zX} (C : zO E Γ RX5 cX5_define 5 none) (p0 : Int32) (p1 : Int32) (p2 : Int32) (p3 : Int32) (σ : zS) : zJ E Γ rm_X5_define 5 (fun _ : Unit => none) (f_X5_define p0 p1 p2 p3 σ) σ 0 [some (.ref (zad E 5)), some (.int p0), some (.int p1), some (.int p2), some (.int p3)] [] := by
  unfold f_X5_define
  refine r_aload_n (pc := 0) C dX5_define_0 rfl ?_
  refine r_get (pc := 1) C K_X5 5 4 (by decide) rfl (by decide) lk_f_X5_21 rfl dX5_define_1 ?_
  refine r_iload_n (pc := 4) C dX5_define_4 rfl ?_
  refine r_iconst (pc := 5) (v := 1) C dX5_define_5 (by decide) ?_
  refine r_zast (pc := 6) (t0 := 1) C 9 (by decide) rfl (fun _ => rfl) rfl dX5_define_6 (fun s1 _ => ?_)
  refine r_aload_n (pc := 7) C dX5_define_7 rfl ?_
  refine r_get (pc := 8) C K_X5 5 5 (by decide) rfl (by decide) lk_f_X5_25 rfl dX5_define_8 ?_
  refine r_iload_n (pc := 11) C dX5_define_11 rfl ?_
  refine r_iload_n (pc := 12) C dX5_define_12 rfl ?_
  refine r_iast (pc := 13) (t0 := 0) C 10 (by decide) rfl (fun _ => rfl) rfl dX5_define_13 (fun s2 _ => ?_)
  refine r_aload_n (pc := 14) C dX5_define_14 rfl ?_
  refine r_get (pc := 15) C K_X5 5 6 (by decide) rfl (by decide) lk_f_X5_28 rfl dX5_define_15 ?_
  refine r_iload_n (pc := 18) C dX5_define_18 rfl ?_
  refine r_iload_n (pc := 19) C dX5_define_19 rfl ?_
  refine r_iast (pc := 20) (t0 := 0) C 11 (by decide) rfl (fun _ => rfl) rfl dX5_define_20 (fun s3 _ => ?_)
  refine r_aload_n (pc := 21) C dX5_define_21 rfl ?_
  refine r_get (pc := 22) C K_X5 5 7 (by decide) rfl (by decide) lk_f_X5_31 rfl dX5_define_22 ?_
  refine r_iload_n (pc := 25) C dX5_define_25 rfl ?_
  refine r_iload (pc := 26) C dX5_define_26 rfl ?_
  refine r_zast (pc := 28) (t0 := 1) C 12 (by decide) rfl (fun _ => rfl) rfl dX5_define_28 (fun s4 _ => ?_)
  exact r_vret (pc := 29) C dX5_define_29
theorem c_X5_define {E : zG} (hAp : zAp E) (p0 : Int32) (p1 : Int32) (p2 : Int32) (p3 : Int32) (σ : zS) : zM E yX5_define cX5_define 5 none rm_X5_define (fun _ : Unit => none) [.ref (zad E 5), .int p0, .int p1, .int p2, .int p3] (f_X5_define p0 p1 p2 p3 σ) σ :=
  zM_of (nn := 0) hAp (by decide) (Nat.le_of_ble_eq_true rfl) rfl rfl (fun Γ C => g_X5_define C p0 p1 p2 p3 σ)
set_option maxHeartbeats 4000000 in
set_option maxRecDepth 100000 in
theorem g_X5_forget_L12 {E : zG} {Γ : zX} (C : zO E Γ RX5 cX5_forget 3 (some .int)) : ∀ (n : Nat) (x1 : Int32) (x2 : Int32) (σ : zS), zJ E Γ rm_X5_forget 3 (fun r : Int32 => some (.int r)) (f_X5_forget_L12 n x1 x2 σ) σ 12 [some (.ref (zad E 5)), some (.int x1), some (.int x2)] [] := by
  intro n
  induction n with
  | zero => intro x1 x2 σ; rw [f_X5_forget_L12]; exact r_none
  | succ n ih =>
    intro x1 x2 σ
    rw [f_X5_forget_L12]
    refine r_iload_n (pc := 12) C dX5_forget_12 rfl ?_
    refine r_bipush (pc := 13) (v := 8) C dX5_forget_13 (by decide) ?_
    refine r_icmp_ge (pc := 15) (tgt := 31) C dX5_forget_15 (by decide) (fun _ => ?_) (fun _ => ?_)
    · refine r_iload_n (pc := 31) C dX5_forget_31 rfl ?_
      exact r_iret (pc := 32) C dX5_forget_32
    · refine r_aload_n (pc := 18) C dX5_forget_18 rfl ?_
      refine r_get (pc := 19) C K_X5 5 4 (by decide) rfl (by decide) lk_f_X5_21 rfl dX5_forget_19 ?_
      refine r_iload_n (pc := 22) C dX5_forget_22 rfl ?_
      refine r_iconst (pc := 23) (v := 0) C dX5_forget_23 (by decide) ?_
      refine r_zast (pc := 24) (t0 := 1) C 9 (by decide) rfl (fun _ => rfl) rfl dX5_forget_24 (fun s2 _ => ?_)
      refine r_iinc (pc := 25) (lv' := [some (.ref (zad E 5)), some (.int x1), some (.int (x2 + (1 : Int32)))]) C dX5_forget_25 (by decide) rfl rfl rfl ?_
      refine r_goto (pc := 28) (tgt := 12) C dX5_forget_28 (by decide) ?_
      exact ih _ _ _
set_option maxHeartbeats 4000000 in
set_option maxRecDepth 100000 in
theorem g_X5_forget {E : zG} {Γ : zX} (C : zO E Γ RX5 cX5_forget 3 (some .int)) (σ : zS) : zJ E Γ rm_X5_forget 3 (fun r : Int32 => some (.int r)) (f_X5_forget σ) σ 0 [some (.ref (zad E 5)), none, none] [] := by
  unfold f_X5_forget
  refine r_aload_n (pc := 0) C dX5_forget_0 rfl ?_
  refine r_get (pc := 1) C K_X5 5 3 (by decide) rfl (by decide) lk_f_X5_34 rfl dX5_forget_1 ?_
  refine r_istore_n (pc := 4) (lv' := [some (.ref (zad E 5)), some (.int (σ 5 3)), none]) C dX5_forget_4 (by decide) rfl ?_
  refine r_aload_n (pc := 5) C dX5_forget_5 rfl ?_
  refine r_iconst (pc := 6) (v := 0) C dX5_forget_6 (by decide) ?_
  refine r_put (pc := 7) C K_X5 5 3 (by decide) rfl (by decide) lk_f_X5_34 rfl rfl (Nat.le_of_ble_eq_true rfl) rfl dX5_forget_7 (fun s1 _ => ?_)
  refine r_iconst (pc := 10) (v := 0) C dX5_forget_10 (by decide) ?_
  refine r_istore_n (pc := 11) (lv' := [some (.ref (zad E 5)), some (.int (σ 5 3)), some (.int (0 : Int32))]) C dX5_forget_11 (by decide) rfl ?_
  exact g_X5_forget_L12 C zF _ _ _
theorem c_X5_forget {E : zG} (hAp : zAp E) (σ : zS) : zM E yX5_forget cX5_forget 3 (some .int) rm_X5_forget (fun r : Int32 => some (.int r)) [.ref (zad E 5)] (f_X5_forget σ) σ :=
  zM_of (nn := 2) hAp (by decide) (Nat.le_of_ble_eq_true rfl) rfl rfl (fun Γ C => g_X5_forget C σ)
set_option maxHeartbeats 4000000 in
set_option maxRecDepth 100000 in
theorem g_X5_opAt {E : zG} {Γ : zX} (C : zO E Γ RX5 cX5_opAt 2 (some .int)) (p0 : Int32) (σ : zS) : zJ E Γ rm_X5_opAt 2 (fun r : Int32 => some (.int r)) (f_X5_opAt p0 σ) σ 0 [some (.ref (zad E 5)), some (.int p0)] [] := by
  unfold f_X5_opAt
  refine r_iload_n (pc := 0) C dX5_opAt_0 rfl ?_
  refine r_if_lt (pc := 1) (tgt := 21) C dX5_opAt_1 (by decide) (fun _ => ?_) (fun _ => ?_)
  · refine r_iconst (pc := 21) (v := -1) C dX5_opAt_21 (by decide) ?_
    exact r_iret (pc := 22) C dX5_opAt_22
  · refine r_iload_n (pc := 4) C dX5_opAt_4 rfl ?_
    refine r_aload_n (pc := 5) C dX5_opAt_5 rfl ?_
    refine r_get (pc := 6) C K_X5 5 3 (by decide) rfl (by decide) lk_f_X5_34 rfl dX5_opAt_6 ?_
    refine r_icmp_ge (pc := 9) (tgt := 21) C dX5_opAt_9 (by decide) (fun _ => ?_) (fun _ => ?_)
    · refine r_iconst (pc := 21) (v := -1) C dX5_opAt_21 (by decide) ?_
      exact r_iret (pc := 22) C dX5_opAt_22
    · refine r_aload_n (pc := 12) C dX5_opAt_12 rfl ?_
      refine r_get (pc := 13) C K_X5 5 0 (by decide) rfl (by decide) lk_f_X5_9 rfl dX5_opAt_13 ?_
      refine r_iload_n (pc := 16) C dX5_opAt_16 rfl ?_
      refine r_iald (pc := 17) (t0 := 0) C 6 (by decide) rfl rfl dX5_opAt_17 ?_
      refine r_goto (pc := 18) (tgt := 22) C dX5_opAt_18 (by decide) ?_
      exact r_iret (pc := 22) C dX5_opAt_22
theorem c_X5_opAt {E : zG} (hAp : zAp E) (p0 : Int32) (σ : zS) : zM E yX5_opAt cX5_opAt 2 (some .int) rm_X5_opAt (fun r : Int32 => some (.int r)) [.ref (zad E 5), .int p0] (f_X5_opAt p0 σ) σ :=
  zM_of (nn := 0) hAp (by decide) (Nat.le_of_ble_eq_true rfl) rfl rfl (fun Γ C => g_X5_opAt C p0 σ)
set_option maxHeartbeats 4000000 in
set_option maxRecDepth 100000 in
theorem g_X7_isWithin {E : zG} {Γ : zX} (C : zO E Γ RX7 cX7_isWithin 2 (some .boolean)) (p0 : Int32) (p1 : Int32) (σ : zS) : zJ E Γ rm_X7_isWithin 2 (fun r : Int32 => some (.int r)) (f_X7_isWithin p0 p1 σ) σ 0 [some (.int p0), some (.int p1)] [] := by
  unfold f_X7_isWithin
  refine r_iload_n (pc := 0) C dX7_isWithin_0 rfl ?_
  refine r_if_lt (pc := 1) (tgt := 13) C dX7_isWithin_1 (by decide) (fun _ => ?_) (fun _ => ?_)
  · refine r_iconst (pc := 13) (v := 0) C dX7_isWithin_13 (by decide) ?_
    exact r_zret (pc := 14) C (by first | rfl | decide) dX7_isWithin_14
  · refine r_iload_n (pc := 4) C dX7_isWithin_4 rfl ?_
    refine r_iload_n (pc := 5) C dX7_isWithin_5 rfl ?_
    refine r_icmp_gt (pc := 6) (tgt := 13) C dX7_isWithin_6 (by decide) (fun _ => ?_) (fun _ => ?_)
    · refine r_iconst (pc := 13) (v := 0) C dX7_isWithin_13 (by decide) ?_
      exact r_zret (pc := 14) C (by first | rfl | decide) dX7_isWithin_14
    · refine r_iconst (pc := 9) (v := 1) C dX7_isWithin_9 (by decide) ?_
      refine r_goto (pc := 10) (tgt := 14) C dX7_isWithin_10 (by decide) ?_
      exact r_zret (pc := 14) C (by first | rfl | decide) dX7_isWithin_14
theorem c_X7_isWithin {E : zG} (hAp : zAp E) (p0 : Int32) (p1 : Int32) (σ : zS) : zM E yX7_isWithin cX7_isWithin 2 (some .boolean) rm_X7_isWithin (fun r : Int32 => some (.int r)) [.int p0, .int p1] (f_X7_isWithin p0 p1 σ) σ :=
  zM_of (nn := 0) hAp (by decide) (Nat.le_of_ble_eq_true rfl) rfl rfl (fun Γ C => g_X7_isWithin C p0 p1 σ)
set_option maxHeartbeats 4000000 in
set_option maxRecDepth 100000 in
theorem g_X5_hasRoutine {E : zG} {Γ : zX} (C : zO E Γ RX5 cX5_hasRoutine 2 (some .boolean)) (p0 : Int32) (σ : zS) : zJ E Γ rm_X5_hasRoutine 2 (fun r : Int32 => some (.int r)) (f_X5_hasRoutine p0 σ) σ 0 [some (.ref (zad E 5)), some (.int p0)] [] := by
  unfold f_X5_hasRoutine
  refine r_iload_n (pc := 0) C dX5_hasRoutine_0 rfl ?_
  refine r_bipush (pc := 1) (v := 7) C dX5_hasRoutine_1 (by decide) ?_
  refine r_callSN (pc := 3) C (c_X7_isWithin (zO.ap C) _ _ _) lk_c_X7_isWithin lk_i_X7 lk_mn_X5_38 lk_s_X7_isWithin (n := 2) (by decide +kernel) rfl ⟨rfl, rfl⟩ (by decide) (Nat.le_of_ble_eq_true rfl) ⟨Nat.zero_le _, Nat.zero_le _⟩ dX5_hasRoutine_3 (fun v1 s1 _ => ?_)
  refine r_if_eq (pc := 6) (tgt := 22) C dX5_hasRoutine_6 (by decide) (fun _ => ?_) (fun _ => ?_)
  · refine r_iconst (pc := 22) (v := 0) C dX5_hasRoutine_22 (by decide) ?_
    exact r_zret (pc := 23) C (by first | rfl | decide) dX5_hasRoutine_23
  · refine r_aload_n (pc := 9) C dX5_hasRoutine_9 rfl ?_
    refine r_get (pc := 10) C K_X5 5 4 (by decide) rfl (by decide) lk_f_X5_21 rfl dX5_hasRoutine_10 ?_
    refine r_iload_n (pc := 13) C dX5_hasRoutine_13 rfl ?_
    refine r_zald (pc := 14) (t0 := 1) C 9 (by decide) rfl rfl dX5_hasRoutine_14 ?_
    refine r_if_eq (pc := 15) (tgt := 22) C dX5_hasRoutine_15 (by decide) (fun _ => ?_) (fun _ => ?_)
    · refine r_iconst (pc := 22) (v := 0) C dX5_hasRoutine_22 (by decide) ?_
      exact r_zret (pc := 23) C (by first | rfl | decide) dX5_hasRoutine_23
    · refine r_iconst (pc := 18) (v := 1) C dX5_hasRoutine_18 (by decide) ?_
      refine r_goto (pc := 19) (tgt := 23) C dX5_hasRoutine_19 (by decide) ?_
      exact r_zret (pc := 23) C (by first | rfl | decide) dX5_hasRoutine_23
theorem c_X5_hasRoutine {E : zG} (hAp : zAp E) (p0 : Int32) (σ : zS) : zM E yX5_hasRoutine cX5_hasRoutine 2 (some .boolean) rm_X5_hasRoutine (fun r : Int32 => some (.int r)) [.ref (zad E 5), .int p0] (f_X5_hasRoutine p0 σ) σ :=
  zM_of (nn := 0) hAp (by decide) (Nat.le_of_ble_eq_true rfl) rfl rfl (fun Γ C => g_X5_hasRoutine C p0 σ)
set_option maxHeartbeats 4000000 in
set_option maxRecDepth 100000 in
theorem g_X6_enter {E : zG} {Γ : zX} (C : zO E Γ RX6 cX6_enter 6 (some .int)) (p0 : Int32) (p1 : Int32) (p2 : Int32) (p3 : Int32) (σ : zS) : zJ E Γ rm_X6_enter 6 (fun r : Int32 => some (.int r)) (f_X6_enter p0 p1 p2 p3 σ) σ 0 [some (.ref (zad E 13)), some (.int p0), some (.int p1), some (.int p2), some (.int p3), none] [] := by
  unfold f_X6_enter
  refine r_aload_n (pc := 0) C dX6_enter_0 rfl ?_
  refine r_get (pc := 1) C K_X6 13 2 (by decide) rfl (by decide) lk_f_X6_44 rfl dX6_enter_1 ?_
  refine r_iload_n (pc := 4) C dX6_enter_4 rfl ?_
  refine r_callV (pc := 5) C 5 (c_X5_hasRoutine (zO.ap C) _ _) lk_c_X5_hasRoutine lk_i_X5 lk_m_X6_219 lk_n_X5_hasRoutine lk_v_X5_hasRoutine (n := 1) (by decide +kernel) rfl ⟨rfl, rfl⟩ (by decide) (by decide) rfl rfl rfl (Nat.le_of_ble_eq_true rfl) ⟨Nat.zero_le _, Nat.zero_le _⟩ dX6_enter_5 (fun v1 s1 _ => ?_)
  refine r_if_ne (pc := 8) (tgt := 14) C dX6_enter_8 (by decide) (fun _ => ?_) (fun _ => ?_)
  · refine r_bipush (pc := 11) (v := -19) C dX6_enter_11 (by decide) ?_
    exact r_iret (pc := 13) C dX6_enter_13
  · refine r_aload_n (pc := 14) C dX6_enter_14 rfl ?_
    refine r_get (pc := 15) C K_X6 13 3 (by decide) rfl (by decide) lk_f_X6_12 rfl dX6_enter_15 ?_
    refine r_callV (pc := 18) C 14 (c_X2_enter (zO.ap C)  _) lk_c_X2_enter lk_i_X2 lk_m_X6_223 lk_n_X2_enter lk_v_X2_enter (n := 0) (by decide +kernel) rfl ⟨rfl, rfl⟩ (by decide) (by decide) rfl rfl rfl (Nat.le_of_ble_eq_true rfl) ⟨Nat.zero_le _, Nat.zero_le _⟩ dX6_enter_18 (fun v2 s2 _ => ?_)
    refine r_op (fun _ => ?_) (fun v3 h1 _ => ?_)
    · refine r_astoreN (pc := 21) (lv' := [some (.ref (zad E 13)), some (.int p0), some (.int p1), some (.int p2), some (.int p3), some .null]) C dX6_enter_21 (by decide) rfl ?_
      refine r_aloadN (pc := 23) C dX6_enter_23 rfl ?_
      refine r_ifnonnullN (pc := 25) C dX6_enter_25 ?_
      refine r_bipush (pc := 28) (v := -16) C dX6_enter_28 (by decide) ?_
      exact r_iret (pc := 30) C dX6_enter_30
    · refine r_astore (pc := 21) (lv' := [some (.ref (zad E 13)), some (.int p0), some (.int p1), some (.int p2), some (.int p3), some (.ref (zad E (16 + 2 * v3)))]) C dX6_enter_21 (by decide) rfl ?_
      refine r_aload (pc := 23) C dX6_enter_23 rfl ?_
      refine r_ifnonnull (pc := 25) (tgt := 31) C dX6_enter_25 (by decide) ?_
      refine r_aload (pc := 31) C dX6_enter_31 rfl ?_
      refine r_iload_n (pc := 33) C dX6_enter_33 rfl ?_
      refine r_putN (pc := 34) C K_X1 (16 + 2 * v3) 2 (lt_F h1) (ly_F h1 _) (by decide) lk_fn_X6_225 rfl rfl (Nat.le_of_ble_eq_true rfl) (ly_Fs h1 _ 2 _ (by decide)) dX6_enter_34 (fun s3 _ => ?_)
      refine r_aload (pc := 37) C dX6_enter_37 rfl ?_
      refine r_aload_n (pc := 39) C dX6_enter_39 rfl ?_
      refine r_get (pc := 40) C K_X6 13 2 (by decide) rfl (by decide) lk_f_X6_44 rfl dX6_enter_40 ?_
      refine r_getN (pc := 43) C K_X5 5 5 (by decide) rfl (by decide) lk_fn_X6_228 rfl dX6_enter_43 ?_
      refine r_iload_n (pc := 46) C dX6_enter_46 rfl ?_
      refine r_iald (pc := 47) (t0 := 0) C 10 (by decide) rfl rfl dX6_enter_47 ?_
      refine r_putN (pc := 48) C K_X1 (16 + 2 * v3) 3 (lt_F h1) (ly_F h1 _) (by decide) lk_fn_X6_96 rfl rfl (Nat.le_of_ble_eq_true rfl) (ly_Fs h1 _ 3 _ (by decide)) dX6_enter_48 (fun s4 _ => ?_)
      refine r_aload (pc := 51) C dX6_enter_51 rfl ?_
      refine r_aload_n (pc := 53) C dX6_enter_53 rfl ?_
      refine r_get (pc := 54) C K_X6 13 2 (by decide) rfl (by decide) lk_f_X6_44 rfl dX6_enter_54 ?_
      refine r_getN (pc := 57) C K_X5 5 6 (by decide) rfl (by decide) lk_fn_X6_231 rfl dX6_enter_57 ?_
      refine r_iload_n (pc := 60) C dX6_enter_60 rfl ?_
      refine r_iald (pc := 61) (t0 := 0) C 11 (by decide) rfl rfl dX6_enter_61 ?_
      refine r_putN (pc := 62) C K_X1 (16 + 2 * v3) 1 (lt_F h1) (ly_F h1 _) (by decide) lk_fn_X6_234 rfl rfl (Nat.le_of_ble_eq_true rfl) (ly_Fs h1 _ 1 _ (by decide)) dX6_enter_62 (fun s5 _ => ?_)
      refine r_aload (pc := 65) C dX6_enter_65 rfl ?_
      refine r_iload (pc := 67) C dX6_enter_67 rfl ?_
      refine r_putN (pc := 69) C K_X1 (16 + 2 * v3) 4 (lt_F h1) (ly_F h1 _) (by decide) lk_fn_X6_237 rfl rfl (Nat.le_of_ble_eq_true rfl) (ly_Fs h1 _ 4 _ (by decide)) dX6_enter_69 (fun s6 _ => ?_)
      refine r_aload (pc := 72) C dX6_enter_72 rfl ?_
      refine r_iconst (pc := 74) (v := 1) C dX6_enter_74 (by decide) ?_
      refine r_iload_n (pc := 75) C dX6_enter_75 rfl ?_
      refine r_callV (pc := 76) C (16 + 2 * v3) (c_X1_setLocal (zO.ap C) h1 _ _ _) lk_c_X1_setLocal lk_i_X1 lk_m_X6_213 lk_n_X1_setLocal lk_v_X1_setLocal (n := 2) (by decide +kernel) rfl ⟨rfl, rfl⟩ (by decide) (lt_F h1) (ly_F h1 _) rfl rfl (Nat.le_of_ble_eq_true rfl) ⟨Nat.zero_le _, Nat.zero_le _⟩ dX6_enter_76 (fun v4 s7 _ => ?_)
      refine r_pop (pc := 79) C dX6_enter_79 rfl ?_
      refine r_aload (pc := 80) C dX6_enter_80 rfl ?_
      refine r_iconst (pc := 82) (v := 2) C dX6_enter_82 (by decide) ?_
      refine r_iload_n (pc := 83) C dX6_enter_83 rfl ?_
      refine r_callV (pc := 84) C (16 + 2 * v3) (c_X1_setLocal (zO.ap C) h1 _ _ _) lk_c_X1_setLocal lk_i_X1 lk_m_X6_213 lk_n_X1_setLocal lk_v_X1_setLocal (n := 2) (by decide +kernel) rfl ⟨rfl, rfl⟩ (by decide) (lt_F h1) (ly_F h1 _) rfl rfl (Nat.le_of_ble_eq_true rfl) ⟨Nat.zero_le _, Nat.zero_le _⟩ dX6_enter_84 (fun v5 s8 _ => ?_)
      refine r_pop (pc := 87) C dX6_enter_87 rfl ?_
      refine r_iconst (pc := 88) (v := 1) C dX6_enter_88 (by decide) ?_
      exact r_iret (pc := 89) C dX6_enter_89
theorem c_X6_enter {E : zG} (hAp : zAp E) (p0 : Int32) (p1 : Int32) (p2 : Int32) (p3 : Int32) (σ : zS) : zM E yX6_enter cX6_enter 6 (some .int) rm_X6_enter (fun r : Int32 => some (.int r)) [.ref (zad E 13), .int p0, .int p1, .int p2, .int p3] (f_X6_enter p0 p1 p2 p3 σ) σ :=
  zM_of (nn := 1) hAp (by decide) (Nat.le_of_ble_eq_true rfl) rfl rfl (fun Γ C => g_X6_enter C p0 p1 p2 p3 σ)
set_option maxHeartbeats 4000000 in
set_option maxRecDepth 100000 in
theorem g_X6_begin {E : zG} {Γ : zX} (C : zO E Γ RX6 cX6_begin 4 none) (p0 : Int32) (p1 : Int32) (p2 : Int32) (σ : zS) : zJ E Γ rm_X6_begin 4 (fun _ : Unit => none) (f_X6_begin p0 p1 p2 σ) σ 0 [some (.ref (zad E 13)), some (.int p0), some (.int p1), some (.int p2)] [] := by
  unfold f_X6_begin
  refine r_aload_n (pc := 0) C dX6_begin_0 rfl ?_
  refine r_get (pc := 1) C K_X6 13 3 (by decide) rfl (by decide) lk_f_X6_12 rfl dX6_begin_1 ?_
  refine r_callV (pc := 4) C 14 (c_X2_begin (zO.ap C)  _) lk_c_X2_begin lk_i_X2 lk_m_X6_48 lk_n_X2_begin lk_v_X2_begin (n := 0) (by decide +kernel) rfl ⟨rfl, rfl⟩ (by decide) (by decide) rfl rfl rfl (Nat.le_of_ble_eq_true rfl) ⟨Nat.zero_le _, Nat.zero_le _⟩ dX6_begin_4 (fun _ s1 _ => ?_)
  refine r_aload_n (pc := 7) C dX6_begin_7 rfl ?_
  refine r_get (pc := 8) C K_X6 13 4 (by decide) rfl (by decide) lk_f_X6_21 rfl dX6_begin_8 ?_
  refine r_iconst (pc := 11) (v := 0) C dX6_begin_11 (by decide) ?_
  refine r_putN (pc := 12) C K_X4 41 1 (by decide) rfl (by decide) lk_fn_X6_51 rfl rfl (Nat.le_of_ble_eq_true rfl) rfl dX6_begin_12 (fun s2 _ => ?_)
  refine r_aload_n (pc := 15) C dX6_begin_15 rfl ?_
  refine r_get (pc := 16) C K_X6 13 5 (by decide) rfl (by decide) lk_f_X6_25 rfl dX6_begin_16 ?_
  refine r_iconst (pc := 19) (v := 0) C dX6_begin_19 (by decide) ?_
  refine r_fill (pc := 20) C 43 (by decide) (fun _ => rfl) (by decide) lk_m_X6_54 (by decide) (Nat.le_of_ble_eq_true rfl) ⟨Nat.zero_le _, Nat.zero_le _⟩ dX6_begin_20 (fun s3 _ => ?_)
  refine r_aload_n (pc := 23) C dX6_begin_23 rfl ?_
  refine r_iconst (pc := 24) (v := -1) C dX6_begin_24 (by decide) ?_
  refine r_put (pc := 25) C K_X6 13 9 (by decide) rfl (by decide) lk_f_X6_60 rfl rfl (Nat.le_of_ble_eq_true rfl) rfl dX6_begin_25 (fun s4 _ => ?_)
  refine r_aload_n (pc := 28) C dX6_begin_28 rfl ?_
  refine r_iconst (pc := 29) (v := 0) C dX6_begin_29 (by decide) ?_
  refine r_put (pc := 30) C K_X6 13 10 (by decide) rfl (by decide) lk_f_X6_63 rfl rfl (Nat.le_of_ble_eq_true rfl) rfl dX6_begin_30 (fun s5 _ => ?_)
  refine r_aload_n (pc := 33) C dX6_begin_33 rfl ?_
  refine r_iconst (pc := 34) (v := 0) C dX6_begin_34 (by decide) ?_
  refine r_put (pc := 35) C K_X6 13 11 (by decide) rfl (by decide) lk_f_X6_66 rfl rfl (Nat.le_of_ble_eq_true rfl) rfl dX6_begin_35 (fun s6 _ => ?_)
  refine r_aload_n (pc := 38) C dX6_begin_38 rfl ?_
  refine r_iconst (pc := 39) (v := 0) C dX6_begin_39 (by decide) ?_
  refine r_put (pc := 40) C K_X6 13 12 (by decide) rfl (by decide) lk_f_X6_69 rfl rfl (Nat.le_of_ble_eq_true rfl) rfl dX6_begin_40 (fun s7 _ => ?_)
  refine r_aload_n (pc := 43) C dX6_begin_43 rfl ?_
  refine r_iconst (pc := 44) (v := 0) C dX6_begin_44 (by decide) ?_
  refine r_put (pc := 45) C K_X6 13 13 (by decide) rfl (by decide) lk_f_X6_72 rfl rfl (Nat.le_of_ble_eq_true rfl) rfl dX6_begin_45 (fun s8 _ => ?_)
  refine r_aload_n (pc := 48) C dX6_begin_48 rfl ?_
  refine r_iconst (pc := 49) (v := 0) C dX6_begin_49 (by decide) ?_
  refine r_put (pc := 50) C K_X6 13 14 (by decide) rfl (by decide) lk_f_X6_75 rfl rfl (Nat.le_of_ble_eq_true rfl) rfl dX6_begin_50 (fun s9 _ => ?_)
  refine r_aload_n (pc := 53) C dX6_begin_53 rfl ?_
  refine r_iconst (pc := 54) (v := 0) C dX6_begin_54 (by decide) ?_
  refine r_put (pc := 55) C K_X6 13 15 (by decide) rfl (by decide) lk_f_X6_78 rfl rfl (Nat.le_of_ble_eq_true rfl) rfl dX6_begin_55 (fun s10 _ => ?_)
  refine r_aload_n (pc := 58) C dX6_begin_58 rfl ?_
  refine r_iload_n (pc := 59) C dX6_begin_59 rfl ?_
  refine r_iload_n (pc := 60) C dX6_begin_60 rfl ?_
  refine r_iload_n (pc := 61) C dX6_begin_61 rfl ?_
  refine r_iconst (pc := 62) (v := -1) C dX6_begin_62 (by decide) ?_
  refine r_callV (pc := 63) C 13 (c_X6_enter (zO.ap C) _ _ _ _ _) lk_c_X6_enter lk_i_X6 lk_m_X6_81 lk_n_X6_enter lk_v_X6_enter (n := 4) (by decide +kernel) rfl ⟨rfl, rfl⟩ (by decide) (by decide) rfl rfl rfl (Nat.le_of_ble_eq_true rfl) ⟨Nat.zero_le _, Nat.zero_le _⟩ dX6_begin_63 (fun v1 s11 _ => ?_)
  refine r_pop (pc := 66) C dX6_begin_66 rfl ?_
  exact r_vret (pc := 67) C dX6_begin_67
theorem c_X6_begin {E : zG} (hAp : zAp E) (p0 : Int32) (p1 : Int32) (p2 : Int32) (σ : zS) : zM E yX6_begin cX6_begin 4 none rm_X6_begin (fun _ : Unit => none) [.ref (zad E 13), .int p0, .int p1, .int p2] (f_X6_begin p0 p1 p2 σ) σ :=
  zM_of (nn := 0) hAp (by decide) (Nat.le_of_ble_eq_true rfl) rfl rfl (fun Γ C => g_X6_begin C p0 p1 p2 σ)
set_option maxHeartbeats 4000000 in
set_option maxRecDepth 100000 in
theorem g_X6_isGoing {E : zG} {Γ : zX} (C : zO E Γ RX6 cX6_isGoing 1 (some .boolean)) (σ : zS) : zJ E Γ rm_X6_isGoing 1 (fun r : Int32 => some (.int r)) (f_X6_isGoing σ) σ 0 [some (.ref (zad E 13))] [] := by
  unfold f_X6_isGoing
  refine r_aload_n (pc := 0) C dX6_isGoing_0 rfl ?_
  refine r_get (pc := 1) C K_X6 13 9 (by decide) rfl (by decide) lk_f_X6_60 rfl dX6_isGoing_1 ?_
  refine r_iconst (pc := 4) (v := -1) C dX6_isGoing_4 (by decide) ?_
  refine r_icmp_ne (pc := 5) (tgt := 12) C dX6_isGoing_5 (by decide) (fun _ => ?_) (fun _ => ?_)
  · refine r_iconst (pc := 8) (v := 1) C dX6_isGoing_8 (by decide) ?_
    refine r_goto (pc := 9) (tgt := 13) C dX6_isGoing_9 (by decide) ?_
    exact r_zret (pc := 13) C (by first | rfl | decide) dX6_isGoing_13
  · refine r_iconst (pc := 12) (v := 0) C dX6_isGoing_12 (by decide) ?_
    exact r_zret (pc := 13) C (by first | rfl | decide) dX6_isGoing_13
theorem c_X6_isGoing {E : zG} (hAp : zAp E) (σ : zS) : zM E yX6_isGoing cX6_isGoing 1 (some .boolean) rm_X6_isGoing (fun r : Int32 => some (.int r)) [.ref (zad E 13)] (f_X6_isGoing σ) σ :=
  zM_of (nn := 0) hAp (by decide) (Nat.le_of_ble_eq_true rfl) rfl rfl (fun Γ C => g_X6_isGoing C σ)
set_option maxHeartbeats 4000000 in
set_option maxRecDepth 100000 in
theorem g_X6_leaveDownTo_L8 {E : zG} {Γ : zX} (C : zO E Γ RX6 cX6_leaveDownTo 3 none) : ∀ (n : Nat) (x1 : Int32) (x2 : Int32) (σ : zS), zJ E Γ rm_X6_leaveDownTo 3 (fun _ : Unit => none) (f_X6_leaveDownTo_L8 n x1 x2 σ) σ 8 [some (.ref (zad E 13)), some (.int x1), some (.int x2)] [] := by
  intro n
  induction n with
  | zero => intro x1 x2 σ; rw [f_X6_leaveDownTo_L8]; exact r_none
  | succ n ih =>
    intro x1 x2 σ
    rw [f_X6_leaveDownTo_L8]
    refine r_iload_n (pc := 8) C dX6_leaveDownTo_8 rfl ?_
    refine r_iload_n (pc := 9) C dX6_leaveDownTo_9 rfl ?_
    refine r_icmp_le (pc := 10) (tgt := 49) C dX6_leaveDownTo_10 (by decide) (fun _ => ?_) (fun _ => ?_)
    · exact r_vret (pc := 49) C dX6_leaveDownTo_49
    · refine r_iload_n (pc := 13) C dX6_leaveDownTo_13 rfl ?_
      refine r_if_le (pc := 14) (tgt := 49) C dX6_leaveDownTo_14 (by decide) (fun _ => ?_) (fun _ => ?_)
      · exact r_vret (pc := 49) C dX6_leaveDownTo_49
      · refine r_aload_n (pc := 17) C dX6_leaveDownTo_17 rfl ?_
        refine r_get (pc := 18) C K_X6 13 5 (by decide) rfl (by decide) lk_f_X6_25 rfl dX6_leaveDownTo_18 ?_
        refine r_aload_n (pc := 21) C dX6_leaveDownTo_21 rfl ?_
        refine r_get (pc := 22) C K_X6 13 3 (by decide) rfl (by decide) lk_f_X6_12 rfl dX6_leaveDownTo_22 ?_
        refine r_callV (pc := 25) C 14 (c_X2_top (zO.ap C)  _) lk_c_X2_top lk_i_X2 lk_m_X6_92 lk_n_X2_top lk_v_X2_top (n := 0) (by decide +kernel) rfl ⟨rfl, rfl⟩ (by decide) (by decide) rfl rfl rfl (Nat.le_of_ble_eq_true rfl) ⟨Nat.zero_le _, Nat.zero_le _⟩ dX6_leaveDownTo_25 (fun v1 s1 _ => ?_)
        refine r_op (fun _ => ?_) (fun v2 h1 _ => ?_)
        · exact r_none
        · refine r_getN (pc := 28) C K_X1 (16 + 2 * v2) 2 (lt_F h1) (ly_F h1 _) (by decide) lk_fn_X6_225 rfl dX6_leaveDownTo_28 ?_
          refine r_dup2 (pc := 31) C dX6_leaveDownTo_31 rfl rfl ?_
          refine r_iald (pc := 32) (t0 := 0) C 43 (by decide) rfl rfl dX6_leaveDownTo_32 ?_
          refine r_iconst (pc := 33) (v := 1) C dX6_leaveDownTo_33 (by decide) ?_
          refine r_iadd (pc := 34) C dX6_leaveDownTo_34 ?_
          refine r_iast (pc := 35) (t0 := 0) C 43 (by decide) rfl (fun _ => rfl) rfl dX6_leaveDownTo_35 (fun s2 _ => ?_)
          refine r_aload_n (pc := 36) C dX6_leaveDownTo_36 rfl ?_
          refine r_get (pc := 37) C K_X6 13 3 (by decide) rfl (by decide) lk_f_X6_12 rfl dX6_leaveDownTo_37 ?_
          refine r_callV (pc := 40) C 14 (c_X2_leave (zO.ap C)  _) lk_c_X2_leave lk_i_X2 lk_m_X6_238 lk_n_X2_leave lk_v_X2_leave (n := 0) (by decide +kernel) rfl ⟨rfl, rfl⟩ (by decide) (by decide) rfl rfl rfl (Nat.le_of_ble_eq_true rfl) ⟨Nat.zero_le _, Nat.zero_le _⟩ dX6_leaveDownTo_40 (fun _ s3 _ => ?_)
          refine r_iinc (pc := 43) (lv' := [some (.ref (zad E 13)), some (.int x1), some (.int (x2 + (-1 : Int32)))]) C dX6_leaveDownTo_43 (by decide) rfl rfl rfl ?_
          refine r_goto (pc := 46) (tgt := 8) C dX6_leaveDownTo_46 (by decide) ?_
          exact ih _ _ _
set_option maxHeartbeats 4000000 in
set_option maxRecDepth 100000 in
theorem g_X6_leaveDownTo {E : zG} {Γ : zX} (C : zO E Γ RX6 cX6_leaveDownTo 3 none) (p0 : Int32) (σ : zS) : zJ E Γ rm_X6_leaveDownTo 3 (fun _ : Unit => none) (f_X6_leaveDownTo p0 σ) σ 0 [some (.ref (zad E 13)), some (.int p0), none] [] := by
  unfold f_X6_leaveDownTo
  refine r_aload_n (pc := 0) C dX6_leaveDownTo_0 rfl ?_
  refine r_get (pc := 1) C K_X6 13 3 (by decide) rfl (by decide) lk_f_X6_12 rfl dX6_leaveDownTo_1 ?_
  refine r_getN (pc := 4) C K_X2 14 3 (by decide) rfl (by decide) lk_fn_X6_175 rfl dX6_leaveDownTo_4 ?_
  refine r_istore_n (pc := 7) (lv' := [some (.ref (zad E 13)), some (.int p0), some (.int (σ 14 3))]) C dX6_leaveDownTo_7 (by decide) rfl ?_
  exact g_X6_leaveDownTo_L8 C zF _ _ _
theorem c_X6_leaveDownTo {E : zG} (hAp : zAp E) (p0 : Int32) (σ : zS) : zM E yX6_leaveDownTo cX6_leaveDownTo 3 none rm_X6_leaveDownTo (fun _ : Unit => none) [.ref (zad E 13), .int p0] (f_X6_leaveDownTo p0 σ) σ :=
  zM_of (nn := 1) hAp (by decide) (Nat.le_of_ble_eq_true rfl) rfl rfl (fun Γ C => g_X6_leaveDownTo C p0 σ)
set_option maxHeartbeats 4000000 in
set_option maxRecDepth 100000 in
theorem g_X6_finish {E : zG} {Γ : zX} (C : zO E Γ RX6 cX6_finish 1 (some .int)) (σ : zS) : zJ E Γ rm_X6_finish 1 (fun r : Int32 => some (.int r)) (f_X6_finish σ) σ 0 [some (.ref (zad E 13))] [] := by
  unfold f_X6_finish
  refine r_aload_n (pc := 0) C dX6_finish_0 rfl ?_
  refine r_get (pc := 1) C K_X6 13 9 (by decide) rfl (by decide) lk_f_X6_60 rfl dX6_finish_1 ?_
  refine r_iconst (pc := 4) (v := -1) C dX6_finish_4 (by decide) ?_
  refine r_icmp_ne (pc := 5) (tgt := 13) C dX6_finish_5 (by decide) (fun _ => ?_) (fun _ => ?_)
  · refine r_aload_n (pc := 8) C dX6_finish_8 rfl ?_
    refine r_iconst (pc := 9) (v := 3) C dX6_finish_9 (by decide) ?_
    refine r_put (pc := 10) C K_X6 13 9 (by decide) rfl (by decide) lk_f_X6_60 rfl rfl (Nat.le_of_ble_eq_true rfl) rfl dX6_finish_10 (fun s2 _ => ?_)
    refine r_aload_n (pc := 13) C dX6_finish_13 rfl ?_
    refine r_iconst (pc := 14) (v := 0) C dX6_finish_14 (by decide) ?_
    refine r_callV (pc := 15) C 13 (c_X6_leaveDownTo (zO.ap C) _ _) lk_c_X6_leaveDownTo lk_i_X6 lk_m_X6_85 lk_n_X6_leaveDownTo lk_v_X6_leaveDownTo (n := 1) (by decide +kernel) rfl ⟨rfl, rfl⟩ (by decide) (by decide) rfl rfl rfl (Nat.le_of_ble_eq_true rfl) ⟨Nat.zero_le _, Nat.zero_le _⟩ dX6_finish_15 (fun _ s3 _ => ?_)
    refine r_aload_n (pc := 18) C dX6_finish_18 rfl ?_
    refine r_get (pc := 19) C K_X6 13 9 (by decide) rfl (by decide) lk_f_X6_60 rfl dX6_finish_19 ?_
    exact r_iret (pc := 22) C dX6_finish_22
  · refine r_aload_n (pc := 13) C dX6_finish_13 rfl ?_
    refine r_iconst (pc := 14) (v := 0) C dX6_finish_14 (by decide) ?_
    refine r_callV (pc := 15) C 13 (c_X6_leaveDownTo (zO.ap C) _ _) lk_c_X6_leaveDownTo lk_i_X6 lk_m_X6_85 lk_n_X6_leaveDownTo lk_v_X6_leaveDownTo (n := 1) (by decide +kernel) rfl ⟨rfl, rfl⟩ (by decide) (by decide) rfl rfl rfl (Nat.le_of_ble_eq_true rfl) ⟨Nat.zero_le _, Nat.zero_le _⟩ dX6_finish_15 (fun _ s1 _ => ?_)
    refine r_aload_n (pc := 18) C dX6_finish_18 rfl ?_
    refine r_get (pc := 19) C K_X6 13 9 (by decide) rfl (by decide) lk_f_X6_60 rfl dX6_finish_19 ?_
    exact r_iret (pc := 22) C dX6_finish_22
theorem c_X6_finish {E : zG} (hAp : zAp E) (σ : zS) : zM E yX6_finish cX6_finish 1 (some .int) rm_X6_finish (fun r : Int32 => some (.int r)) [.ref (zad E 13)] (f_X6_finish σ) σ :=
  zM_of (nn := 0) hAp (by decide) (Nat.le_of_ble_eq_true rfl) rfl rfl (fun Γ C => g_X6_finish C σ)
set_option maxHeartbeats 4000000 in
set_option maxRecDepth 100000 in
theorem g_X6_goOnIf {E : zG} {Γ : zX} (C : zO E Γ RX6 cX6_goOnIf 3 (some .int)) (p0 : Int32) (p1 : Int32) (σ : zS) : zJ E Γ rm_X6_goOnIf 3 (fun r : Int32 => some (.int r)) (f_X6_goOnIf p0 p1 σ) σ 0 [some (.ref (zad E 13)), some (.int p0), some (.int p1)] [] := by
  unfold f_X6_goOnIf
  refine r_iload_n (pc := 0) C dX6_goOnIf_0 rfl ?_
  refine r_if_eq (pc := 1) (tgt := 15) C dX6_goOnIf_1 (by decide) (fun _ => ?_) (fun _ => ?_)
  · refine r_iconst (pc := 15) (v := 1) C dX6_goOnIf_15 (by decide) ?_
    exact r_iret (pc := 16) C dX6_goOnIf_16
  · refine r_aload_n (pc := 4) C dX6_goOnIf_4 rfl ?_
    refine r_get (pc := 5) C K_X6 13 3 (by decide) rfl (by decide) lk_f_X6_12 rfl dX6_goOnIf_5 ?_
    refine r_callV (pc := 8) C 14 (c_X2_top (zO.ap C)  _) lk_c_X2_top lk_i_X2 lk_m_X6_92 lk_n_X2_top lk_v_X2_top (n := 0) (by decide +kernel) rfl ⟨rfl, rfl⟩ (by decide) (by decide) rfl rfl rfl (Nat.le_of_ble_eq_true rfl) ⟨Nat.zero_le _, Nat.zero_le _⟩ dX6_goOnIf_8 (fun v1 s1 _ => ?_)
    refine r_op (fun _ => ?_) (fun v2 h1 _ => ?_)
    · refine r_iload_n (pc := 11) C dX6_goOnIf_11 rfl ?_
      exact r_none
    · refine r_iload_n (pc := 11) C dX6_goOnIf_11 rfl ?_
      refine r_putN (pc := 12) C K_X1 (16 + 2 * v2) 3 (lt_F h1) (ly_F h1 _) (by decide) lk_fn_X6_96 rfl rfl (Nat.le_of_ble_eq_true rfl) (ly_Fs h1 _ 3 _ (by decide)) dX6_goOnIf_12 (fun s2 _ => ?_)
      refine r_iconst (pc := 15) (v := 1) C dX6_goOnIf_15 (by decide) ?_
      exact r_iret (pc := 16) C dX6_goOnIf_16
theorem c_X6_goOnIf {E : zG} (hAp : zAp E) (p0 : Int32) (p1 : Int32) (σ : zS) : zM E yX6_goOnIf cX6_goOnIf 3 (some .int) rm_X6_goOnIf (fun r : Int32 => some (.int r)) [.ref (zad E 13), .int p0, .int p1] (f_X6_goOnIf p0 p1 σ) σ :=
  zM_of (nn := 0) hAp (by decide) (Nat.le_of_ble_eq_true rfl) rfl rfl (fun Γ C => g_X6_goOnIf C p0 p1 σ)
set_option maxHeartbeats 4000000 in
set_option maxRecDepth 100000 in
theorem g_X7_number {E : zG} {Γ : zX} (C : zO E Γ RX7 cX7_number 1 (some .int)) (p0 : Int32) (σ : zS) : zJ E Γ rm_X7_number 1 (fun r : Int32 => some (.int r)) (f_X7_number p0 σ) σ 0 [some (.int p0)] [] := by
  unfold f_X7_number
  refine r_iload_n (pc := 0) C dX7_number_0 rfl ?_
  refine r_i2s (pc := 1) C dX7_number_1 ?_
  exact r_iret (pc := 2) C dX7_number_2
theorem c_X7_number {E : zG} (hAp : zAp E) (p0 : Int32) (σ : zS) : zM E yX7_number cX7_number 1 (some .int) rm_X7_number (fun r : Int32 => some (.int r)) [.int p0] (f_X7_number p0 σ) σ :=
  zM_of (nn := 0) hAp (by decide) (Nat.le_of_ble_eq_true rfl) rfl rfl (fun Γ C => g_X7_number C p0 σ)
set_option maxHeartbeats 4000000 in
set_option maxRecDepth 100000 in
theorem g_X6_placeOfGlobal {E : zG} {Γ : zX} (C : zO E Γ RX6 cX6_placeOfGlobal 2 (some .int)) (p0 : Int32) (σ : zS) : zJ E Γ rm_X6_placeOfGlobal 2 (fun r : Int32 => some (.int r)) (f_X6_placeOfGlobal p0 σ) σ 0 [some (.ref (zad E 13)), some (.int p0)] [] := by
  unfold f_X6_placeOfGlobal
  refine r_aload_n (pc := 0) C dX6_placeOfGlobal_0 rfl ?_
  refine r_get (pc := 1) C K_X6 13 7 (by decide) rfl (by decide) lk_f_X6_216 rfl dX6_placeOfGlobal_1 ?_
  refine r_iconst (pc := 4) (v := 2) C dX6_placeOfGlobal_4 (by decide) ?_
  refine r_iload_n (pc := 5) C dX6_placeOfGlobal_5 rfl ?_
  refine r_bipush (pc := 6) (v := 16) C dX6_placeOfGlobal_6 (by decide) ?_
  refine r_isub (pc := 8) C dX6_placeOfGlobal_8 ?_
  refine r_imul (pc := 9) C dX6_placeOfGlobal_9 ?_
  refine r_iadd (pc := 10) C dX6_placeOfGlobal_10 ?_
  exact r_iret (pc := 11) C dX6_placeOfGlobal_11
theorem c_X6_placeOfGlobal {E : zG} (hAp : zAp E) (p0 : Int32) (σ : zS) : zM E yX6_placeOfGlobal cX6_placeOfGlobal 2 (some .int) rm_X6_placeOfGlobal (fun r : Int32 => some (.int r)) [.ref (zad E 13), .int p0] (f_X6_placeOfGlobal p0 σ) σ :=
  zM_of (nn := 0) hAp (by decide) (Nat.le_of_ble_eq_true rfl) rfl rfl (fun Γ C => g_X6_placeOfGlobal C p0 σ)
set_option maxHeartbeats 4000000 in
set_option maxRecDepth 100000 in
theorem g_X6_ask {E : zG} {Γ : zX} (C : zO E Γ RX6 cX6_ask 2 (some .int)) (p0 : Int32) (σ : zS) : zJ E Γ rm_X6_ask 2 (fun r : Int32 => some (.int r)) (f_X6_ask p0 σ) σ 0 [some (.ref (zad E 13)), some (.int p0)] [] := by
  unfold f_X6_ask
  refine r_iload_n (pc := 0) C dX6_ask_0 rfl ?_
  refine r_if_ne (pc := 1) (tgt := 12) C dX6_ask_1 (by decide) (fun _ => ?_) (fun _ => ?_)
  · refine r_aload_n (pc := 4) C dX6_ask_4 rfl ?_
    refine r_get (pc := 5) C K_X6 13 3 (by decide) rfl (by decide) lk_f_X6_12 rfl dX6_ask_5 ?_
    refine r_callV (pc := 8) C 14 (c_X2_pop (zO.ap C)  _) lk_c_X2_pop lk_i_X2 lk_m_X6_171 lk_n_X2_pop lk_v_X2_pop (n := 0) (by decide +kernel) rfl ⟨rfl, rfl⟩ (by decide) (by decide) rfl rfl rfl (Nat.le_of_ble_eq_true rfl) ⟨Nat.zero_le _, Nat.zero_le _⟩ dX6_ask_8 (fun v6 s5 _ => ?_)
    exact r_iret (pc := 11) C dX6_ask_11
  · refine r_iload_n (pc := 12) C dX6_ask_12 rfl ?_
    refine r_bipush (pc := 13) (v := 16) C dX6_ask_13 (by decide) ?_
    refine r_icmp_ge (pc := 15) (tgt := 32) C dX6_ask_15 (by decide) (fun _ => ?_) (fun _ => ?_)
    · refine r_aload_n (pc := 32) C dX6_ask_32 rfl ?_
      refine r_get (pc := 33) C K_X6 13 0 (by decide) rfl (by decide) lk_f_X6_36 rfl dX6_ask_33 ?_
      refine r_aload_n (pc := 36) C dX6_ask_36 rfl ?_
      refine r_iload_n (pc := 37) C dX6_ask_37 rfl ?_
      refine r_callV (pc := 38) C 13 (c_X6_placeOfGlobal (zO.ap C) _ _) lk_c_X6_placeOfGlobal lk_i_X6 lk_m_X6_210 lk_n_X6_placeOfGlobal lk_v_X6_placeOfGlobal (n := 1) (by decide +kernel) rfl ⟨rfl, rfl⟩ (by decide) (by decide) rfl rfl rfl (Nat.le_of_ble_eq_true rfl) ⟨Nat.zero_le _, Nat.zero_le _⟩ dX6_ask_38 (fun v1 s1 _ => ?_)
      refine r_callV (pc := 41) C 1 (c_X3_wordAt (zO.ap C) _ _) lk_c_X3_wordAt lk_i_X3 lk_m_X6_150 lk_n_X3_wordAt lk_v_X3_wordAt (n := 1) (by decide +kernel) rfl ⟨rfl, rfl⟩ (by decide) (by decide) rfl rfl rfl (Nat.le_of_ble_eq_true rfl) ⟨Nat.zero_le _, Nat.zero_le _⟩ dX6_ask_41 (fun v2 s2 _ => ?_)
      exact r_iret (pc := 44) C dX6_ask_44
    · refine r_aload_n (pc := 18) C dX6_ask_18 rfl ?_
      refine r_get (pc := 19) C K_X6 13 3 (by decide) rfl (by decide) lk_f_X6_12 rfl dX6_ask_19 ?_
      refine r_callV (pc := 22) C 14 (c_X2_top (zO.ap C)  _) lk_c_X2_top lk_i_X2 lk_m_X6_92 lk_n_X2_top lk_v_X2_top (n := 0) (by decide +kernel) rfl ⟨rfl, rfl⟩ (by decide) (by decide) rfl rfl rfl (Nat.le_of_ble_eq_true rfl) ⟨Nat.zero_le _, Nat.zero_le _⟩ dX6_ask_22 (fun v3 s3 _ => ?_)
      refine r_op (fun _ => ?_) (fun v4 h1 _ => ?_)
      · refine r_iload_n (pc := 25) C dX6_ask_25 rfl ?_
        exact r_none
      · refine r_iload_n (pc := 25) C dX6_ask_25 rfl ?_
        refine r_callV (pc := 26) C (16 + 2 * v4) (c_X1_local (zO.ap C) h1 _ _) lk_c_X1_local lk_i_X1 lk_m_X6_207 lk_n_X1_local lk_v_X1_local (n := 1) (by decide +kernel) rfl ⟨rfl, rfl⟩ (by decide) (lt_F h1) (ly_F h1 _) rfl rfl (Nat.le_of_ble_eq_true rfl) ⟨Nat.zero_le _, Nat.zero_le _⟩ dX6_ask_26 (fun v5 s4 _ => ?_)
        refine r_goto (pc := 29) (tgt := 44) C dX6_ask_29 (by decide) ?_
        exact r_iret (pc := 44) C dX6_ask_44
theorem c_X6_ask {E : zG} (hAp : zAp E) (p0 : Int32) (σ : zS) : zM E yX6_ask cX6_ask 2 (some .int) rm_X6_ask (fun r : Int32 => some (.int r)) [.ref (zad E 13), .int p0] (f_X6_ask p0 σ) σ :=
  zM_of (nn := 0) hAp (by decide) (Nat.le_of_ble_eq_true rfl) rfl rfl (fun Γ C => g_X6_ask C p0 σ)
set_option maxHeartbeats 4000000 in
set_option maxRecDepth 100000 in
theorem g_X7_word {E : zG} {Γ : zX} (C : zO E Γ RX7 cX7_word 1 (some .int)) (p0 : Int32) (σ : zS) : zJ E Γ rm_X7_word 1 (fun r : Int32 => some (.int r)) (f_X7_word p0 σ) σ 0 [some (.int p0)] [] := by
  unfold f_X7_word
  refine r_iload_n (pc := 0) C dX7_word_0 rfl ?_
  refine r_ldc (pc := 1) (v := 65535) C dX7_word_1 lk_k_X7_93 ?_
  refine r_iand (pc := 3) C dX7_word_3 ?_
  exact r_iret (pc := 4) C dX7_word_4
theorem c_X7_word {E : zG} (hAp : zAp E) (p0 : Int32) (σ : zS) : zM E yX7_word cX7_word 1 (some .int) rm_X7_word (fun r : Int32 => some (.int r)) [.int p0] (f_X7_word p0 σ) σ :=
  zM_of (nn := 0) hAp (by decide) (Nat.le_of_ble_eq_true rfl) rfl rfl (fun Γ C => g_X7_word C p0 σ)
set_option maxHeartbeats 4000000 in
set_option maxRecDepth 100000 in
theorem g_X6_tell {E : zG} {Γ : zX} (C : zO E Γ RX6 cX6_tell 3 (some .int)) (p0 : Int32) (p1 : Int32) (σ : zS) : zJ E Γ rm_X6_tell 3 (fun r : Int32 => some (.int r)) (f_X6_tell p0 p1 σ) σ 0 [some (.ref (zad E 13)), some (.int p0), some (.int p1)] [] := by
  unfold f_X6_tell
  refine r_aload_n (pc := 0) C dX6_tell_0 rfl ?_
  refine r_iload_n (pc := 1) C dX6_tell_1 rfl ?_
  refine r_put (pc := 2) C K_X6 13 16 (by decide) rfl (by decide) lk_f_X6_89 rfl rfl (Nat.le_of_ble_eq_true rfl) rfl dX6_tell_2 (fun s1 _ => ?_)
  refine r_iload_n (pc := 5) C dX6_tell_5 rfl ?_
  exact r_iret (pc := 6) C dX6_tell_6
theorem c_X6_tell {E : zG} (hAp : zAp E) (p0 : Int32) (p1 : Int32) (σ : zS) : zM E yX6_tell cX6_tell 3 (some .int) rm_X6_tell (fun r : Int32 => some (.int r)) [.ref (zad E 13), .int p0, .int p1] (f_X6_tell p0 p1 σ) σ :=
  zM_of (nn := 0) hAp (by decide) (Nat.le_of_ble_eq_true rfl) rfl rfl (fun Γ C => g_X6_tell C p0 p1 σ)
set_option maxHeartbeats 4000000 in
set_option maxRecDepth 100000 in
theorem g_X6_change {E : zG} {Γ : zX} (C : zO E Γ RX6 cX6_change 4 (some .int)) (p0 : Int32) (p1 : Int32) (σ : zS) : zJ E Γ rm_X6_change 4 (fun r : Int32 => some (.int r)) (f_X6_change p0 p1 σ) σ 0 [some (.ref (zad E 13)), some (.int p0), some (.int p1), none] [] := by
  unfold f_X6_change
  refine r_aload_n (pc := 0) C dX6_change_0 rfl ?_
  refine r_iload_n (pc := 1) C dX6_change_1 rfl ?_
  refine r_callV (pc := 2) C 13 (c_X6_ask (zO.ap C) _ _) lk_c_X6_ask lk_i_X6 lk_m_X6_113 lk_n_X6_ask lk_v_X6_ask (n := 1) (by decide +kernel) rfl ⟨rfl, rfl⟩ (by decide) (by decide) rfl rfl rfl (Nat.le_of_ble_eq_true rfl) ⟨Nat.zero_le _, Nat.zero_le _⟩ dX6_change_2 (fun v1 s1 _ => ?_)
  refine r_istore_n (pc := 5) (lv' := [some (.ref (zad E 13)), some (.int p0), some (.int p1), some (.int v1)]) C dX6_change_5 (by decide) rfl ?_
  refine r_iload_n (pc := 6) C dX6_change_6 rfl ?_
  refine r_if_ge (pc := 7) (tgt := 14) C dX6_change_7 (by decide) (fun _ => ?_) (fun _ => ?_)
  · refine r_aload_n (pc := 14) C dX6_change_14 rfl ?_
    refine r_iload_n (pc := 15) C dX6_change_15 rfl ?_
    refine r_iload_n (pc := 16) C dX6_change_16 rfl ?_
    refine r_iload_n (pc := 17) C dX6_change_17 rfl ?_
    refine r_iadd (pc := 18) C dX6_change_18 ?_
    refine r_callSN (pc := 19) C (c_X7_word (zO.ap C) _ _) lk_c_X7_word lk_i_X7 lk_mn_X6_204 lk_s_X7_word (n := 1) (by decide +kernel) rfl ⟨rfl, rfl⟩ (by decide) (Nat.le_of_ble_eq_true rfl) ⟨Nat.zero_le _, Nat.zero_le _⟩ dX6_change_19 (fun v2 s2 _ => ?_)
    refine r_callV (pc := 22) C 13 (c_X6_tell (zO.ap C) _ _ _) lk_c_X6_tell lk_i_X6 lk_m_X6_140 lk_n_X6_tell lk_v_X6_tell (n := 2) (by decide +kernel) rfl ⟨rfl, rfl⟩ (by decide) (by decide) rfl rfl rfl (Nat.le_of_ble_eq_true rfl) ⟨Nat.zero_le _, Nat.zero_le _⟩ dX6_change_22 (fun v3 s3 _ => ?_)
    exact r_iret (pc := 25) C dX6_change_25
  · refine r_iload_n (pc := 10) C dX6_change_10 rfl ?_
    refine r_goto (pc := 11) (tgt := 25) C dX6_change_11 (by decide) ?_
    exact r_iret (pc := 25) C dX6_change_25
theorem c_X6_change {E : zG} (hAp : zAp E) (p0 : Int32) (p1 : Int32) (σ : zS) : zM E yX6_change cX6_change 4 (some .int) rm_X6_change (fun r : Int32 => some (.int r)) [.ref (zad E 13), .int p0, .int p1] (f_X6_change p0 p1 σ) σ :=
  zM_of (nn := 1) hAp (by decide) (Nat.le_of_ble_eq_true rfl) rfl rfl (fun Γ C => g_X6_change C p0 p1 σ)
set_option maxHeartbeats 4000000 in
set_option maxRecDepth 100000 in
theorem g_X6_end {E : zG} {Γ : zX} (C : zO E Γ RX6 cX6_end 2 (some .int)) (p0 : Int32) (σ : zS) : zJ E Γ rm_X6_end 2 (fun r : Int32 => some (.int r)) (f_X6_end p0 σ) σ 0 [some (.ref (zad E 13)), some (.int p0)] [] := by
  unfold f_X6_end
  refine r_aload_n (pc := 0) C dX6_end_0 rfl ?_
  refine r_iload_n (pc := 1) C dX6_end_1 rfl ?_
  refine r_put (pc := 2) C K_X6 13 9 (by decide) rfl (by decide) lk_f_X6_60 rfl rfl (Nat.le_of_ble_eq_true rfl) rfl dX6_end_2 (fun s1 _ => ?_)
  refine r_aload_n (pc := 5) C dX6_end_5 rfl ?_
  refine r_iconst (pc := 6) (v := -1) C dX6_end_6 (by decide) ?_
  refine r_iconst (pc := 7) (v := 1) C dX6_end_7 (by decide) ?_
  refine r_callV (pc := 8) C 13 (c_X6_tell (zO.ap C) _ _ _) lk_c_X6_tell lk_i_X6 lk_m_X6_140 lk_n_X6_tell lk_v_X6_tell (n := 2) (by decide +kernel) rfl ⟨rfl, rfl⟩ (by decide) (by decide) rfl rfl rfl (Nat.le_of_ble_eq_true rfl) ⟨Nat.zero_le _, Nat.zero_le _⟩ dX6_end_8 (fun v1 s2 _ => ?_)
  exact r_iret (pc := 11) C dX6_end_11
theorem c_X6_end {E : zG} (hAp : zAp E) (p0 : Int32) (σ : zS) : zM E yX6_end cX6_end 2 (some .int) rm_X6_end (fun r : Int32 => some (.int r)) [.ref (zad E 13), .int p0] (f_X6_end p0 σ) σ :=
  zM_of (nn := 0) hAp (by decide) (Nat.le_of_ble_eq_true rfl) rfl rfl (fun Γ C => g_X6_end C p0 σ)
set_option maxHeartbeats 4000000 in
set_option maxRecDepth 100000 in
theorem g_X6_giveBack {E : zG} {Γ : zX} (C : zO E Γ RX6 cX6_giveBack 3 (some .int)) (p0 : Int32) (σ : zS) : zJ E Γ rm_X6_giveBack 3 (fun r : Int32 => some (.int r)) (f_X6_giveBack p0 σ) σ 0 [some (.ref (zad E 13)), some (.int p0), none] [] := by
  unfold f_X6_giveBack
  refine r_aload_n (pc := 0) C dX6_giveBack_0 rfl ?_
  refine r_get (pc := 1) C K_X6 13 3 (by decide) rfl (by decide) lk_f_X6_12 rfl dX6_giveBack_1 ?_
  refine r_callV (pc := 4) C 14 (c_X2_top (zO.ap C)  _) lk_c_X2_top lk_i_X2 lk_m_X6_92 lk_n_X2_top lk_v_X2_top (n := 0) (by decide +kernel) rfl ⟨rfl, rfl⟩ (by decide) (by decide) rfl rfl rfl (Nat.le_of_ble_eq_true rfl) ⟨Nat.zero_le _, Nat.zero_le _⟩ dX6_giveBack_4 (fun v1 s1 _ => ?_)
  refine r_op (fun _ => ?_) (fun v2 h1 _ => ?_)
  · exact r_none
  · refine r_getN (pc := 7) C K_X1 (16 + 2 * v2) 4 (lt_F h1) (ly_F h1 _) (by decide) lk_fn_X6_237 rfl dX6_giveBack_7 ?_
    refine r_leti (fun v3 => ?_)
    refine r_istore_n (pc := 10) (lv' := [some (.ref (zad E 13)), some (.int p0), some (.int v3)]) C dX6_giveBack_10 (by decide) rfl ?_
    refine r_aload_n (pc := 11) C dX6_giveBack_11 rfl ?_
    refine r_aload_n (pc := 12) C dX6_giveBack_12 rfl ?_
    refine r_get (pc := 13) C K_X6 13 3 (by decide) rfl (by decide) lk_f_X6_12 rfl dX6_giveBack_13 ?_
    refine r_getN (pc := 16) C K_X2 14 3 (by decide) rfl (by decide) lk_fn_X6_175 rfl dX6_giveBack_16 ?_
    refine r_iconst (pc := 19) (v := 1) C dX6_giveBack_19 (by decide) ?_
    refine r_isub (pc := 20) C dX6_giveBack_20 ?_
    refine r_callV (pc := 21) C 13 (c_X6_leaveDownTo (zO.ap C) _ _) lk_c_X6_leaveDownTo lk_i_X6 lk_m_X6_85 lk_n_X6_leaveDownTo lk_v_X6_leaveDownTo (n := 1) (by decide +kernel) rfl ⟨rfl, rfl⟩ (by decide) (by decide) rfl rfl rfl (Nat.le_of_ble_eq_true rfl) ⟨Nat.zero_le _, Nat.zero_le _⟩ dX6_giveBack_21 (fun _ s2 _ => ?_)
    refine r_aload_n (pc := 24) C dX6_giveBack_24 rfl ?_
    refine r_get (pc := 25) C K_X6 13 3 (by decide) rfl (by decide) lk_f_X6_12 rfl dX6_giveBack_25 ?_
    refine r_getN (pc := 28) C K_X2 14 3 (by decide) rfl (by decide) lk_fn_X6_175 rfl dX6_giveBack_28 ?_
    refine r_if_ne (pc := 31) (tgt := 45) C dX6_giveBack_31 (by decide) (fun _ => ?_) (fun _ => ?_)
    · refine r_aload_n (pc := 34) C dX6_giveBack_34 rfl ?_
      refine r_iload_n (pc := 35) C dX6_giveBack_35 rfl ?_
      refine r_put (pc := 36) C K_X6 13 12 (by decide) rfl (by decide) lk_f_X6_69 rfl rfl (Nat.le_of_ble_eq_true rfl) rfl dX6_giveBack_36 (fun s4 _ => ?_)
      refine r_aload_n (pc := 39) C dX6_giveBack_39 rfl ?_
      refine r_iconst (pc := 40) (v := 0) C dX6_giveBack_40 (by decide) ?_
      refine r_callV (pc := 41) C 13 (c_X6_end (zO.ap C) _ _) lk_c_X6_end lk_i_X6 lk_m_X6_201 lk_n_X6_end lk_v_X6_end (n := 1) (by decide +kernel) rfl ⟨rfl, rfl⟩ (by decide) (by decide) rfl rfl rfl (Nat.le_of_ble_eq_true rfl) ⟨Nat.zero_le _, Nat.zero_le _⟩ dX6_giveBack_41 (fun v5 s5 _ => ?_)
      exact r_iret (pc := 44) C dX6_giveBack_44
    · refine r_aload_n (pc := 45) C dX6_giveBack_45 rfl ?_
      refine r_iload_n (pc := 46) C dX6_giveBack_46 rfl ?_
      refine r_iload_n (pc := 47) C dX6_giveBack_47 rfl ?_
      refine r_callV (pc := 48) C 13 (c_X6_tell (zO.ap C) _ _ _) lk_c_X6_tell lk_i_X6 lk_m_X6_140 lk_n_X6_tell lk_v_X6_tell (n := 2) (by decide +kernel) rfl ⟨rfl, rfl⟩ (by decide) (by decide) rfl rfl rfl (Nat.le_of_ble_eq_true rfl) ⟨Nat.zero_le _, Nat.zero_le _⟩ dX6_giveBack_48 (fun v4 s3 _ => ?_)
      exact r_iret (pc := 51) C dX6_giveBack_51
theorem c_X6_giveBack {E : zG} (hAp : zAp E) (p0 : Int32) (σ : zS) : zM E yX6_giveBack cX6_giveBack 3 (some .int) rm_X6_giveBack (fun r : Int32 => some (.int r)) [.ref (zad E 13), .int p0] (f_X6_giveBack p0 σ) σ :=
  zM_of (nn := 1) hAp (by decide) (Nat.le_of_ble_eq_true rfl) rfl rfl (fun Γ C => g_X6_giveBack C p0 σ)
set_option maxHeartbeats 4000000 in
set_option maxRecDepth 100000 in
theorem g_X6_throwTo {E : zG} {Γ : zX} (C : zO E Γ RX6 cX6_throwTo 3 (some .int)) (p0 : Int32) (p1 : Int32) (σ : zS) : zJ E Γ rm_X6_throwTo 3 (fun r : Int32 => some (.int r)) (f_X6_throwTo p0 p1 σ) σ 0 [some (.ref (zad E 13)), some (.int p0), some (.int p1)] [] := by
  unfold f_X6_throwTo
  refine r_iload_n (pc := 0) C dX6_throwTo_0 rfl ?_
  refine r_aload_n (pc := 1) C dX6_throwTo_1 rfl ?_
  refine r_get (pc := 2) C K_X6 13 3 (by decide) rfl (by decide) lk_f_X6_12 rfl dX6_throwTo_2 ?_
  refine r_getN (pc := 5) C K_X2 14 3 (by decide) rfl (by decide) lk_fn_X6_175 rfl dX6_throwTo_5 ?_
  refine r_icmp_lt (pc := 8) (tgt := 14) C dX6_throwTo_8 (by decide) (fun _ => ?_) (fun _ => ?_)
  · refine r_aload_n (pc := 14) C dX6_throwTo_14 rfl ?_
    refine r_get (pc := 15) C K_X6 13 11 (by decide) rfl (by decide) lk_f_X6_66 rfl dX6_throwTo_15 ?_
    refine r_bipush (pc := 18) (v := 12) C dX6_throwTo_18 (by decide) ?_
    refine r_icmp_lt (pc := 20) (tgt := 29) C dX6_throwTo_20 (by decide) (fun _ => ?_) (fun _ => ?_)
    · refine r_aload_n (pc := 29) C dX6_throwTo_29 rfl ?_
      refine r_dup (pc := 30) C dX6_throwTo_30 rfl ?_
      refine r_get (pc := 31) C K_X6 13 11 (by decide) rfl (by decide) lk_f_X6_66 rfl dX6_throwTo_31 ?_
      refine r_iconst (pc := 34) (v := 1) C dX6_throwTo_34 (by decide) ?_
      refine r_iadd (pc := 35) C dX6_throwTo_35 ?_
      refine r_put (pc := 36) C K_X6 13 11 (by decide) rfl (by decide) lk_f_X6_66 rfl rfl (Nat.le_of_ble_eq_true rfl) rfl dX6_throwTo_36 (fun s1 _ => ?_)
      refine r_aload_n (pc := 39) C dX6_throwTo_39 rfl ?_
      refine r_dup (pc := 40) C dX6_throwTo_40 rfl ?_
      refine r_get (pc := 41) C K_X6 13 15 (by decide) rfl (by decide) lk_f_X6_78 rfl dX6_throwTo_41 ?_
      refine r_iconst (pc := 44) (v := 1) C dX6_throwTo_44 (by decide) ?_
      refine r_iadd (pc := 45) C dX6_throwTo_45 ?_
      refine r_put (pc := 46) C K_X6 13 15 (by decide) rfl (by decide) lk_f_X6_78 rfl rfl (Nat.le_of_ble_eq_true rfl) rfl dX6_throwTo_46 (fun s2 _ => ?_)
      refine r_aload_n (pc := 49) C dX6_throwTo_49 rfl ?_
      refine r_iload_n (pc := 50) C dX6_throwTo_50 rfl ?_
      refine r_iconst (pc := 51) (v := 1) C dX6_throwTo_51 (by decide) ?_
      refine r_iadd (pc := 52) C dX6_throwTo_52 ?_
      refine r_callV (pc := 53) C 13 (c_X6_leaveDownTo (zO.ap C) _ _) lk_c_X6_leaveDownTo lk_i_X6 lk_m_X6_85 lk_n_X6_leaveDownTo lk_v_X6_leaveDownTo (n := 1) (by decide +kernel) rfl ⟨rfl, rfl⟩ (by decide) (by decide) rfl rfl rfl (Nat.le_of_ble_eq_true rfl) ⟨Nat.zero_le _, Nat.zero_le _⟩ dX6_throwTo_53 (fun _ s3 _ => ?_)
      refine r_aload_n (pc := 56) C dX6_throwTo_56 rfl ?_
      refine r_iload_n (pc := 57) C dX6_throwTo_57 rfl ?_
      refine r_callV (pc := 58) C 13 (c_X6_giveBack (zO.ap C) _ _) lk_c_X6_giveBack lk_i_X6 lk_m_X6_165 lk_n_X6_giveBack lk_v_X6_giveBack (n := 1) (by decide +kernel) rfl ⟨rfl, rfl⟩ (by decide) (by decide) rfl rfl rfl (Nat.le_of_ble_eq_true rfl) ⟨Nat.zero_le _, Nat.zero_le _⟩ dX6_throwTo_58 (fun v1 s4 _ => ?_)
      exact r_iret (pc := 61) C dX6_throwTo_61
    · refine r_aload_n (pc := 23) C dX6_throwTo_23 rfl ?_
      refine r_iconst (pc := 24) (v := 3) C dX6_throwTo_24 (by decide) ?_
      refine r_callV (pc := 25) C 13 (c_X6_end (zO.ap C) _ _) lk_c_X6_end lk_i_X6 lk_m_X6_201 lk_n_X6_end lk_v_X6_end (n := 1) (by decide +kernel) rfl ⟨rfl, rfl⟩ (by decide) (by decide) rfl rfl rfl (Nat.le_of_ble_eq_true rfl) ⟨Nat.zero_le _, Nat.zero_le _⟩ dX6_throwTo_25 (fun v2 s5 _ => ?_)
      exact r_iret (pc := 28) C dX6_throwTo_28
  · refine r_bipush (pc := 11) (v := -18) C dX6_throwTo_11 (by decide) ?_
    exact r_iret (pc := 13) C dX6_throwTo_13
theorem c_X6_throwTo {E : zG} (hAp : zAp E) (p0 : Int32) (p1 : Int32) (σ : zS) : zM E yX6_throwTo cX6_throwTo 3 (some .int) rm_X6_throwTo (fun r : Int32 => some (.int r)) [.ref (zad E 13), .int p0, .int p1] (f_X6_throwTo p0 p1 σ) σ :=
  zM_of (nn := 0) hAp (by decide) (Nat.le_of_ble_eq_true rfl) rfl rfl (fun Γ C => g_X6_throwTo C p0 p1 σ)
end
section
set_option maxHeartbeats 4000000 in
set_option maxRecDepth 100000 in
theorem g_X6_printRows_L35 {E : zG} {Γ : zX} (C : zO E Γ RX6 cX6_printRows 9 (some .int)) {K : Int32 → Int32 → Int32 → Int32 → Int32 → Int32 → zS → Option (Int32 × zS)} (kK : ∀ (x1 : Int32) (x2 : Int32) (x3 : Int32) (x4 : Int32) (x5 : Int32) (x6 : Int32) (σ : zS), zJ E Γ rm_X6_printRows 9 (fun r : Int32 => some (.int r)) (K x1 x2 x3 x4 x5 x6 σ) σ 90 [some (.ref (zad E 13)), some (.int x1), some (.int x2), some (.int x3), some (.int x4), some (.int x5), some (.int x6), none, none] []) : ∀ (n : Nat) (x1 : Int32) (x2 : Int32) (x3 : Int32) (x4 : Int32) (x5 : Int32) (x6 : Int32) (σ : zS), zJ E Γ rm_X6_printRows 9 (fun r : Int32 => some (.int r)) (f_X6_printRows_L35 n x1 x2 x3 x4 x5 x6 σ K) σ 35 [some (.ref (zad E 13)), some (.int x1), some (.int x2), some (.int x3), some (.int x4), some (.int x5), some (.int x6), none, none] [] := by
  intro n
  induction n with
  | zero => intro x1 x2 x3 x4 x5 x6 σ; rw [f_X6_printRows_L35]; exact r_none
  | succ n ih =>
    intro x1 x2 x3 x4 x5 x6 σ
    rw [f_X6_printRows_L35]
    refine r_iload (pc := 35) C dX6_printRows_35 rfl ?_
    refine r_iload_n (pc := 37) C dX6_printRows_37 rfl ?_
    refine r_icmp_ge (pc := 38) (tgt := 90) C dX6_printRows_38 (by decide) (fun _ => ?_) (fun _ => ?_)
    · refine r_mask [true, true, true, true, true, true, true, false, false] (lv' := [some (.ref (zad E 13)), some (.int x1), some (.int x2), some (.int x3), some (.int x4), some (.int x5), some (.int x6), none, none]) rfl ?_
      exact kK _ _ _ _ _ _ _
    · refine r_aload_n (pc := 41) C dX6_printRows_41 rfl ?_
      refine r_get (pc := 42) C K_X6 13 0 (by decide) rfl (by decide) lk_f_X6_36 rfl dX6_printRows_42 ?_
      refine r_iload (pc := 45) C dX6_printRows_45 rfl ?_
      refine r_callV (pc := 47) C 1 (c_X3_byteAt (zO.ap C) _ _) lk_c_X3_byteAt lk_i_X3 lk_m_X6_155 lk_n_X3_byteAt lk_v_X3_byteAt (n := 1) (by decide +kernel) rfl ⟨rfl, rfl⟩ (by decide) (by decide) rfl rfl rfl (Nat.le_of_ble_eq_true rfl) ⟨Nat.zero_le _, Nat.zero_le _⟩ dX6_printRows_47 (fun v1 s1 _ => ?_)
      refine r_istore (pc := 50) (lv' := [some (.ref (zad E 13)), some (.int x1), some (.int x2), some (.int x3), some (.int x4), some (.int x5), some (.int x6), some (.int v1), none]) C dX6_printRows_50 (by decide) rfl ?_
      refine r_iload (pc := 52) C dX6_printRows_52 rfl ?_
      refine r_if_ge (pc := 54) (tgt := 62) C dX6_printRows_54 (by decide) (fun _ => ?_) (fun _ => ?_)
      · refine r_aload_n (pc := 62) C dX6_printRows_62 rfl ?_
        refine r_get (pc := 63) C K_X6 13 4 (by decide) rfl (by decide) lk_f_X6_21 rfl dX6_printRows_63 ?_
        refine r_iload (pc := 66) C dX6_printRows_66 rfl ?_
        refine r_callV (pc := 68) C 41 (c_X4_print (zO.ap C) _ _) lk_c_X4_print lk_i_X4 lk_m_X6_195 lk_n_X4_print lk_v_X4_print (n := 1) (by decide +kernel) rfl ⟨rfl, rfl⟩ (by decide) (by decide) rfl rfl rfl (Nat.le_of_ble_eq_true rfl) ⟨Nat.zero_le _, Nat.zero_le _⟩ dX6_printRows_68 (fun v2 s2 _ => ?_)
        refine r_istore (pc := 71) (lv' := [some (.ref (zad E 13)), some (.int x1), some (.int x2), some (.int x3), some (.int x4), some (.int x5), some (.int x6), some (.int v1), some (.int v2)]) C dX6_printRows_71 (by decide) rfl ?_
        refine r_iload (pc := 73) C dX6_printRows_73 rfl ?_
        refine r_if_ge (pc := 75) (tgt := 81) C dX6_printRows_75 (by decide) (fun _ => ?_) (fun _ => ?_)
        · refine r_iinc (pc := 81) (lv' := [some (.ref (zad E 13)), some (.int x1), some (.int x2), some (.int x3), some (.int (x4 + (1 : Int32))), some (.int x5), some (.int x6), some (.int v1), some (.int v2)]) C dX6_printRows_81 (by decide) rfl rfl rfl ?_
          refine r_iinc (pc := 84) (lv' := [some (.ref (zad E 13)), some (.int x1), some (.int x2), some (.int x3), some (.int (x4 + (1 : Int32))), some (.int x5), some (.int (x6 + (1 : Int32))), some (.int v1), some (.int v2)]) C dX6_printRows_84 (by decide) rfl rfl rfl ?_
          refine r_goto (pc := 87) (tgt := 35) C dX6_printRows_87 (by decide) ?_
          refine r_mask [true, true, true, true, true, true, true, false, false] (lv' := [some (.ref (zad E 13)), some (.int x1), some (.int x2), some (.int x3), some (.int (x4 + (1 : Int32))), some (.int x5), some (.int (x6 + (1 : Int32))), none, none]) rfl ?_
          exact ih _ _ _ _ _ _ _
        · refine r_iload (pc := 78) C dX6_printRows_78 rfl ?_
          exact r_iret (pc := 80) C dX6_printRows_80
      · refine r_iload (pc := 57) C dX6_printRows_57 rfl ?_
        refine r_goto (pc := 59) (tgt := 71) C dX6_printRows_59 (by decide) ?_
        refine r_istore (pc := 71) (lv' := [some (.ref (zad E 13)), some (.int x1), some (.int x2), some (.int x3), some (.int x4), some (.int x5), some (.int x6), some (.int v1), some (.int v1)]) C dX6_printRows_71 (by decide) rfl ?_
        refine r_iload (pc := 73) C dX6_printRows_73 rfl ?_
        refine r_if_ge (pc := 75) (tgt := 81) C dX6_printRows_75 (by decide) (fun _ => ?_) (fun _ => ?_)
        · refine r_iinc (pc := 81) (lv' := [some (.ref (zad E 13)), some (.int x1), some (.int x2), some (.int x3), some (.int (x4 + (1 : Int32))), some (.int x5), some (.int x6), some (.int v1), some (.int v1)]) C dX6_printRows_81 (by decide) rfl rfl rfl ?_
          refine r_iinc (pc := 84) (lv' := [some (.ref (zad E 13)), some (.int x1), some (.int x2), some (.int x3), some (.int (x4 + (1 : Int32))), some (.int x5), some (.int (x6 + (1 : Int32))), some (.int v1), some (.int v1)]) C dX6_printRows_84 (by decide) rfl rfl rfl ?_
          refine r_goto (pc := 87) (tgt := 35) C dX6_printRows_87 (by decide) ?_
          refine r_mask [true, true, true, true, true, true, true, false, false] (lv' := [some (.ref (zad E 13)), some (.int x1), some (.int x2), some (.int x3), some (.int (x4 + (1 : Int32))), some (.int x5), some (.int (x6 + (1 : Int32))), none, none]) rfl ?_
          exact ih _ _ _ _ _ _ _
        · refine r_iload (pc := 78) C dX6_printRows_78 rfl ?_
          exact r_iret (pc := 80) C dX6_printRows_80
set_option maxHeartbeats 4000000 in
set_option maxRecDepth 100000 in
theorem g_X6_printRows_L6 {E : zG} {Γ : zX} (C : zO E Γ RX6 cX6_printRows 9 (some .int)) : ∀ (n : Nat) (x1 : Int32) (x2 : Int32) (x3 : Int32) (x4 : Int32) (x5 : Int32) (σ : zS), zJ E Γ rm_X6_printRows 9 (fun r : Int32 => some (.int r)) (f_X6_printRows_L6 n x1 x2 x3 x4 x5 σ) σ 6 [some (.ref (zad E 13)), some (.int x1), some (.int x2), some (.int x3), some (.int x4), some (.int x5), none, none, none] [] := by
  intro n
  induction n with
  | zero => intro x1 x2 x3 x4 x5 σ; rw [f_X6_printRows_L6]; exact r_none
  | succ n ih =>
    intro x1 x2 x3 x4 x5 σ
    rw [f_X6_printRows_L6]
    refine r_iload (pc := 6) C dX6_printRows_6 rfl ?_
    refine r_iload_n (pc := 8) C dX6_printRows_8 rfl ?_
    refine r_icmp_ge (pc := 9) (tgt := 96) C dX6_printRows_9 (by decide) (fun _ => ?_) (fun _ => ?_)
    · refine r_iconst (pc := 96) (v := 1) C dX6_printRows_96 (by decide) ?_
      exact r_iret (pc := 97) C dX6_printRows_97
    · refine r_iload (pc := 12) C dX6_printRows_12 rfl ?_
      refine r_if_le (pc := 14) (tgt := 32) C dX6_printRows_14 (by decide) (fun _ => ?_) (fun _ => ?_)
      · refine r_iconst (pc := 32) (v := 0) C dX6_printRows_32 (by decide) ?_
        refine r_istore (pc := 33) (lv' := [some (.ref (zad E 13)), some (.int x1), some (.int x2), some (.int x3), some (.int x4), some (.int x5), some (.int (0 : Int32)), none, none]) C dX6_printRows_33 (by decide) rfl ?_
        refine g_X6_printRows_L35 C (fun v3 v4 v5 v6 v7 v8 s3 => ?_) zF _ _ _ _ _ _ _
        refine r_iinc (pc := 90) (lv' := [some (.ref (zad E 13)), some (.int v3), some (.int v4), some (.int v5), some (.int v6), some (.int (v7 + (1 : Int32))), some (.int v8), none, none]) C dX6_printRows_90 (by decide) rfl rfl rfl ?_
        refine r_goto (pc := 93) (tgt := 6) C dX6_printRows_93 (by decide) ?_
        refine r_mask [true, true, true, true, true, true, false, false, false] (lv' := [some (.ref (zad E 13)), some (.int v3), some (.int v4), some (.int v5), some (.int v6), some (.int (v7 + (1 : Int32))), none, none, none]) rfl ?_
        exact ih _ _ _ _ _ _
      · refine r_aload_n (pc := 17) C dX6_printRows_17 rfl ?_
        refine r_get (pc := 18) C K_X6 13 4 (by decide) rfl (by decide) lk_f_X6_21 rfl dX6_printRows_18 ?_
        refine r_bipush (pc := 21) (v := 10) C dX6_printRows_21 (by decide) ?_
        refine r_callV (pc := 23) C 41 (c_X4_print (zO.ap C) _ _) lk_c_X4_print lk_i_X4 lk_m_X6_195 lk_n_X4_print lk_v_X4_print (n := 1) (by decide +kernel) rfl ⟨rfl, rfl⟩ (by decide) (by decide) rfl rfl rfl (Nat.le_of_ble_eq_true rfl) ⟨Nat.zero_le _, Nat.zero_le _⟩ dX6_printRows_23 (fun v9 s4 _ => ?_)
        refine r_if_ge (pc := 26) (tgt := 32) C dX6_printRows_26 (by decide) (fun _ => ?_) (fun _ => ?_)
        · refine r_iconst (pc := 32) (v := 0) C dX6_printRows_32 (by decide) ?_
          refine r_istore (pc := 33) (lv' := [some (.ref (zad E 13)), some (.int x1), some (.int x2), some (.int x3), some (.int x4), some (.int x5), some (.int (0 : Int32)), none, none]) C dX6_printRows_33 (by decide) rfl ?_
          refine g_X6_printRows_L35 C (fun v10 v11 v12 v13 v14 v15 s5 => ?_) zF _ _ _ _ _ _ _
          refine r_iinc (pc := 90) (lv' := [some (.ref (zad E 13)), some (.int v10), some (.int v11), some (.int v12), some (.int v13), some (.int (v14 + (1 : Int32))), some (.int v15), none, none]) C dX6_printRows_90 (by decide) rfl rfl rfl ?_
          refine r_goto (pc := 93) (tgt := 6) C dX6_printRows_93 (by decide) ?_
          refine r_mask [true, true, true, true, true, true, false, false, false] (lv' := [some (.ref (zad E 13)), some (.int v10), some (.int v11), some (.int v12), some (.int v13), some (.int (v14 + (1 : Int32))), none, none, none]) rfl ?_
          exact ih _ _ _ _ _ _
        · refine r_bipush (pc := 29) (v := -21) C dX6_printRows_29 (by decide) ?_
          exact r_iret (pc := 31) C dX6_printRows_31
set_option maxHeartbeats 4000000 in
set_option maxRecDepth 100000 in
theorem g_X6_printRows {E : zG} {Γ : zX} (C : zO E Γ RX6 cX6_printRows 9 (some .int)) (p0 : Int32) (p1 : Int32) (p2 : Int32) (σ : zS) : zJ E Γ rm_X6_printRows 9 (fun r : Int32 => some (.int r)) (f_X6_printRows p0 p1 p2 σ) σ 0 [some (.ref (zad E 13)), some (.int p0), some (.int p1), some (.int p2), none, none, none, none, none] [] := by
  unfold f_X6_printRows
  refine r_iload_n (pc := 0) C dX6_printRows_0 rfl ?_
  refine r_istore (pc := 1) (lv' := [some (.ref (zad E 13)), some (.int p0), some (.int p1), some (.int p2), some (.int p0), none, none, none, none]) C dX6_printRows_1 (by decide) rfl ?_
  refine r_iconst (pc := 3) (v := 0) C dX6_printRows_3 (by decide) ?_
  refine r_istore (pc := 4) (lv' := [some (.ref (zad E 13)), some (.int p0), some (.int p1), some (.int p2), some (.int p0), some (.int (0 : Int32)), none, none, none]) C dX6_printRows_4 (by decide) rfl ?_
  exact g_X6_printRows_L6 C zF _ _ _ _ _ _
theorem c_X6_printRows {E : zG} (hAp : zAp E) (p0 : Int32) (p1 : Int32) (p2 : Int32) (σ : zS) : zM E yX6_printRows cX6_printRows 9 (some .int) rm_X6_printRows (fun r : Int32 => some (.int r)) [.ref (zad E 13), .int p0, .int p1, .int p2] (f_X6_printRows p0 p1 p2 σ) σ :=
  zM_of (nn := 5) hAp (by decide) (Nat.le_of_ble_eq_true rfl) rfl rfl (fun Γ C => g_X6_printRows C p0 p1 p2 σ)
set_option maxHeartbeats 4000000 in
set_option maxRecDepth 100000 in
theorem g_X7_shiftNumber {E : zG} {Γ : zX} (C : zO E Γ RX7 cX7_shiftNumber 2 (some .int)) (p0 : Int32) (p1 : Int32) (σ : zS) : zJ E Γ rm_X7_shiftNumber 2 (fun r : Int32 => some (.int r)) (f_X7_shiftNumber p0 p1 σ) σ 0 [some (.int p0), some (.int p1)] [] := by
  unfold f_X7_shiftNumber
  refine r_iload_n (pc := 0) C dX7_shiftNumber_0 rfl ?_
  refine r_if_le (pc := 1) (tgt := 15) C dX7_shiftNumber_1 (by decide) (fun _ => ?_) (fun _ => ?_)
  · refine r_iload_n (pc := 15) C dX7_shiftNumber_15 rfl ?_
    refine r_iload_n (pc := 16) C dX7_shiftNumber_16 rfl ?_
    refine r_ineg (pc := 17) C dX7_shiftNumber_17 ?_
    refine r_bipush (pc := 18) (v := 15) C dX7_shiftNumber_18 (by decide) ?_
    refine r_mmin (pc := 20) C lk_m_X7_196 lk_ms_min lk_mi lk_mc_min (by decide) (Nat.le_of_ble_eq_true rfl) ⟨Nat.zero_le _, Nat.zero_le _⟩ dX7_shiftNumber_20 ?_
    refine r_ishr (pc := 23) C dX7_shiftNumber_23 ?_
    refine r_callS (pc := 24) C (c_X7_word (zO.ap C) _ _) lk_c_X7_word lk_i_X7 lk_m_X7_76 lk_s_X7_word (n := 1) (by decide +kernel) rfl ⟨rfl, rfl⟩ (by decide) (Nat.le_of_ble_eq_true rfl) ⟨Nat.zero_le _, Nat.zero_le _⟩ dX7_shiftNumber_24 (fun v1 s1 _ => ?_)
    exact r_iret (pc := 27) C dX7_shiftNumber_27
  · refine r_iload_n (pc := 4) C dX7_shiftNumber_4 rfl ?_
    refine r_iload_n (pc := 5) C dX7_shiftNumber_5 rfl ?_
    refine r_bipush (pc := 6) (v := 15) C dX7_shiftNumber_6 (by decide) ?_
    refine r_mmin (pc := 8) C lk_m_X7_196 lk_ms_min lk_mi lk_mc_min (by decide) (Nat.le_of_ble_eq_true rfl) ⟨Nat.zero_le _, Nat.zero_le _⟩ dX7_shiftNumber_8 ?_
    refine r_ishl (pc := 11) C dX7_shiftNumber_11 ?_
    refine r_goto (pc := 12) (tgt := 24) C dX7_shiftNumber_12 (by decide) ?_
    refine r_callS (pc := 24) C (c_X7_word (zO.ap C) _ _) lk_c_X7_word lk_i_X7 lk_m_X7_76 lk_s_X7_word (n := 1) (by decide +kernel) rfl ⟨rfl, rfl⟩ (by decide) (Nat.le_of_ble_eq_true rfl) ⟨Nat.zero_le _, Nat.zero_le _⟩ dX7_shiftNumber_24 (fun v2 s2 _ => ?_)
    exact r_iret (pc := 27) C dX7_shiftNumber_27
theorem c_X7_shiftNumber {E : zG} (hAp : zAp E) (p0 : Int32) (p1 : Int32) (σ : zS) : zM E yX7_shiftNumber cX7_shiftNumber 2 (some .int) rm_X7_shiftNumber (fun r : Int32 => some (.int r)) [.int p0, .int p1] (f_X7_shiftNumber p0 p1 σ) σ :=
  zM_of (nn := 0) hAp (by decide) (Nat.le_of_ble_eq_true rfl) rfl rfl (fun Γ C => g_X7_shiftNumber C p0 p1 σ)
set_option maxHeartbeats 4000000 in
set_option maxRecDepth 100000 in
theorem g_X7_shiftBits {E : zG} {Γ : zX} (C : zO E Γ RX7 cX7_shiftBits 2 (some .int)) (p0 : Int32) (p1 : Int32) (σ : zS) : zJ E Γ rm_X7_shiftBits 2 (fun r : Int32 => some (.int r)) (f_X7_shiftBits p0 p1 σ) σ 0 [some (.int p0), some (.int p1)] [] := by
  unfold f_X7_shiftBits
  refine r_iload_n (pc := 0) C dX7_shiftBits_0 rfl ?_
  refine r_bipush (pc := 1) (v := 15) C dX7_shiftBits_1 (by decide) ?_
  refine r_icmp_gt (pc := 3) (tgt := 12) C dX7_shiftBits_3 (by decide) (fun _ => ?_) (fun _ => ?_)
  · refine r_iconst (pc := 12) (v := 0) C dX7_shiftBits_12 (by decide) ?_
    exact r_iret (pc := 13) C dX7_shiftBits_13
  · refine r_iload_n (pc := 6) C dX7_shiftBits_6 rfl ?_
    refine r_bipush (pc := 7) (v := -15) C dX7_shiftBits_7 (by decide) ?_
    refine r_icmp_ge (pc := 9) (tgt := 14) C dX7_shiftBits_9 (by decide) (fun _ => ?_) (fun _ => ?_)
    · refine r_iload_n (pc := 14) C dX7_shiftBits_14 rfl ?_
      refine r_if_le (pc := 15) (tgt := 27) C dX7_shiftBits_15 (by decide) (fun _ => ?_) (fun _ => ?_)
      · refine r_iload_n (pc := 27) C dX7_shiftBits_27 rfl ?_
        refine r_iload_n (pc := 28) C dX7_shiftBits_28 rfl ?_
        refine r_ineg (pc := 29) C dX7_shiftBits_29 ?_
        refine r_iushr (pc := 30) C dX7_shiftBits_30 ?_
        exact r_iret (pc := 31) C dX7_shiftBits_31
      · refine r_iload_n (pc := 18) C dX7_shiftBits_18 rfl ?_
        refine r_iload_n (pc := 19) C dX7_shiftBits_19 rfl ?_
        refine r_ishl (pc := 20) C dX7_shiftBits_20 ?_
        refine r_callS (pc := 21) C (c_X7_word (zO.ap C) _ _) lk_c_X7_word lk_i_X7 lk_m_X7_76 lk_s_X7_word (n := 1) (by decide +kernel) rfl ⟨rfl, rfl⟩ (by decide) (Nat.le_of_ble_eq_true rfl) ⟨Nat.zero_le _, Nat.zero_le _⟩ dX7_shiftBits_21 (fun v1 s1 _ => ?_)
        refine r_goto (pc := 24) (tgt := 31) C dX7_shiftBits_24 (by decide) ?_
        exact r_iret (pc := 31) C dX7_shiftBits_31
    · refine r_iconst (pc := 12) (v := 0) C dX7_shiftBits_12 (by decide) ?_
      exact r_iret (pc := 13) C dX7_shiftBits_13
theorem c_X7_shiftBits {E : zG} (hAp : zAp E) (p0 : Int32) (p1 : Int32) (σ : zS) : zM E yX7_shiftBits cX7_shiftBits 2 (some .int) rm_X7_shiftBits (fun r : Int32 => some (.int r)) [.int p0, .int p1] (f_X7_shiftBits p0 p1 σ) σ :=
  zM_of (nn := 0) hAp (by decide) (Nat.le_of_ble_eq_true rfl) rfl rfl (fun Γ C => g_X7_shiftBits C p0 p1 σ)
set_option maxHeartbeats 4000000 in
set_option maxRecDepth 100000 in
theorem g_X7_arithmetic {E : zG} {Γ : zX} (C : zO E Γ RX7 cX7_arithmetic 3 (some .int)) (p0 : Int32) (p1 : Int32) (p2 : Int32) (σ : zS) : zJ E Γ rm_X7_arithmetic 3 (fun r : Int32 => some (.int r)) (f_X7_arithmetic p0 p1 p2 σ) σ 0 [some (.int p0), some (.int p1), some (.int p2)] [] := by
  unfold f_X7_arithmetic
  refine r_iload_n (pc := 0) C dX7_arithmetic_0 rfl ?_
  refine r_split (fun h1 => ?_) (fun h1 => ?_)
  · refine r_tabIn (pc := 1) (v := 0) (tgt := 56) C dX7_arithmetic_1 h1 (by decide) (by decide) rfl (by decide) ?_
    refine r_iload_n (pc := 56) C dX7_arithmetic_56 rfl ?_
    refine r_iload_n (pc := 57) C dX7_arithmetic_57 rfl ?_
    refine r_iadd (pc := 58) C dX7_arithmetic_58 ?_
    refine r_callS (pc := 59) C (c_X7_word (zO.ap C) _ _) lk_c_X7_word lk_i_X7 lk_m_X7_76 lk_s_X7_word (n := 1) (by decide +kernel) rfl ⟨rfl, rfl⟩ (by decide) (Nat.le_of_ble_eq_true rfl) ⟨Nat.zero_le _, Nat.zero_le _⟩ dX7_arithmetic_59 (fun v1 s1 _ => ?_)
    exact r_iret (pc := 62) C dX7_arithmetic_62
  · refine r_split (fun h2 => ?_) (fun h2 => ?_)
    · refine r_tabIn (pc := 1) (v := 1) (tgt := 63) C dX7_arithmetic_1 h2 (by decide) (by decide) rfl (by decide) ?_
      refine r_iload_n (pc := 63) C dX7_arithmetic_63 rfl ?_
      refine r_iload_n (pc := 64) C dX7_arithmetic_64 rfl ?_
      refine r_isub (pc := 65) C dX7_arithmetic_65 ?_
      refine r_callS (pc := 66) C (c_X7_word (zO.ap C) _ _) lk_c_X7_word lk_i_X7 lk_m_X7_76 lk_s_X7_word (n := 1) (by decide +kernel) rfl ⟨rfl, rfl⟩ (by decide) (Nat.le_of_ble_eq_true rfl) ⟨Nat.zero_le _, Nat.zero_le _⟩ dX7_arithmetic_66 (fun v2 s2 _ => ?_)
      exact r_iret (pc := 69) C dX7_arithmetic_69
    · refine r_split (fun h3 => ?_) (fun h3 => ?_)
      · refine r_tabIn (pc := 1) (v := 2) (tgt := 70) C dX7_arithmetic_1 h3 (by decide) (by decide) rfl (by decide) ?_
        refine r_iload_n (pc := 70) C dX7_arithmetic_70 rfl ?_
        refine r_iload_n (pc := 71) C dX7_arithmetic_71 rfl ?_
        refine r_imul (pc := 72) C dX7_arithmetic_72 ?_
        refine r_callS (pc := 73) C (c_X7_word (zO.ap C) _ _) lk_c_X7_word lk_i_X7 lk_m_X7_76 lk_s_X7_word (n := 1) (by decide +kernel) rfl ⟨rfl, rfl⟩ (by decide) (Nat.le_of_ble_eq_true rfl) ⟨Nat.zero_le _, Nat.zero_le _⟩ dX7_arithmetic_73 (fun v3 s3 _ => ?_)
        exact r_iret (pc := 76) C dX7_arithmetic_76
      · refine r_split (fun h4 => ?_) (fun h4 => ?_)
        · refine r_tabIn (pc := 1) (v := 3) (tgt := 77) C dX7_arithmetic_1 h4 (by decide) (by decide) rfl (by decide) ?_
          refine r_iload_n (pc := 77) C dX7_arithmetic_77 rfl ?_
          refine r_if_ne (pc := 78) (tgt := 86) C dX7_arithmetic_78 (by decide) (fun _ => ?_) (fun _ => ?_)
          · refine r_bipush (pc := 81) (v := -11) C dX7_arithmetic_81 (by decide) ?_
            refine r_goto (pc := 83) (tgt := 92) C dX7_arithmetic_83 (by decide) ?_
            exact r_iret (pc := 92) C dX7_arithmetic_92
          · refine r_iload_n (pc := 86) C dX7_arithmetic_86 rfl ?_
            refine r_iload_n (pc := 87) C dX7_arithmetic_87 rfl ?_
            refine r_idiv (pc := 88) C dX7_arithmetic_88 ?_
            refine r_callS (pc := 89) C (c_X7_word (zO.ap C) _ _) lk_c_X7_word lk_i_X7 lk_m_X7_76 lk_s_X7_word (n := 1) (by decide +kernel) rfl ⟨rfl, rfl⟩ (by decide) (Nat.le_of_ble_eq_true rfl) ⟨Nat.zero_le _, Nat.zero_le _⟩ dX7_arithmetic_89 (fun v4 s4 _ => ?_)
            exact r_iret (pc := 92) C dX7_arithmetic_92
        · refine r_split (fun h5 => ?_) (fun h5 => ?_)
          · refine r_tabIn (pc := 1) (v := 4) (tgt := 93) C dX7_arithmetic_1 h5 (by decide) (by decide) rfl (by decide) ?_
            refine r_iload_n (pc := 93) C dX7_arithmetic_93 rfl ?_
            refine r_if_ne (pc := 94) (tgt := 102) C dX7_arithmetic_94 (by decide) (fun _ => ?_) (fun _ => ?_)
            · refine r_bipush (pc := 97) (v := -11) C dX7_arithmetic_97 (by decide) ?_
              refine r_goto (pc := 99) (tgt := 108) C dX7_arithmetic_99 (by decide) ?_
              exact r_iret (pc := 108) C dX7_arithmetic_108
            · refine r_iload_n (pc := 102) C dX7_arithmetic_102 rfl ?_
              refine r_iload_n (pc := 103) C dX7_arithmetic_103 rfl ?_
              refine r_irem (pc := 104) C dX7_arithmetic_104 ?_
              refine r_callS (pc := 105) C (c_X7_word (zO.ap C) _ _) lk_c_X7_word lk_i_X7 lk_m_X7_76 lk_s_X7_word (n := 1) (by decide +kernel) rfl ⟨rfl, rfl⟩ (by decide) (Nat.le_of_ble_eq_true rfl) ⟨Nat.zero_le _, Nat.zero_le _⟩ dX7_arithmetic_105 (fun v5 s5 _ => ?_)
              exact r_iret (pc := 108) C dX7_arithmetic_108
          · refine r_split (fun h6 => ?_) (fun h6 => ?_)
            · refine r_tabIn (pc := 1) (v := 5) (tgt := 109) C dX7_arithmetic_1 h6 (by decide) (by decide) rfl (by decide) ?_
              refine r_iload_n (pc := 109) C dX7_arithmetic_109 rfl ?_
              refine r_iload_n (pc := 110) C dX7_arithmetic_110 rfl ?_
              refine r_iand (pc := 111) C dX7_arithmetic_111 ?_
              refine r_callS (pc := 112) C (c_X7_word (zO.ap C) _ _) lk_c_X7_word lk_i_X7 lk_m_X7_76 lk_s_X7_word (n := 1) (by decide +kernel) rfl ⟨rfl, rfl⟩ (by decide) (Nat.le_of_ble_eq_true rfl) ⟨Nat.zero_le _, Nat.zero_le _⟩ dX7_arithmetic_112 (fun v6 s6 _ => ?_)
              exact r_iret (pc := 115) C dX7_arithmetic_115
            · refine r_split (fun h7 => ?_) (fun h7 => ?_)
              · refine r_tabIn (pc := 1) (v := 6) (tgt := 116) C dX7_arithmetic_1 h7 (by decide) (by decide) rfl (by decide) ?_
                refine r_iload_n (pc := 116) C dX7_arithmetic_116 rfl ?_
                refine r_iload_n (pc := 117) C dX7_arithmetic_117 rfl ?_
                refine r_ior (pc := 118) C dX7_arithmetic_118 ?_
                refine r_callS (pc := 119) C (c_X7_word (zO.ap C) _ _) lk_c_X7_word lk_i_X7 lk_m_X7_76 lk_s_X7_word (n := 1) (by decide +kernel) rfl ⟨rfl, rfl⟩ (by decide) (Nat.le_of_ble_eq_true rfl) ⟨Nat.zero_le _, Nat.zero_le _⟩ dX7_arithmetic_119 (fun v7 s7 _ => ?_)
                exact r_iret (pc := 122) C dX7_arithmetic_122
              · refine r_split (fun h8 => ?_) (fun h8 => ?_)
                · refine r_tabIn (pc := 1) (v := 7) (tgt := 123) C dX7_arithmetic_1 h8 (by decide) (by decide) rfl (by decide) ?_
                  refine r_iload_n (pc := 123) C dX7_arithmetic_123 rfl ?_
                  refine r_iconst (pc := 124) (v := -1) C dX7_arithmetic_124 (by decide) ?_
                  refine r_ixor (pc := 125) C dX7_arithmetic_125 ?_
                  refine r_callS (pc := 126) C (c_X7_word (zO.ap C) _ _) lk_c_X7_word lk_i_X7 lk_m_X7_76 lk_s_X7_word (n := 1) (by decide +kernel) rfl ⟨rfl, rfl⟩ (by decide) (Nat.le_of_ble_eq_true rfl) ⟨Nat.zero_le _, Nat.zero_le _⟩ dX7_arithmetic_126 (fun v8 s8 _ => ?_)
                  exact r_iret (pc := 129) C dX7_arithmetic_129
                · refine r_split (fun h9 => ?_) (fun h9 => ?_)
                  · refine r_tabIn (pc := 1) (v := 8) (tgt := 130) C dX7_arithmetic_1 h9 (by decide) (by decide) rfl (by decide) ?_
                    refine r_iload_n (pc := 130) C dX7_arithmetic_130 rfl ?_
                    refine r_iload_n (pc := 131) C dX7_arithmetic_131 rfl ?_
                    refine r_callS (pc := 132) C (c_X7_shiftNumber (zO.ap C) _ _ _) lk_c_X7_shiftNumber lk_i_X7 lk_m_X7_189 lk_s_X7_shiftNumber (n := 2) (by decide +kernel) rfl ⟨rfl, rfl⟩ (by decide) (Nat.le_of_ble_eq_true rfl) ⟨Nat.zero_le _, Nat.zero_le _⟩ dX7_arithmetic_132 (fun v9 s9 _ => ?_)
                    exact r_iret (pc := 135) C dX7_arithmetic_135
                  · refine r_split (fun h10 => ?_) (fun h10 => ?_)
                    · refine r_tabIn (pc := 1) (v := 9) (tgt := 136) C dX7_arithmetic_1 h10 (by decide) (by decide) rfl (by decide) ?_
                      refine r_iload_n (pc := 136) C dX7_arithmetic_136 rfl ?_
                      refine r_callS (pc := 137) C (c_X7_word (zO.ap C) _ _) lk_c_X7_word lk_i_X7 lk_m_X7_76 lk_s_X7_word (n := 1) (by decide +kernel) rfl ⟨rfl, rfl⟩ (by decide) (Nat.le_of_ble_eq_true rfl) ⟨Nat.zero_le _, Nat.zero_le _⟩ dX7_arithmetic_137 (fun v10 s10 _ => ?_)
                      refine r_iload_n (pc := 140) C dX7_arithmetic_140 rfl ?_
                      refine r_callS (pc := 141) C (c_X7_shiftBits (zO.ap C) _ _ _) lk_c_X7_shiftBits lk_i_X7 lk_m_X7_193 lk_s_X7_shiftBits (n := 2) (by decide +kernel) rfl ⟨rfl, rfl⟩ (by decide) (Nat.le_of_ble_eq_true rfl) ⟨Nat.zero_le _, Nat.zero_le _⟩ dX7_arithmetic_141 (fun v11 s11 _ => ?_)
                      exact r_iret (pc := 144) C dX7_arithmetic_144
                    · refine r_tabOut (pc := 1) (tgt := 145) C dX7_arithmetic_1 (by have a0 := lv_neT (a := 0) h1 rfl; have a1 := lv_neT (a := 1) h2 rfl; have a2 := lv_neT (a := 2) h3 rfl; have a3 := lv_neT (a := 3) h4 rfl; have a4 := lv_neT (a := 4) h5 rfl; have a5 := lv_neT (a := 5) h6 rfl; have a6 := lv_neT (a := 6) h7 rfl; have a7 := lv_neT (a := 7) h8 rfl; have a8 := lv_neT (a := 8) h9 rfl; have a9 := lv_neT (a := 9) h10 rfl; omega) (by decide) ?_
                      refine r_bipush (pc := 145) (v := -20) C dX7_arithmetic_145 (by decide) ?_
                      exact r_iret (pc := 147) C dX7_arithmetic_147
theorem c_X7_arithmetic {E : zG} (hAp : zAp E) (p0 : Int32) (p1 : Int32) (p2 : Int32) (σ : zS) : zM E yX7_arithmetic cX7_arithmetic 3 (some .int) rm_X7_arithmetic (fun r : Int32 => some (.int r)) [.int p0, .int p1, .int p2] (f_X7_arithmetic p0 p1 p2 σ) σ :=
  zM_of (nn := 0) hAp (by decide) (Nat.le_of_ble_eq_true rfl) rfl rfl (fun Γ C => g_X7_arithmetic C p0 p1 p2 σ)
set_option maxHeartbeats 4000000 in
set_option maxRecDepth 100000 in
theorem g_X6_carryOut {E : zG} {Γ : zX} (C : zO E Γ RX6 cX6_carryOut 6 (some .int)) (p0 : Int32) (p1 : Int32) (p2 : Int32) (p3 : Int32) (p4 : Int32) (σ : zS) : zJ E Γ rm_X6_carryOut 6 (fun r : Int32 => some (.int r)) (f_X6_carryOut p0 p1 p2 p3 p4 σ) σ 0 [some (.ref (zad E 13)), some (.int p0), some (.int p1), some (.int p2), some (.int p3), some (.int p4)] [] := by
  unfold f_X6_carryOut
  refine r_iload_n (pc := 0) C dX6_carryOut_0 rfl ?_
  refine r_bipush (pc := 1) (v := 9) C dX6_carryOut_1 (by decide) ?_
  refine r_icmp_gt (pc := 3) (tgt := 25) C dX6_carryOut_3 (by decide) (fun _ => ?_) (fun _ => ?_)
  · refine r_iload_n (pc := 25) C dX6_carryOut_25 rfl ?_
    refine r_split (fun h1 => ?_) (fun h1 => ?_)
    · refine r_tabIn (pc := 26) (v := 10) (tgt := 132) C dX6_carryOut_26 h1 (by decide) (by decide) rfl (by decide) ?_
      refine r_aload_n (pc := 132) C dX6_carryOut_132 rfl ?_
      refine r_iload_n (pc := 133) C dX6_carryOut_133 rfl ?_
      refine r_iload (pc := 134) C dX6_carryOut_134 rfl ?_
      refine r_icmp_ne (pc := 136) (tgt := 143) C dX6_carryOut_136 (by decide) (fun _ => ?_) (fun _ => ?_)
      · refine r_iconst (pc := 139) (v := 1) C dX6_carryOut_139 (by decide) ?_
        refine r_goto (pc := 140) (tgt := 144) C dX6_carryOut_140 (by decide) ?_
        refine r_iload (pc := 144) C dX6_carryOut_144 rfl ?_
        refine r_callV (pc := 146) C 13 (c_X6_goOnIf (zO.ap C) _ _ _) lk_c_X6_goOnIf lk_i_X6 lk_m_X6_143 lk_n_X6_goOnIf lk_v_X6_goOnIf (n := 2) (by decide +kernel) rfl ⟨rfl, rfl⟩ (by decide) (by decide) rfl rfl rfl (Nat.le_of_ble_eq_true rfl) ⟨Nat.zero_le _, Nat.zero_le _⟩ dX6_carryOut_146 (fun v2 s2 _ => ?_)
        exact r_iret (pc := 149) C dX6_carryOut_149
      · refine r_iconst (pc := 143) (v := 0) C dX6_carryOut_143 (by decide) ?_
        refine r_iload (pc := 144) C dX6_carryOut_144 rfl ?_
        refine r_callV (pc := 146) C 13 (c_X6_goOnIf (zO.ap C) _ _ _) lk_c_X6_goOnIf lk_i_X6 lk_m_X6_143 lk_n_X6_goOnIf lk_v_X6_goOnIf (n := 2) (by decide +kernel) rfl ⟨rfl, rfl⟩ (by decide) (by decide) rfl rfl rfl (Nat.le_of_ble_eq_true rfl) ⟨Nat.zero_le _, Nat.zero_le _⟩ dX6_carryOut_146 (fun v1 s1 _ => ?_)
        exact r_iret (pc := 149) C dX6_carryOut_149
    · refine r_split (fun h2 => ?_) (fun h2 => ?_)
      · refine r_tabIn (pc := 26) (v := 11) (tgt := 150) C dX6_carryOut_26 h2 (by decide) (by decide) rfl (by decide) ?_
        refine r_aload_n (pc := 150) C dX6_carryOut_150 rfl ?_
        refine r_iload_n (pc := 151) C dX6_carryOut_151 rfl ?_
        refine r_callSN (pc := 152) C (c_X7_number (zO.ap C) _ _) lk_c_X7_number lk_i_X7 lk_mn_X6_133 lk_s_X7_number (n := 1) (by decide +kernel) rfl ⟨rfl, rfl⟩ (by decide) (Nat.le_of_ble_eq_true rfl) ⟨Nat.zero_le _, Nat.zero_le _⟩ dX6_carryOut_152 (fun v3 s3 _ => ?_)
        refine r_iload (pc := 155) C dX6_carryOut_155 rfl ?_
        refine r_callSN (pc := 157) C (c_X7_number (zO.ap C) _ _) lk_c_X7_number lk_i_X7 lk_mn_X6_133 lk_s_X7_number (n := 1) (by decide +kernel) rfl ⟨rfl, rfl⟩ (by decide) (Nat.le_of_ble_eq_true rfl) ⟨Nat.zero_le _, Nat.zero_le _⟩ dX6_carryOut_157 (fun v4 s4 _ => ?_)
        refine r_icmp_ge (pc := 160) (tgt := 167) C dX6_carryOut_160 (by decide) (fun _ => ?_) (fun _ => ?_)
        · refine r_iconst (pc := 167) (v := 0) C dX6_carryOut_167 (by decide) ?_
          refine r_iload (pc := 168) C dX6_carryOut_168 rfl ?_
          refine r_callV (pc := 170) C 13 (c_X6_goOnIf (zO.ap C) _ _ _) lk_c_X6_goOnIf lk_i_X6 lk_m_X6_143 lk_n_X6_goOnIf lk_v_X6_goOnIf (n := 2) (by decide +kernel) rfl ⟨rfl, rfl⟩ (by decide) (by decide) rfl rfl rfl (Nat.le_of_ble_eq_true rfl) ⟨Nat.zero_le _, Nat.zero_le _⟩ dX6_carryOut_170 (fun v5 s5 _ => ?_)
          exact r_iret (pc := 173) C dX6_carryOut_173
        · refine r_iconst (pc := 163) (v := 1) C dX6_carryOut_163 (by decide) ?_
          refine r_goto (pc := 164) (tgt := 168) C dX6_carryOut_164 (by decide) ?_
          refine r_iload (pc := 168) C dX6_carryOut_168 rfl ?_
          refine r_callV (pc := 170) C 13 (c_X6_goOnIf (zO.ap C) _ _ _) lk_c_X6_goOnIf lk_i_X6 lk_m_X6_143 lk_n_X6_goOnIf lk_v_X6_goOnIf (n := 2) (by decide +kernel) rfl ⟨rfl, rfl⟩ (by decide) (by decide) rfl rfl rfl (Nat.le_of_ble_eq_true rfl) ⟨Nat.zero_le _, Nat.zero_le _⟩ dX6_carryOut_170 (fun v6 s6 _ => ?_)
          exact r_iret (pc := 173) C dX6_carryOut_173
      · refine r_split (fun h3 => ?_) (fun h3 => ?_)
        · refine r_tabIn (pc := 26) (v := 12) (tgt := 174) C dX6_carryOut_26 h3 (by decide) (by decide) rfl (by decide) ?_
          refine r_aload_n (pc := 174) C dX6_carryOut_174 rfl ?_
          refine r_iload_n (pc := 175) C dX6_carryOut_175 rfl ?_
          refine r_callSN (pc := 176) C (c_X7_number (zO.ap C) _ _) lk_c_X7_number lk_i_X7 lk_mn_X6_133 lk_s_X7_number (n := 1) (by decide +kernel) rfl ⟨rfl, rfl⟩ (by decide) (Nat.le_of_ble_eq_true rfl) ⟨Nat.zero_le _, Nat.zero_le _⟩ dX6_carryOut_176 (fun v7 s7 _ => ?_)
          refine r_iload (pc := 179) C dX6_carryOut_179 rfl ?_
          refine r_callSN (pc := 181) C (c_X7_number (zO.ap C) _ _) lk_c_X7_number lk_i_X7 lk_mn_X6_133 lk_s_X7_number (n := 1) (by decide +kernel) rfl ⟨rfl, rfl⟩ (by decide) (Nat.le_of_ble_eq_true rfl) ⟨Nat.zero_le _, Nat.zero_le _⟩ dX6_carryOut_181 (fun v8 s8 _ => ?_)
          refine r_icmp_le (pc := 184) (tgt := 191) C dX6_carryOut_184 (by decide) (fun _ => ?_) (fun _ => ?_)
          · refine r_iconst (pc := 191) (v := 0) C dX6_carryOut_191 (by decide) ?_
            refine r_iload (pc := 192) C dX6_carryOut_192 rfl ?_
            refine r_callV (pc := 194) C 13 (c_X6_goOnIf (zO.ap C) _ _ _) lk_c_X6_goOnIf lk_i_X6 lk_m_X6_143 lk_n_X6_goOnIf lk_v_X6_goOnIf (n := 2) (by decide +kernel) rfl ⟨rfl, rfl⟩ (by decide) (by decide) rfl rfl rfl (Nat.le_of_ble_eq_true rfl) ⟨Nat.zero_le _, Nat.zero_le _⟩ dX6_carryOut_194 (fun v9 s9 _ => ?_)
            exact r_iret (pc := 197) C dX6_carryOut_197
          · refine r_iconst (pc := 187) (v := 1) C dX6_carryOut_187 (by decide) ?_
            refine r_goto (pc := 188) (tgt := 192) C dX6_carryOut_188 (by decide) ?_
            refine r_iload (pc := 192) C dX6_carryOut_192 rfl ?_
            refine r_callV (pc := 194) C 13 (c_X6_goOnIf (zO.ap C) _ _ _) lk_c_X6_goOnIf lk_i_X6 lk_m_X6_143 lk_n_X6_goOnIf lk_v_X6_goOnIf (n := 2) (by decide +kernel) rfl ⟨rfl, rfl⟩ (by decide) (by decide) rfl rfl rfl (Nat.le_of_ble_eq_true rfl) ⟨Nat.zero_le _, Nat.zero_le _⟩ dX6_carryOut_194 (fun v10 s10 _ => ?_)
            exact r_iret (pc := 197) C dX6_carryOut_197
        · refine r_split (fun h4 => ?_) (fun h4 => ?_)
          · refine r_tabIn (pc := 26) (v := 13) (tgt := 198) C dX6_carryOut_26 h4 (by decide) (by decide) rfl (by decide) ?_
            refine r_aload_n (pc := 198) C dX6_carryOut_198 rfl ?_
            refine r_iconst (pc := 199) (v := 1) C dX6_carryOut_199 (by decide) ?_
            refine r_iload_n (pc := 200) C dX6_carryOut_200 rfl ?_
            refine r_callV (pc := 201) C 13 (c_X6_goOnIf (zO.ap C) _ _ _) lk_c_X6_goOnIf lk_i_X6 lk_m_X6_143 lk_n_X6_goOnIf lk_v_X6_goOnIf (n := 2) (by decide +kernel) rfl ⟨rfl, rfl⟩ (by decide) (by decide) rfl rfl rfl (Nat.le_of_ble_eq_true rfl) ⟨Nat.zero_le _, Nat.zero_le _⟩ dX6_carryOut_201 (fun v11 s11 _ => ?_)
            exact r_iret (pc := 204) C dX6_carryOut_204
          · refine r_split (fun h5 => ?_) (fun h5 => ?_)
            · refine r_tabIn (pc := 26) (v := 14) (tgt := 205) C dX6_carryOut_26 h5 (by decide) (by decide) rfl (by decide) ?_
              refine r_aload_n (pc := 205) C dX6_carryOut_205 rfl ?_
              refine r_iload_n (pc := 206) C dX6_carryOut_206 rfl ?_
              refine r_sipush (pc := 207) (v := 255) C dX6_carryOut_207 (by decide) ?_
              refine r_iand (pc := 210) C dX6_carryOut_210 ?_
              refine r_iconst (pc := 211) (v := 1) C dX6_carryOut_211 (by decide) ?_
              refine r_callV (pc := 212) C 13 (c_X6_change (zO.ap C) _ _ _) lk_c_X6_change lk_i_X6 lk_m_X6_147 lk_n_X6_change lk_v_X6_change (n := 2) (by decide +kernel) rfl ⟨rfl, rfl⟩ (by decide) (by decide) rfl rfl rfl (Nat.le_of_ble_eq_true rfl) ⟨Nat.zero_le _, Nat.zero_le _⟩ dX6_carryOut_212 (fun v12 s12 _ => ?_)
              exact r_iret (pc := 215) C dX6_carryOut_215
            · refine r_split (fun h6 => ?_) (fun h6 => ?_)
              · refine r_tabIn (pc := 26) (v := 15) (tgt := 216) C dX6_carryOut_26 h6 (by decide) (by decide) rfl (by decide) ?_
                refine r_aload_n (pc := 216) C dX6_carryOut_216 rfl ?_
                refine r_iload_n (pc := 217) C dX6_carryOut_217 rfl ?_
                refine r_sipush (pc := 218) (v := 255) C dX6_carryOut_218 (by decide) ?_
                refine r_iand (pc := 221) C dX6_carryOut_221 ?_
                refine r_iconst (pc := 222) (v := -1) C dX6_carryOut_222 (by decide) ?_
                refine r_callV (pc := 223) C 13 (c_X6_change (zO.ap C) _ _ _) lk_c_X6_change lk_i_X6 lk_m_X6_147 lk_n_X6_change lk_v_X6_change (n := 2) (by decide +kernel) rfl ⟨rfl, rfl⟩ (by decide) (by decide) rfl rfl rfl (Nat.le_of_ble_eq_true rfl) ⟨Nat.zero_le _, Nat.zero_le _⟩ dX6_carryOut_223 (fun v13 s13 _ => ?_)
                exact r_iret (pc := 226) C dX6_carryOut_226
              · refine r_split (fun h7 => ?_) (fun h7 => ?_)
                · refine r_tabIn (pc := 26) (v := 16) (tgt := 227) C dX6_carryOut_26 h7 (by decide) (by decide) rfl (by decide) ?_
                  refine r_aload_n (pc := 227) C dX6_carryOut_227 rfl ?_
                  refine r_iload_n (pc := 228) C dX6_carryOut_228 rfl ?_
                  refine r_aload_n (pc := 229) C dX6_carryOut_229 rfl ?_
                  refine r_get (pc := 230) C K_X6 13 0 (by decide) rfl (by decide) lk_f_X6_36 rfl dX6_carryOut_230 ?_
                  refine r_iload_n (pc := 233) C dX6_carryOut_233 rfl ?_
                  refine r_iconst (pc := 234) (v := 2) C dX6_carryOut_234 (by decide) ?_
                  refine r_iload (pc := 235) C dX6_carryOut_235 rfl ?_
                  refine r_callSN (pc := 237) C (c_X7_number (zO.ap C) _ _) lk_c_X7_number lk_i_X7 lk_mn_X6_133 lk_s_X7_number (n := 1) (by decide +kernel) rfl ⟨rfl, rfl⟩ (by decide) (Nat.le_of_ble_eq_true rfl) ⟨Nat.zero_le _, Nat.zero_le _⟩ dX6_carryOut_237 (fun v14 s14 _ => ?_)
                  refine r_imul (pc := 240) C dX6_carryOut_240 ?_
                  refine r_iadd (pc := 241) C dX6_carryOut_241 ?_
                  refine r_callV (pc := 242) C 1 (c_X3_wordAt (zO.ap C) _ _) lk_c_X3_wordAt lk_i_X3 lk_m_X6_150 lk_n_X3_wordAt lk_v_X3_wordAt (n := 1) (by decide +kernel) rfl ⟨rfl, rfl⟩ (by decide) (by decide) rfl rfl rfl (Nat.le_of_ble_eq_true rfl) ⟨Nat.zero_le _, Nat.zero_le _⟩ dX6_carryOut_242 (fun v15 s15 _ => ?_)
                  refine r_callV (pc := 245) C 13 (c_X6_tell (zO.ap C) _ _ _) lk_c_X6_tell lk_i_X6 lk_m_X6_140 lk_n_X6_tell lk_v_X6_tell (n := 2) (by decide +kernel) rfl ⟨rfl, rfl⟩ (by decide) (by decide) rfl rfl rfl (Nat.le_of_ble_eq_true rfl) ⟨Nat.zero_le _, Nat.zero_le _⟩ dX6_carryOut_245 (fun v16 s16 _ => ?_)
                  exact r_iret (pc := 248) C dX6_carryOut_248
                · refine r_split (fun h8 => ?_) (fun h8 => ?_)
                  · refine r_tabIn (pc := 26) (v := 17) (tgt := 249) C dX6_carryOut_26 h8 (by decide) (by decide) rfl (by decide) ?_
                    refine r_aload_n (pc := 249) C dX6_carryOut_249 rfl ?_
                    refine r_iload_n (pc := 250) C dX6_carryOut_250 rfl ?_
                    refine r_aload_n (pc := 251) C dX6_carryOut_251 rfl ?_
                    refine r_get (pc := 252) C K_X6 13 0 (by decide) rfl (by decide) lk_f_X6_36 rfl dX6_carryOut_252 ?_
                    refine r_iload_n (pc := 255) C dX6_carryOut_255 rfl ?_
                    refine r_iload (pc := 256) C dX6_carryOut_256 rfl ?_
                    refine r_callSN (pc := 258) C (c_X7_number (zO.ap C) _ _) lk_c_X7_number lk_i_X7 lk_mn_X6_133 lk_s_X7_number (n := 1) (by decide +kernel) rfl ⟨rfl, rfl⟩ (by decide) (Nat.le_of_ble_eq_true rfl) ⟨Nat.zero_le _, Nat.zero_le _⟩ dX6_carryOut_258 (fun v17 s17 _ => ?_)
                    refine r_iadd (pc := 261) C dX6_carryOut_261 ?_
                    refine r_callV (pc := 262) C 1 (c_X3_byteAt (zO.ap C) _ _) lk_c_X3_byteAt lk_i_X3 lk_m_X6_155 lk_n_X3_byteAt lk_v_X3_byteAt (n := 1) (by decide +kernel) rfl ⟨rfl, rfl⟩ (by decide) (by decide) rfl rfl rfl (Nat.le_of_ble_eq_true rfl) ⟨Nat.zero_le _, Nat.zero_le _⟩ dX6_carryOut_262 (fun v18 s18 _ => ?_)
                    refine r_callV (pc := 265) C 13 (c_X6_tell (zO.ap C) _ _ _) lk_c_X6_tell lk_i_X6 lk_m_X6_140 lk_n_X6_tell lk_v_X6_tell (n := 2) (by decide +kernel) rfl ⟨rfl, rfl⟩ (by decide) (by decide) rfl rfl rfl (Nat.le_of_ble_eq_true rfl) ⟨Nat.zero_le _, Nat.zero_le _⟩ dX6_carryOut_265 (fun v19 s19 _ => ?_)
                    exact r_iret (pc := 268) C dX6_carryOut_268
                  · refine r_split (fun h9 => ?_) (fun h9 => ?_)
                    · refine r_tabIn (pc := 26) (v := 18) (tgt := 269) C dX6_carryOut_26 h9 (by decide) (by decide) rfl (by decide) ?_
                      refine r_aload_n (pc := 269) C dX6_carryOut_269 rfl ?_
                      refine r_get (pc := 270) C K_X6 13 0 (by decide) rfl (by decide) lk_f_X6_36 rfl dX6_carryOut_270 ?_
                      refine r_iload_n (pc := 273) C dX6_carryOut_273 rfl ?_
                      refine r_iconst (pc := 274) (v := 2) C dX6_carryOut_274 (by decide) ?_
                      refine r_iload (pc := 275) C dX6_carryOut_275 rfl ?_
                      refine r_callSN (pc := 277) C (c_X7_number (zO.ap C) _ _) lk_c_X7_number lk_i_X7 lk_mn_X6_133 lk_s_X7_number (n := 1) (by decide +kernel) rfl ⟨rfl, rfl⟩ (by decide) (Nat.le_of_ble_eq_true rfl) ⟨Nat.zero_le _, Nat.zero_le _⟩ dX6_carryOut_277 (fun v20 s20 _ => ?_)
                      refine r_imul (pc := 280) C dX6_carryOut_280 ?_
                      refine r_iadd (pc := 281) C dX6_carryOut_281 ?_
                      refine r_iload (pc := 282) C dX6_carryOut_282 rfl ?_
                      refine r_iconst (pc := 284) (v := 0) C dX6_carryOut_284 (by decide) ?_
                      refine r_callV (pc := 285) C 1 (c_X3_setWord (zO.ap C) _ _ _ _) lk_c_X3_setWord lk_i_X3 lk_m_X6_158 lk_n_X3_setWord lk_v_X3_setWord (n := 3) (by decide +kernel) rfl ⟨rfl, rfl⟩ (by decide) (by decide) rfl rfl rfl (Nat.le_of_ble_eq_true rfl) ⟨Nat.zero_le _, Nat.zero_le _⟩ dX6_carryOut_285 (fun v21 s21 _ => ?_)
                      exact r_iret (pc := 288) C dX6_carryOut_288
                    · refine r_split (fun h10 => ?_) (fun h10 => ?_)
                      · refine r_tabIn (pc := 26) (v := 19) (tgt := 289) C dX6_carryOut_26 h10 (by decide) (by decide) rfl (by decide) ?_
                        refine r_aload_n (pc := 289) C dX6_carryOut_289 rfl ?_
                        refine r_get (pc := 290) C K_X6 13 0 (by decide) rfl (by decide) lk_f_X6_36 rfl dX6_carryOut_290 ?_
                        refine r_iload_n (pc := 293) C dX6_carryOut_293 rfl ?_
                        refine r_iload (pc := 294) C dX6_carryOut_294 rfl ?_
                        refine r_callSN (pc := 296) C (c_X7_number (zO.ap C) _ _) lk_c_X7_number lk_i_X7 lk_mn_X6_133 lk_s_X7_number (n := 1) (by decide +kernel) rfl ⟨rfl, rfl⟩ (by decide) (Nat.le_of_ble_eq_true rfl) ⟨Nat.zero_le _, Nat.zero_le _⟩ dX6_carryOut_296 (fun v22 s22 _ => ?_)
                        refine r_iadd (pc := 299) C dX6_carryOut_299 ?_
                        refine r_iload (pc := 300) C dX6_carryOut_300 rfl ?_
                        refine r_iconst (pc := 302) (v := 0) C dX6_carryOut_302 (by decide) ?_
                        refine r_callV (pc := 303) C 1 (c_X3_setByte (zO.ap C) _ _ _ _) lk_c_X3_setByte lk_i_X3 lk_m_X6_162 lk_n_X3_setByte lk_v_X3_setByte (n := 3) (by decide +kernel) rfl ⟨rfl, rfl⟩ (by decide) (by decide) rfl rfl rfl (Nat.le_of_ble_eq_true rfl) ⟨Nat.zero_le _, Nat.zero_le _⟩ dX6_carryOut_303 (fun v23 s23 _ => ?_)
                        exact r_iret (pc := 306) C dX6_carryOut_306
                      · refine r_split (fun h11 => ?_) (fun h11 => ?_)
                        · refine r_tabIn (pc := 26) (v := 20) (tgt := 307) C dX6_carryOut_26 h11 (by decide) (by decide) rfl (by decide) ?_
                          refine r_aload_n (pc := 307) C dX6_carryOut_307 rfl ?_
                          refine r_iload_n (pc := 308) C dX6_carryOut_308 rfl ?_
                          refine r_iload (pc := 309) C dX6_carryOut_309 rfl ?_
                          refine r_iload (pc := 311) C dX6_carryOut_311 rfl ?_
                          refine r_iload_n (pc := 313) C dX6_carryOut_313 rfl ?_
                          refine r_callV (pc := 314) C 13 (c_X6_enter (zO.ap C) _ _ _ _ _) lk_c_X6_enter lk_i_X6 lk_m_X6_81 lk_n_X6_enter lk_v_X6_enter (n := 4) (by decide +kernel) rfl ⟨rfl, rfl⟩ (by decide) (by decide) rfl rfl rfl (Nat.le_of_ble_eq_true rfl) ⟨Nat.zero_le _, Nat.zero_le _⟩ dX6_carryOut_314 (fun v24 s24 _ => ?_)
                          exact r_iret (pc := 317) C dX6_carryOut_317
                        · refine r_split (fun h12 => ?_) (fun h12 => ?_)
                          · refine r_tabIn (pc := 26) (v := 21) (tgt := 318) C dX6_carryOut_26 h12 (by decide) (by decide) rfl (by decide) ?_
                            refine r_aload_n (pc := 318) C dX6_carryOut_318 rfl ?_
                            refine r_iload_n (pc := 319) C dX6_carryOut_319 rfl ?_
                            refine r_callV (pc := 320) C 13 (c_X6_giveBack (zO.ap C) _ _) lk_c_X6_giveBack lk_i_X6 lk_m_X6_165 lk_n_X6_giveBack lk_v_X6_giveBack (n := 1) (by decide +kernel) rfl ⟨rfl, rfl⟩ (by decide) (by decide) rfl rfl rfl (Nat.le_of_ble_eq_true rfl) ⟨Nat.zero_le _, Nat.zero_le _⟩ dX6_carryOut_320 (fun v25 s25 _ => ?_)
                            exact r_iret (pc := 323) C dX6_carryOut_323
                          · refine r_split (fun h13 => ?_) (fun h13 => ?_)
                            · refine r_tabIn (pc := 26) (v := 22) (tgt := 324) C dX6_carryOut_26 h13 (by decide) (by decide) rfl (by decide) ?_
                              refine r_aload_n (pc := 324) C dX6_carryOut_324 rfl ?_
                              refine r_get (pc := 325) C K_X6 13 3 (by decide) rfl (by decide) lk_f_X6_12 rfl dX6_carryOut_325 ?_
                              refine r_iload_n (pc := 328) C dX6_carryOut_328 rfl ?_
                              refine r_callV (pc := 329) C 14 (c_X2_push (zO.ap C) _ _) lk_c_X2_push lk_i_X2 lk_m_X6_168 lk_n_X2_push lk_v_X2_push (n := 1) (by decide +kernel) rfl ⟨rfl, rfl⟩ (by decide) (by decide) rfl rfl rfl (Nat.le_of_ble_eq_true rfl) ⟨Nat.zero_le _, Nat.zero_le _⟩ dX6_carryOut_329 (fun v26 s26 _ => ?_)
                              exact r_iret (pc := 332) C dX6_carryOut_332
                            · refine r_split (fun h14 => ?_) (fun h14 => ?_)
                              · refine r_tabIn (pc := 26) (v := 23) (tgt := 333) C dX6_carryOut_26 h14 (by decide) (by decide) rfl (by decide) ?_
                                refine r_aload_n (pc := 333) C dX6_carryOut_333 rfl ?_
                                refine r_iload_n (pc := 334) C dX6_carryOut_334 rfl ?_
                                refine r_sipush (pc := 335) (v := 255) C dX6_carryOut_335 (by decide) ?_
                                refine r_iand (pc := 338) C dX6_carryOut_338 ?_
                                refine r_aload_n (pc := 339) C dX6_carryOut_339 rfl ?_
                                refine r_get (pc := 340) C K_X6 13 3 (by decide) rfl (by decide) lk_f_X6_12 rfl dX6_carryOut_340 ?_
                                refine r_callV (pc := 343) C 14 (c_X2_pop (zO.ap C)  _) lk_c_X2_pop lk_i_X2 lk_m_X6_171 lk_n_X2_pop lk_v_X2_pop (n := 0) (by decide +kernel) rfl ⟨rfl, rfl⟩ (by decide) (by decide) rfl rfl rfl (Nat.le_of_ble_eq_true rfl) ⟨Nat.zero_le _, Nat.zero_le _⟩ dX6_carryOut_343 (fun v27 s27 _ => ?_)
                                refine r_callV (pc := 346) C 13 (c_X6_tell (zO.ap C) _ _ _) lk_c_X6_tell lk_i_X6 lk_m_X6_140 lk_n_X6_tell lk_v_X6_tell (n := 2) (by decide +kernel) rfl ⟨rfl, rfl⟩ (by decide) (by decide) rfl rfl rfl (Nat.le_of_ble_eq_true rfl) ⟨Nat.zero_le _, Nat.zero_le _⟩ dX6_carryOut_346 (fun v28 s28 _ => ?_)
                                exact r_iret (pc := 349) C dX6_carryOut_349
                              · refine r_split (fun h15 => ?_) (fun h15 => ?_)
                                · refine r_tabIn (pc := 26) (v := 24) (tgt := 350) C dX6_carryOut_26 h15 (by decide) (by decide) rfl (by decide) ?_
                                  refine r_aload_n (pc := 350) C dX6_carryOut_350 rfl ?_
                                  refine r_iload_n (pc := 351) C dX6_carryOut_351 rfl ?_
                                  refine r_aload_n (pc := 352) C dX6_carryOut_352 rfl ?_
                                  refine r_get (pc := 353) C K_X6 13 3 (by decide) rfl (by decide) lk_f_X6_12 rfl dX6_carryOut_353 ?_
                                  refine r_getN (pc := 356) C K_X2 14 3 (by decide) rfl (by decide) lk_fn_X6_175 rfl dX6_carryOut_356 ?_
                                  refine r_iconst (pc := 359) (v := 1) C dX6_carryOut_359 (by decide) ?_
                                  refine r_isub (pc := 360) C dX6_carryOut_360 ?_
                                  refine r_callV (pc := 361) C 13 (c_X6_tell (zO.ap C) _ _ _) lk_c_X6_tell lk_i_X6 lk_m_X6_140 lk_n_X6_tell lk_v_X6_tell (n := 2) (by decide +kernel) rfl ⟨rfl, rfl⟩ (by decide) (by decide) rfl rfl rfl (Nat.le_of_ble_eq_true rfl) ⟨Nat.zero_le _, Nat.zero_le _⟩ dX6_carryOut_361 (fun v29 s29 _ => ?_)
                                  exact r_iret (pc := 364) C dX6_carryOut_364
                                · refine r_split (fun h16 => ?_) (fun h16 => ?_)
                                  · refine r_tabIn (pc := 26) (v := 25) (tgt := 365) C dX6_carryOut_26 h16 (by decide) (by decide) rfl (by decide) ?_
                                    refine r_aload_n (pc := 365) C dX6_carryOut_365 rfl ?_
                                    refine r_iload (pc := 366) C dX6_carryOut_366 rfl ?_
                                    refine r_iload_n (pc := 368) C dX6_carryOut_368 rfl ?_
                                    refine r_callV (pc := 369) C 13 (c_X6_throwTo (zO.ap C) _ _ _) lk_c_X6_throwTo lk_i_X6 lk_m_X6_178 lk_n_X6_throwTo lk_v_X6_throwTo (n := 2) (by decide +kernel) rfl ⟨rfl, rfl⟩ (by decide) (by decide) rfl rfl rfl (Nat.le_of_ble_eq_true rfl) ⟨Nat.zero_le _, Nat.zero_le _⟩ dX6_carryOut_369 (fun v30 s30 _ => ?_)
                                    exact r_iret (pc := 372) C dX6_carryOut_372
                                  · refine r_split (fun h17 => ?_) (fun h17 => ?_)
                                    · refine r_tabIn (pc := 26) (v := 26) (tgt := 373) C dX6_carryOut_26 h17 (by decide) (by decide) rfl (by decide) ?_
                                      refine r_aload_n (pc := 373) C dX6_carryOut_373 rfl ?_
                                      refine r_get (pc := 374) C K_X6 13 0 (by decide) rfl (by decide) lk_f_X6_36 rfl dX6_carryOut_374 ?_
                                      refine r_iload_n (pc := 377) C dX6_carryOut_377 rfl ?_
                                      refine r_iload (pc := 378) C dX6_carryOut_378 rfl ?_
                                      refine r_iload (pc := 380) C dX6_carryOut_380 rfl ?_
                                      refine r_callSN (pc := 382) C (c_X7_number (zO.ap C) _ _) lk_c_X7_number lk_i_X7 lk_mn_X6_133 lk_s_X7_number (n := 1) (by decide +kernel) rfl ⟨rfl, rfl⟩ (by decide) (Nat.le_of_ble_eq_true rfl) ⟨Nat.zero_le _, Nat.zero_le _⟩ dX6_carryOut_382 (fun v31 s31 _ => ?_)
                                      refine r_callV (pc := 385) C 1 (c_X3_copyTable (zO.ap C) _ _ _ _) lk_c_X3_copyTable lk_i_X3 lk_m_X6_181 lk_n_X3_copyTable lk_v_X3_copyTable (n := 3) (by decide +kernel) rfl ⟨rfl, rfl⟩ (by decide) (by decide) rfl rfl rfl (Nat.le_of_ble_eq_true rfl) ⟨Nat.zero_le _, Nat.zero_le _⟩ dX6_carryOut_385 (fun v32 s32 _ => ?_)
                                      exact r_iret (pc := 388) C dX6_carryOut_388
                                    · refine r_split (fun h18 => ?_) (fun h18 => ?_)
                                      · refine r_tabIn (pc := 26) (v := 27) (tgt := 389) C dX6_carryOut_26 h18 (by decide) (by decide) rfl (by decide) ?_
                                        refine r_aload_n (pc := 389) C dX6_carryOut_389 rfl ?_
                                        refine r_iload_n (pc := 390) C dX6_carryOut_390 rfl ?_
                                        refine r_aload_n (pc := 391) C dX6_carryOut_391 rfl ?_
                                        refine r_get (pc := 392) C K_X6 13 0 (by decide) rfl (by decide) lk_f_X6_36 rfl dX6_carryOut_392 ?_
                                        refine r_iload_n (pc := 395) C dX6_carryOut_395 rfl ?_
                                        refine r_iload (pc := 396) C dX6_carryOut_396 rfl ?_
                                        refine r_iload (pc := 398) C dX6_carryOut_398 rfl ?_
                                        refine r_callSN (pc := 400) C (c_X7_number (zO.ap C) _ _) lk_c_X7_number lk_i_X7 lk_mn_X6_133 lk_s_X7_number (n := 1) (by decide +kernel) rfl ⟨rfl, rfl⟩ (by decide) (Nat.le_of_ble_eq_true rfl) ⟨Nat.zero_le _, Nat.zero_le _⟩ dX6_carryOut_400 (fun v33 s33 _ => ?_)
                                        refine r_aload_n (pc := 403) C dX6_carryOut_403 rfl ?_
                                        refine r_get (pc := 404) C K_X6 13 8 (by decide) rfl (by decide) lk_f_X6_32 rfl dX6_carryOut_404 ?_
                                        refine r_callV (pc := 407) C 1 (c_X3_find (zO.ap C) _ _ _ _ _) lk_c_X3_find lk_i_X3 lk_m_X6_184 lk_n_X3_find lk_v_X3_find (n := 4) (by decide +kernel) rfl ⟨rfl, rfl⟩ (by decide) (by decide) rfl rfl rfl (Nat.le_of_ble_eq_true rfl) ⟨Nat.zero_le _, Nat.zero_le _⟩ dX6_carryOut_407 (fun v34 s34 _ => ?_)
                                        refine r_callV (pc := 410) C 13 (c_X6_tell (zO.ap C) _ _ _) lk_c_X6_tell lk_i_X6 lk_m_X6_140 lk_n_X6_tell lk_v_X6_tell (n := 2) (by decide +kernel) rfl ⟨rfl, rfl⟩ (by decide) (by decide) rfl rfl rfl (Nat.le_of_ble_eq_true rfl) ⟨Nat.zero_le _, Nat.zero_le _⟩ dX6_carryOut_410 (fun v35 s35 _ => ?_)
                                        exact r_iret (pc := 413) C dX6_carryOut_413
                                      · refine r_split (fun h19 => ?_) (fun h19 => ?_)
                                        · refine r_tabIn (pc := 26) (v := 28) (tgt := 414) C dX6_carryOut_26 h19 (by decide) (by decide) rfl (by decide) ?_
                                          refine r_aload_n (pc := 414) C dX6_carryOut_414 rfl ?_
                                          refine r_iload_n (pc := 415) C dX6_carryOut_415 rfl ?_
                                          refine r_aload_n (pc := 416) C dX6_carryOut_416 rfl ?_
                                          refine r_get (pc := 417) C K_X6 13 1 (by decide) rfl (by decide) lk_f_X6_40 rfl dX6_carryOut_417 ?_
                                          refine r_iload_n (pc := 420) C dX6_carryOut_420 rfl ?_
                                          refine r_callSN (pc := 421) C (c_X7_number (zO.ap C) _ _) lk_c_X7_number lk_i_X7 lk_mn_X6_133 lk_s_X7_number (n := 1) (by decide +kernel) rfl ⟨rfl, rfl⟩ (by decide) (Nat.le_of_ble_eq_true rfl) ⟨Nat.zero_le _, Nat.zero_le _⟩ dX6_carryOut_421 (fun v36 s36 _ => ?_)
                                          refine r_callV (pc := 424) C 3 (c_X0_draw (zO.ap C) _ _) lk_c_X0_draw lk_i_X0 lk_m_X6_187 lk_n_X0_draw lk_v_X0_draw (n := 1) (by decide +kernel) rfl ⟨rfl, rfl⟩ (by decide) (by decide) rfl rfl rfl (Nat.le_of_ble_eq_true rfl) ⟨Nat.zero_le _, Nat.zero_le _⟩ dX6_carryOut_424 (fun v37 s37 _ => ?_)
                                          refine r_callV (pc := 427) C 13 (c_X6_tell (zO.ap C) _ _ _) lk_c_X6_tell lk_i_X6 lk_m_X6_140 lk_n_X6_tell lk_v_X6_tell (n := 2) (by decide +kernel) rfl ⟨rfl, rfl⟩ (by decide) (by decide) rfl rfl rfl (Nat.le_of_ble_eq_true rfl) ⟨Nat.zero_le _, Nat.zero_le _⟩ dX6_carryOut_427 (fun v38 s38 _ => ?_)
                                          exact r_iret (pc := 430) C dX6_carryOut_430
                                        · refine r_split (fun h20 => ?_) (fun h20 => ?_)
                                          · refine r_tabIn (pc := 26) (v := 29) (tgt := 431) C dX6_carryOut_26 h20 (by decide) (by decide) rfl (by decide) ?_
                                            refine r_aload_n (pc := 431) C dX6_carryOut_431 rfl ?_
                                            refine r_get (pc := 432) C K_X6 13 4 (by decide) rfl (by decide) lk_f_X6_21 rfl dX6_carryOut_432 ?_
                                            refine r_iload_n (pc := 435) C dX6_carryOut_435 rfl ?_
                                            refine r_callSN (pc := 436) C (c_X7_number (zO.ap C) _ _) lk_c_X7_number lk_i_X7 lk_mn_X6_133 lk_s_X7_number (n := 1) (by decide +kernel) rfl ⟨rfl, rfl⟩ (by decide) (Nat.le_of_ble_eq_true rfl) ⟨Nat.zero_le _, Nat.zero_le _⟩ dX6_carryOut_436 (fun v39 s39 _ => ?_)
                                            refine r_callV (pc := 439) C 41 (c_X4_printNumber (zO.ap C) _ _) lk_c_X4_printNumber lk_i_X4 lk_m_X6_192 lk_n_X4_printNumber lk_v_X4_printNumber (n := 1) (by decide +kernel) rfl ⟨rfl, rfl⟩ (by decide) (by decide) rfl rfl rfl (Nat.le_of_ble_eq_true rfl) ⟨Nat.zero_le _, Nat.zero_le _⟩ dX6_carryOut_439 (fun v40 s40 _ => ?_)
                                            exact r_iret (pc := 442) C dX6_carryOut_442
                                          · refine r_split (fun h21 => ?_) (fun h21 => ?_)
                                            · refine r_tabIn (pc := 26) (v := 30) (tgt := 443) C dX6_carryOut_26 h21 (by decide) (by decide) rfl (by decide) ?_
                                              refine r_aload_n (pc := 443) C dX6_carryOut_443 rfl ?_
                                              refine r_get (pc := 444) C K_X6 13 4 (by decide) rfl (by decide) lk_f_X6_21 rfl dX6_carryOut_444 ?_
                                              refine r_iload_n (pc := 447) C dX6_carryOut_447 rfl ?_
                                              refine r_callV (pc := 448) C 41 (c_X4_print (zO.ap C) _ _) lk_c_X4_print lk_i_X4 lk_m_X6_195 lk_n_X4_print lk_v_X4_print (n := 1) (by decide +kernel) rfl ⟨rfl, rfl⟩ (by decide) (by decide) rfl rfl rfl (Nat.le_of_ble_eq_true rfl) ⟨Nat.zero_le _, Nat.zero_le _⟩ dX6_carryOut_448 (fun v41 s41 _ => ?_)
                                              exact r_iret (pc := 451) C dX6_carryOut_451
                                            · refine r_split (fun h22 => ?_) (fun h22 => ?_)
                                              · refine r_tabIn (pc := 26) (v := 31) (tgt := 452) C dX6_carryOut_26 h22 (by decide) (by decide) rfl (by decide) ?_
                                                refine r_aload_n (pc := 452) C dX6_carryOut_452 rfl ?_
                                                refine r_iload_n (pc := 453) C dX6_carryOut_453 rfl ?_
                                                refine r_iload (pc := 454) C dX6_carryOut_454 rfl ?_
                                                refine r_callSN (pc := 456) C (c_X7_number (zO.ap C) _ _) lk_c_X7_number lk_i_X7 lk_mn_X6_133 lk_s_X7_number (n := 1) (by decide +kernel) rfl ⟨rfl, rfl⟩ (by decide) (Nat.le_of_ble_eq_true rfl) ⟨Nat.zero_le _, Nat.zero_le _⟩ dX6_carryOut_456 (fun v42 s42 _ => ?_)
                                                refine r_iload (pc := 459) C dX6_carryOut_459 rfl ?_
                                                refine r_callSN (pc := 461) C (c_X7_number (zO.ap C) _ _) lk_c_X7_number lk_i_X7 lk_mn_X6_133 lk_s_X7_number (n := 1) (by decide +kernel) rfl ⟨rfl, rfl⟩ (by decide) (Nat.le_of_ble_eq_true rfl) ⟨Nat.zero_le _, Nat.zero_le _⟩ dX6_carryOut_461 (fun v43 s43 _ => ?_)
                                                refine r_callV (pc := 464) C 13 (c_X6_printRows (zO.ap C) _ _ _ _) lk_c_X6_printRows lk_i_X6 lk_m_X6_198 lk_n_X6_printRows lk_v_X6_printRows (n := 3) (by decide +kernel) rfl ⟨rfl, rfl⟩ (by decide) (by decide) rfl rfl rfl (Nat.le_of_ble_eq_true rfl) ⟨Nat.zero_le _, Nat.zero_le _⟩ dX6_carryOut_464 (fun v44 s44 _ => ?_)
                                                exact r_iret (pc := 467) C dX6_carryOut_467
                                              · refine r_split (fun h23 => ?_) (fun h23 => ?_)
                                                · refine r_tabIn (pc := 26) (v := 32) (tgt := 468) C dX6_carryOut_26 h23 (by decide) (by decide) rfl (by decide) ?_
                                                  refine r_aload_n (pc := 468) C dX6_carryOut_468 rfl ?_
                                                  refine r_iconst (pc := 469) (v := 1) C dX6_carryOut_469 (by decide) ?_
                                                  refine r_callV (pc := 470) C 13 (c_X6_end (zO.ap C) _ _) lk_c_X6_end lk_i_X6 lk_m_X6_201 lk_n_X6_end lk_v_X6_end (n := 1) (by decide +kernel) rfl ⟨rfl, rfl⟩ (by decide) (by decide) rfl rfl rfl (Nat.le_of_ble_eq_true rfl) ⟨Nat.zero_le _, Nat.zero_le _⟩ dX6_carryOut_470 (fun v45 s45 _ => ?_)
                                                  exact r_iret (pc := 473) C dX6_carryOut_473
                                                · refine r_tabOut (pc := 26) (tgt := 474) C dX6_carryOut_26 (by have a0 := lv_neT (a := 10) h1 rfl; have a1 := lv_neT (a := 11) h2 rfl; have a2 := lv_neT (a := 12) h3 rfl; have a3 := lv_neT (a := 13) h4 rfl; have a4 := lv_neT (a := 14) h5 rfl; have a5 := lv_neT (a := 15) h6 rfl; have a6 := lv_neT (a := 16) h7 rfl; have a7 := lv_neT (a := 17) h8 rfl; have a8 := lv_neT (a := 18) h9 rfl; have a9 := lv_neT (a := 19) h10 rfl; have a10 := lv_neT (a := 20) h11 rfl; have a11 := lv_neT (a := 21) h12 rfl; have a12 := lv_neT (a := 22) h13 rfl; have a13 := lv_neT (a := 23) h14 rfl; have a14 := lv_neT (a := 24) h15 rfl; have a15 := lv_neT (a := 25) h16 rfl; have a16 := lv_neT (a := 26) h17 rfl; have a17 := lv_neT (a := 27) h18 rfl; have a18 := lv_neT (a := 28) h19 rfl; have a19 := lv_neT (a := 29) h20 rfl; have a20 := lv_neT (a := 30) h21 rfl; have a21 := lv_neT (a := 31) h22 rfl; have a22 := lv_neT (a := 32) h23 rfl; omega) (by decide) ?_
                                                  refine r_bipush (pc := 474) (v := -20) C dX6_carryOut_474 (by decide) ?_
                                                  exact r_iret (pc := 476) C dX6_carryOut_476
  · refine r_aload_n (pc := 6) C dX6_carryOut_6 rfl ?_
    refine r_iload_n (pc := 7) C dX6_carryOut_7 rfl ?_
    refine r_iload_n (pc := 8) C dX6_carryOut_8 rfl ?_
    refine r_iload_n (pc := 9) C dX6_carryOut_9 rfl ?_
    refine r_callSN (pc := 10) C (c_X7_number (zO.ap C) _ _) lk_c_X7_number lk_i_X7 lk_mn_X6_133 lk_s_X7_number (n := 1) (by decide +kernel) rfl ⟨rfl, rfl⟩ (by decide) (Nat.le_of_ble_eq_true rfl) ⟨Nat.zero_le _, Nat.zero_le _⟩ dX6_carryOut_10 (fun v46 s46 _ => ?_)
    refine r_iload (pc := 13) C dX6_carryOut_13 rfl ?_
    refine r_callSN (pc := 15) C (c_X7_number (zO.ap C) _ _) lk_c_X7_number lk_i_X7 lk_mn_X6_133 lk_s_X7_number (n := 1) (by decide +kernel) rfl ⟨rfl, rfl⟩ (by decide) (Nat.le_of_ble_eq_true rfl) ⟨Nat.zero_le _, Nat.zero_le _⟩ dX6_carryOut_15 (fun v47 s47 _ => ?_)
    refine r_callSN (pc := 18) C (c_X7_arithmetic (zO.ap C) _ _ _ _) lk_c_X7_arithmetic lk_i_X7 lk_mn_X6_136 lk_s_X7_arithmetic (n := 3) (by decide +kernel) rfl ⟨rfl, rfl⟩ (by decide) (Nat.le_of_ble_eq_true rfl) ⟨Nat.zero_le _, Nat.zero_le _⟩ dX6_carryOut_18 (fun v48 s48 _ => ?_)
    refine r_callV (pc := 21) C 13 (c_X6_tell (zO.ap C) _ _ _) lk_c_X6_tell lk_i_X6 lk_m_X6_140 lk_n_X6_tell lk_v_X6_tell (n := 2) (by decide +kernel) rfl ⟨rfl, rfl⟩ (by decide) (by decide) rfl rfl rfl (Nat.le_of_ble_eq_true rfl) ⟨Nat.zero_le _, Nat.zero_le _⟩ dX6_carryOut_21 (fun v49 s49 _ => ?_)
    exact r_iret (pc := 24) C dX6_carryOut_24
theorem c_X6_carryOut {E : zG} (hAp : zAp E) (p0 : Int32) (p1 : Int32) (p2 : Int32) (p3 : Int32) (p4 : Int32) (σ : zS) : zM E yX6_carryOut cX6_carryOut 6 (some .int) rm_X6_carryOut (fun r : Int32 => some (.int r)) [.ref (zad E 13), .int p0, .int p1, .int p2, .int p3, .int p4] (f_X6_carryOut p0 p1 p2 p3 p4 σ) σ :=
  zM_of (nn := 0) hAp (by decide) (Nat.le_of_ble_eq_true rfl) rfl rfl (fun Γ C => g_X6_carryOut C p0 p1 p2 p3 p4 σ)
set_option maxHeartbeats 4000000 in
set_option maxRecDepth 100000 in
theorem g_X6_step_L52 {E : zG} {Γ : zX} (C : zO E Γ RX6 cX6_step 6 (some .int)) : ∀ (n : Nat) (x1 : Int32) (x2 : Int32) (x3 : Int32) (σ : zS), zJ E Γ rm_X6_step 6 (fun r : Int32 => some (.int r)) (f_X6_step_L52 n x1 x2 x3 σ) σ 52 [some (.ref (zad E 13)), some (.int x1), some (.int x2), some (.int x3), none, none] [] := by
  intro n
  induction n with
  | zero => intro x1 x2 x3 σ; rw [f_X6_step_L52]; exact r_none
  | succ n ih =>
    intro x1 x2 x3 σ
    rw [f_X6_step_L52]
    refine r_iload_n (pc := 52) C dX6_step_52 rfl ?_
    refine r_getsN (pc := 53) C (st_0 E) lk_fn_X6_107 dX6_step_53 ?_
    refine r_iload_n (pc := 56) C dX6_step_56 rfl ?_
    refine r_tload (pc := 57) C (st_0 E) dX6_step_57 ?_
    refine r_icmp_ge (pc := 58) (tgt := 118) C dX6_step_58 (by decide) (fun _ => ?_) (fun _ => ?_)
    · refine r_aload_n (pc := 118) C dX6_step_118 rfl ?_
      refine r_get (pc := 119) C K_X6 13 3 (by decide) rfl (by decide) lk_f_X6_12 rfl dX6_step_119 ?_
      refine r_callV (pc := 122) C 14 (c_X2_top (zO.ap C)  _) lk_c_X2_top lk_i_X2 lk_m_X6_92 lk_n_X2_top lk_v_X2_top (n := 0) (by decide +kernel) rfl ⟨rfl, rfl⟩ (by decide) (by decide) rfl rfl rfl (Nat.le_of_ble_eq_true rfl) ⟨Nat.zero_le _, Nat.zero_le _⟩ dX6_step_122 (fun v5 s5 _ => ?_)
      refine r_op (fun _ => ?_) (fun v6 h2 _ => ?_)
      · refine r_iload_n (pc := 125) C dX6_step_125 rfl ?_
        refine r_iconst (pc := 126) (v := 1) C dX6_step_126 (by decide) ?_
        refine r_iadd (pc := 127) C dX6_step_127 ?_
        exact r_none
      · refine r_iload_n (pc := 125) C dX6_step_125 rfl ?_
        refine r_iconst (pc := 126) (v := 1) C dX6_step_126 (by decide) ?_
        refine r_iadd (pc := 127) C dX6_step_127 ?_
        refine r_putN (pc := 128) C K_X1 (16 + 2 * v6) 3 (lt_F h2) (ly_F h2 _) (by decide) lk_fn_X6_96 rfl rfl (Nat.le_of_ble_eq_true rfl) (ly_Fs h2 _ 3 _ (by decide)) dX6_step_128 (fun s6 _ => ?_)
        refine r_aload_n (pc := 131) C dX6_step_131 rfl ?_
        refine r_iload_n (pc := 132) C dX6_step_132 rfl ?_
        refine r_aload_n (pc := 133) C dX6_step_133 rfl ?_
        refine r_get (pc := 134) C K_X6 13 2 (by decide) rfl (by decide) lk_f_X6_44 rfl dX6_step_134 ?_
        refine r_getN (pc := 137) C K_X5 5 2 (by decide) rfl (by decide) lk_fn_X6_116 rfl dX6_step_137 ?_
        refine r_iload_n (pc := 140) C dX6_step_140 rfl ?_
        refine r_iald (pc := 141) (t0 := 0) C 8 (by decide) rfl rfl dX6_step_141 ?_
        refine r_aload_n (pc := 142) C dX6_step_142 rfl ?_
        refine r_get (pc := 143) C K_X6 13 6 (by decide) rfl (by decide) lk_f_X6_29 rfl dX6_step_143 ?_
        refine r_iconst (pc := 146) (v := 0) C dX6_step_146 (by decide) ?_
        refine r_iald (pc := 147) (t0 := 0) C 44 (by decide) rfl rfl dX6_step_147 ?_
        refine r_aload_n (pc := 148) C dX6_step_148 rfl ?_
        refine r_get (pc := 149) C K_X6 13 6 (by decide) rfl (by decide) lk_f_X6_29 rfl dX6_step_149 ?_
        refine r_iconst (pc := 152) (v := 1) C dX6_step_152 (by decide) ?_
        refine r_iald (pc := 153) (t0 := 0) C 44 (by decide) rfl rfl dX6_step_153 ?_
        refine r_aload_n (pc := 154) C dX6_step_154 rfl ?_
        refine r_get (pc := 155) C K_X6 13 6 (by decide) rfl (by decide) lk_f_X6_29 rfl dX6_step_155 ?_
        refine r_iconst (pc := 158) (v := 2) C dX6_step_158 (by decide) ?_
        refine r_iald (pc := 159) (t0 := 0) C 44 (by decide) rfl rfl dX6_step_159 ?_
        refine r_callV (pc := 160) C 13 (c_X6_carryOut (zO.ap C) _ _ _ _ _ _) lk_c_X6_carryOut lk_i_X6 lk_m_X6_119 lk_n_X6_carryOut lk_v_X6_carryOut (n := 5) (by decide +kernel) rfl ⟨rfl, rfl⟩ (by decide) (by decide) rfl rfl rfl (Nat.le_of_ble_eq_true rfl) ⟨Nat.zero_le _, Nat.zero_le _⟩ dX6_step_160 (fun v7 s7 _ => ?_)
        exact r_iret (pc := 163) C dX6_step_163
    · refine r_aload_n (pc := 61) C dX6_step_61 rfl ?_
      refine r_get (pc := 62) C K_X6 13 2 (by decide) rfl (by decide) lk_f_X6_44 rfl dX6_step_62 ?_
      refine r_getN (pc := 65) C K_X5 5 1 (by decide) rfl (by decide) lk_fn_X6_110 rfl dX6_step_65 ?_
      refine r_iconst (pc := 68) (v := 3) C dX6_step_68 (by decide) ?_
      refine r_iload_n (pc := 69) C dX6_step_69 rfl ?_
      refine r_imul (pc := 70) C dX6_step_70 ?_
      refine r_iload_n (pc := 71) C dX6_step_71 rfl ?_
      refine r_iadd (pc := 72) C dX6_step_72 ?_
      refine r_iald (pc := 73) (t0 := 0) C 7 (by decide) rfl rfl dX6_step_73 ?_
      refine r_leti (fun v8 => ?_)
      refine r_istore (pc := 74) (lv' := [some (.ref (zad E 13)), some (.int x1), some (.int x2), some (.int x3), some (.int v8), none]) C dX6_step_74 (by decide) rfl ?_
      refine r_iload (pc := 76) C dX6_step_76 rfl ?_
      refine r_if_ge (pc := 78) (tgt := 92) C dX6_step_78 (by decide) (fun _ => ?_) (fun _ => ?_)
      · refine r_iload (pc := 92) C dX6_step_92 rfl ?_
        refine r_istore (pc := 94) (lv' := [some (.ref (zad E 13)), some (.int x1), some (.int x2), some (.int x3), some (.int v8), some (.int v8)]) C dX6_step_94 (by decide) rfl ?_
        refine r_iload (pc := 96) C dX6_step_96 rfl ?_
        refine r_if_ge (pc := 98) (tgt := 104) C dX6_step_98 (by decide) (fun _ => ?_) (fun _ => ?_)
        · refine r_aload_n (pc := 104) C dX6_step_104 rfl ?_
          refine r_get (pc := 105) C K_X6 13 6 (by decide) rfl (by decide) lk_f_X6_29 rfl dX6_step_105 ?_
          refine r_iload_n (pc := 108) C dX6_step_108 rfl ?_
          refine r_iload (pc := 109) C dX6_step_109 rfl ?_
          refine r_iast (pc := 111) (t0 := 0) C 44 (by decide) rfl (fun _ => rfl) rfl dX6_step_111 (fun s8 _ => ?_)
          refine r_iinc (pc := 112) (lv' := [some (.ref (zad E 13)), some (.int x1), some (.int x2), some (.int (x3 + (1 : Int32))), some (.int v8), some (.int v8)]) C dX6_step_112 (by decide) rfl rfl rfl ?_
          refine r_goto (pc := 115) (tgt := 52) C dX6_step_115 (by decide) ?_
          refine r_mask [true, true, true, true, false, false] (lv' := [some (.ref (zad E 13)), some (.int x1), some (.int x2), some (.int (x3 + (1 : Int32))), none, none]) rfl ?_
          exact ih _ _ _ _
        · refine r_iload (pc := 101) C dX6_step_101 rfl ?_
          exact r_iret (pc := 103) C dX6_step_103
      · refine r_aload_n (pc := 81) C dX6_step_81 rfl ?_
        refine r_iconst (pc := 82) (v := -1) C dX6_step_82 (by decide) ?_
        refine r_iload (pc := 83) C dX6_step_83 rfl ?_
        refine r_isub (pc := 85) C dX6_step_85 ?_
        refine r_callV (pc := 86) C 13 (c_X6_ask (zO.ap C) _ _) lk_c_X6_ask lk_i_X6 lk_m_X6_113 lk_n_X6_ask lk_v_X6_ask (n := 1) (by decide +kernel) rfl ⟨rfl, rfl⟩ (by decide) (by decide) rfl rfl rfl (Nat.le_of_ble_eq_true rfl) ⟨Nat.zero_le _, Nat.zero_le _⟩ dX6_step_86 (fun v9 s9 _ => ?_)
        refine r_goto (pc := 89) (tgt := 94) C dX6_step_89 (by decide) ?_
        refine r_istore (pc := 94) (lv' := [some (.ref (zad E 13)), some (.int x1), some (.int x2), some (.int x3), some (.int v8), some (.int v9)]) C dX6_step_94 (by decide) rfl ?_
        refine r_iload (pc := 96) C dX6_step_96 rfl ?_
        refine r_if_ge (pc := 98) (tgt := 104) C dX6_step_98 (by decide) (fun _ => ?_) (fun _ => ?_)
        · refine r_aload_n (pc := 104) C dX6_step_104 rfl ?_
          refine r_get (pc := 105) C K_X6 13 6 (by decide) rfl (by decide) lk_f_X6_29 rfl dX6_step_105 ?_
          refine r_iload_n (pc := 108) C dX6_step_108 rfl ?_
          refine r_iload (pc := 109) C dX6_step_109 rfl ?_
          refine r_iast (pc := 111) (t0 := 0) C 44 (by decide) rfl (fun _ => rfl) rfl dX6_step_111 (fun s10 _ => ?_)
          refine r_iinc (pc := 112) (lv' := [some (.ref (zad E 13)), some (.int x1), some (.int x2), some (.int (x3 + (1 : Int32))), some (.int v8), some (.int v9)]) C dX6_step_112 (by decide) rfl rfl rfl ?_
          refine r_goto (pc := 115) (tgt := 52) C dX6_step_115 (by decide) ?_
          refine r_mask [true, true, true, true, false, false] (lv' := [some (.ref (zad E 13)), some (.int x1), some (.int x2), some (.int (x3 + (1 : Int32))), none, none]) rfl ?_
          exact ih _ _ _ _
        · refine r_iload (pc := 101) C dX6_step_101 rfl ?_
          exact r_iret (pc := 103) C dX6_step_103
set_option maxHeartbeats 4000000 in
set_option maxRecDepth 100000 in
theorem g_X6_step {E : zG} {Γ : zX} (C : zO E Γ RX6 cX6_step 6 (some .int)) (σ : zS) : zJ E Γ rm_X6_step 6 (fun r : Int32 => some (.int r)) (f_X6_step σ) σ 0 [some (.ref (zad E 13)), none, none, none, none, none] [] := by
  unfold f_X6_step
  refine r_aload_n (pc := 0) C dX6_step_0 rfl ?_
  refine r_dup (pc := 1) C dX6_step_1 rfl ?_
  refine r_get (pc := 2) C K_X6 13 10 (by decide) rfl (by decide) lk_f_X6_63 rfl dX6_step_2 ?_
  refine r_iconst (pc := 5) (v := 1) C dX6_step_5 (by decide) ?_
  refine r_iadd (pc := 6) C dX6_step_6 ?_
  refine r_put (pc := 7) C K_X6 13 10 (by decide) rfl (by decide) lk_f_X6_63 rfl rfl (Nat.le_of_ble_eq_true rfl) rfl dX6_step_7 (fun s1 _ => ?_)
  refine r_aload_n (pc := 10) C dX6_step_10 rfl ?_
  refine r_iconst (pc := 11) (v := -1) C dX6_step_11 (by decide) ?_
  refine r_put (pc := 12) C K_X6 13 16 (by decide) rfl (by decide) lk_f_X6_89 rfl rfl (Nat.le_of_ble_eq_true rfl) rfl dX6_step_12 (fun s2 _ => ?_)
  refine r_aload_n (pc := 15) C dX6_step_15 rfl ?_
  refine r_get (pc := 16) C K_X6 13 3 (by decide) rfl (by decide) lk_f_X6_12 rfl dX6_step_16 ?_
  refine r_callV (pc := 19) C 14 (c_X2_top (zO.ap C)  _) lk_c_X2_top lk_i_X2 lk_m_X6_92 lk_n_X2_top lk_v_X2_top (n := 0) (by decide +kernel) rfl ⟨rfl, rfl⟩ (by decide) (by decide) rfl rfl rfl (Nat.le_of_ble_eq_true rfl) ⟨Nat.zero_le _, Nat.zero_le _⟩ dX6_step_19 (fun v1 s3 _ => ?_)
  refine r_op (fun _ => ?_) (fun v2 h1 _ => ?_)
  · exact r_none
  · refine r_getN (pc := 22) C K_X1 (16 + 2 * v2) 3 (lt_F h1) (ly_F h1 _) (by decide) lk_fn_X6_96 rfl dX6_step_22 ?_
    refine r_leti (fun v3 => ?_)
    refine r_istore_n (pc := 25) (lv' := [some (.ref (zad E 13)), some (.int v3), none, none, none, none]) C dX6_step_25 (by decide) rfl ?_
    refine r_aload_n (pc := 26) C dX6_step_26 rfl ?_
    refine r_get (pc := 27) C K_X6 13 2 (by decide) rfl (by decide) lk_f_X6_44 rfl dX6_step_27 ?_
    refine r_iload_n (pc := 30) C dX6_step_30 rfl ?_
    refine r_callV (pc := 31) C 5 (c_X5_opAt (zO.ap C) _ _) lk_c_X5_opAt lk_i_X5 lk_m_X6_101 lk_n_X5_opAt lk_v_X5_opAt (n := 1) (by decide +kernel) rfl ⟨rfl, rfl⟩ (by decide) (by decide) rfl rfl rfl (Nat.le_of_ble_eq_true rfl) ⟨Nat.zero_le _, Nat.zero_le _⟩ dX6_step_31 (fun v4 s4 _ => ?_)
    refine r_istore_n (pc := 34) (lv' := [some (.ref (zad E 13)), some (.int v3), some (.int v4), none, none, none]) C dX6_step_34 (by decide) rfl ?_
    refine r_iload_n (pc := 35) C dX6_step_35 rfl ?_
    refine r_if_lt (pc := 36) (tgt := 47) C dX6_step_36 (by decide) (fun _ => ?_) (fun _ => ?_)
    · refine r_bipush (pc := 47) (v := -20) C dX6_step_47 (by decide) ?_
      exact r_iret (pc := 49) C dX6_step_49
    · refine r_iload_n (pc := 39) C dX6_step_39 rfl ?_
      refine r_getsN (pc := 40) C (st_0 E) lk_fn_X6_107 dX6_step_40 ?_
      refine r_tlen (pc := 43) (v := 33) C (st_0 E) (by decide) dX6_step_43 ?_
      refine r_icmp_lt (pc := 44) (tgt := 50) C dX6_step_44 (by decide) (fun _ => ?_) (fun _ => ?_)
      · refine r_iconst (pc := 50) (v := 0) C dX6_step_50 (by decide) ?_
        refine r_istore_n (pc := 51) (lv' := [some (.ref (zad E 13)), some (.int v3), some (.int v4), some (.int (0 : Int32)), none, none]) C dX6_step_51 (by decide) rfl ?_
        exact g_X6_step_L52 C zF _ _ _ _
      · refine r_bipush (pc := 47) (v := -20) C dX6_step_47 (by decide) ?_
        exact r_iret (pc := 49) C dX6_step_49
theorem c_X6_step {E : zG} (hAp : zAp E) (σ : zS) : zM E yX6_step cX6_step 6 (some .int) rm_X6_step (fun r : Int32 => some (.int r)) [.ref (zad E 13)] (f_X6_step σ) σ :=
  zM_of (nn := 5) hAp (by decide) (Nat.le_of_ble_eq_true rfl) rfl rfl (fun Γ C => g_X6_step C σ)
set_option maxHeartbeats 4000000 in
set_option maxRecDepth 100000 in
theorem g_X6_set {E : zG} {Γ : zX} (C : zO E Γ RX6 cX6_set 3 (some .int)) (p0 : Int32) (p1 : Int32) (σ : zS) : zJ E Γ rm_X6_set 3 (fun r : Int32 => some (.int r)) (f_X6_set p0 p1 σ) σ 0 [some (.ref (zad E 13)), some (.int p0), some (.int p1)] [] := by
  unfold f_X6_set
  refine r_iload_n (pc := 0) C dX6_set_0 rfl ?_
  refine r_if_ne (pc := 1) (tgt := 13) C dX6_set_1 (by decide) (fun _ => ?_) (fun _ => ?_)
  · refine r_aload_n (pc := 4) C dX6_set_4 rfl ?_
    refine r_get (pc := 5) C K_X6 13 3 (by decide) rfl (by decide) lk_f_X6_12 rfl dX6_set_5 ?_
    refine r_iload_n (pc := 8) C dX6_set_8 rfl ?_
    refine r_callV (pc := 9) C 14 (c_X2_push (zO.ap C) _ _) lk_c_X2_push lk_i_X2 lk_m_X6_168 lk_n_X2_push lk_v_X2_push (n := 1) (by decide +kernel) rfl ⟨rfl, rfl⟩ (by decide) (by decide) rfl rfl rfl (Nat.le_of_ble_eq_true rfl) ⟨Nat.zero_le _, Nat.zero_le _⟩ dX6_set_9 (fun v6 s5 _ => ?_)
    exact r_iret (pc := 12) C dX6_set_12
  · refine r_iload_n (pc := 13) C dX6_set_13 rfl ?_
    refine r_bipush (pc := 14) (v := 16) C dX6_set_14 (by decide) ?_
    refine r_icmp_ge (pc := 16) (tgt := 32) C dX6_set_16 (by decide) (fun _ => ?_) (fun _ => ?_)
    · refine r_aload_n (pc := 32) C dX6_set_32 rfl ?_
      refine r_get (pc := 33) C K_X6 13 0 (by decide) rfl (by decide) lk_f_X6_36 rfl dX6_set_33 ?_
      refine r_aload_n (pc := 36) C dX6_set_36 rfl ?_
      refine r_iload_n (pc := 37) C dX6_set_37 rfl ?_
      refine r_callV (pc := 38) C 13 (c_X6_placeOfGlobal (zO.ap C) _ _) lk_c_X6_placeOfGlobal lk_i_X6 lk_m_X6_210 lk_n_X6_placeOfGlobal lk_v_X6_placeOfGlobal (n := 1) (by decide +kernel) rfl ⟨rfl, rfl⟩ (by decide) (by decide) rfl rfl rfl (Nat.le_of_ble_eq_true rfl) ⟨Nat.zero_le _, Nat.zero_le _⟩ dX6_set_38 (fun v1 s1 _ => ?_)
      refine r_iload_n (pc := 41) C dX6_set_41 rfl ?_
      refine r_iconst (pc := 42) (v := 0) C dX6_set_42 (by decide) ?_
      refine r_callV (pc := 43) C 1 (c_X3_setWord (zO.ap C) _ _ _ _) lk_c_X3_setWord lk_i_X3 lk_m_X6_158 lk_n_X3_setWord lk_v_X3_setWord (n := 3) (by decide +kernel) rfl ⟨rfl, rfl⟩ (by decide) (by decide) rfl rfl rfl (Nat.le_of_ble_eq_true rfl) ⟨Nat.zero_le _, Nat.zero_le _⟩ dX6_set_43 (fun v2 s2 _ => ?_)
      exact r_iret (pc := 46) C dX6_set_46
    · refine r_aload_n (pc := 19) C dX6_set_19 rfl ?_
      refine r_get (pc := 20) C K_X6 13 3 (by decide) rfl (by decide) lk_f_X6_12 rfl dX6_set_20 ?_
      refine r_callV (pc := 23) C 14 (c_X2_top (zO.ap C)  _) lk_c_X2_top lk_i_X2 lk_m_X6_92 lk_n_X2_top lk_v_X2_top (n := 0) (by decide +kernel) rfl ⟨rfl, rfl⟩ (by decide) (by decide) rfl rfl rfl (Nat.le_of_ble_eq_true rfl) ⟨Nat.zero_le _, Nat.zero_le _⟩ dX6_set_23 (fun v3 s3 _ => ?_)
      refine r_op (fun _ => ?_) (fun v4 h1 _ => ?_)
      · refine r_iload_n (pc := 26) C dX6_set_26 rfl ?_
        refine r_iload_n (pc := 27) C dX6_set_27 rfl ?_
        exact r_none
      · refine r_iload_n (pc := 26) C dX6_set_26 rfl ?_
        refine r_iload_n (pc := 27) C dX6_set_27 rfl ?_
        refine r_callV (pc := 28) C (16 + 2 * v4) (c_X1_setLocal (zO.ap C) h1 _ _ _) lk_c_X1_setLocal lk_i_X1 lk_m_X6_213 lk_n_X1_setLocal lk_v_X1_setLocal (n := 2) (by decide +kernel) rfl ⟨rfl, rfl⟩ (by decide) (lt_F h1) (ly_F h1 _) rfl rfl (Nat.le_of_ble_eq_true rfl) ⟨Nat.zero_le _, Nat.zero_le _⟩ dX6_set_28 (fun v5 s4 _ => ?_)
        exact r_iret (pc := 31) C dX6_set_31
theorem c_X6_set {E : zG} (hAp : zAp E) (p0 : Int32) (p1 : Int32) (σ : zS) : zM E yX6_set cX6_set 3 (some .int) rm_X6_set (fun r : Int32 => some (.int r)) [.ref (zad E 13), .int p0, .int p1] (f_X6_set p0 p1 σ) σ :=
  zM_of (nn := 0) hAp (by decide) (Nat.le_of_ble_eq_true rfl) rfl rfl (fun Γ C => g_X6_set C p0 p1 σ)
set_option maxHeartbeats 4000000 in
set_option maxRecDepth 100000 in
theorem g_X6_keep {E : zG} {Γ : zX} (C : zO E Γ RX6 cX6_keep 2 (some .int)) (p0 : Int32) (σ : zS) : zJ E Γ rm_X6_keep 2 (fun r : Int32 => some (.int r)) (f_X6_keep p0 σ) σ 0 [some (.ref (zad E 13)), some (.int p0)] [] := by
  unfold f_X6_keep
  refine r_iload_n (pc := 0) C dX6_keep_0 rfl ?_
  refine r_if_lt (pc := 1) (tgt := 12) C dX6_keep_1 (by decide) (fun _ => ?_) (fun _ => ?_)
  · refine r_iload_n (pc := 12) C dX6_keep_12 rfl ?_
    refine r_goto (pc := 13) (tgt := 25) C dX6_keep_13 (by decide) ?_
    exact r_iret (pc := 25) C dX6_keep_25
  · refine r_aload_n (pc := 4) C dX6_keep_4 rfl ?_
    refine r_get (pc := 5) C K_X6 13 16 (by decide) rfl (by decide) lk_f_X6_89 rfl dX6_keep_5 ?_
    refine r_iconst (pc := 8) (v := -1) C dX6_keep_8 (by decide) ?_
    refine r_icmp_ne (pc := 9) (tgt := 16) C dX6_keep_9 (by decide) (fun _ => ?_) (fun _ => ?_)
    · refine r_iload_n (pc := 12) C dX6_keep_12 rfl ?_
      refine r_goto (pc := 13) (tgt := 25) C dX6_keep_13 (by decide) ?_
      exact r_iret (pc := 25) C dX6_keep_25
    · refine r_aload_n (pc := 16) C dX6_keep_16 rfl ?_
      refine r_aload_n (pc := 17) C dX6_keep_17 rfl ?_
      refine r_get (pc := 18) C K_X6 13 16 (by decide) rfl (by decide) lk_f_X6_89 rfl dX6_keep_18 ?_
      refine r_iload_n (pc := 21) C dX6_keep_21 rfl ?_
      refine r_callV (pc := 22) C 13 (c_X6_set (zO.ap C) _ _ _) lk_c_X6_set lk_i_X6 lk_m_X6_129 lk_n_X6_set lk_v_X6_set (n := 2) (by decide +kernel) rfl ⟨rfl, rfl⟩ (by decide) (by decide) rfl rfl rfl (Nat.le_of_ble_eq_true rfl) ⟨Nat.zero_le _, Nat.zero_le _⟩ dX6_keep_22 (fun v1 s1 _ => ?_)
      exact r_iret (pc := 25) C dX6_keep_25
theorem c_X6_keep {E : zG} (hAp : zAp E) (p0 : Int32) (σ : zS) : zM E yX6_keep cX6_keep 2 (some .int) rm_X6_keep (fun r : Int32 => some (.int r)) [.ref (zad E 13), .int p0] (f_X6_keep p0 σ) σ :=
  zM_of (nn := 0) hAp (by decide) (Nat.le_of_ble_eq_true rfl) rfl rfl (fun Γ C => g_X6_keep C p0 σ)
set_option maxHeartbeats 4000000 in
set_option maxRecDepth 100000 in
theorem g_X6_raise_L33 {E : zG} {Γ : zX} (C : zO E Γ RX6 cX6_raise 3 (some .int)) : ∀ (n : Nat) (x1 : Int32) (x2 : Int32) (σ : zS), zJ E Γ rm_X6_raise 3 (fun r : Int32 => some (.int r)) (f_X6_raise_L33 n x1 x2 σ) σ 33 [some (.ref (zad E 13)), some (.int x1), some (.int x2)] [] := by
  intro n
  induction n with
  | zero => intro x1 x2 σ; rw [f_X6_raise_L33]; exact r_none
  | succ n ih =>
    intro x1 x2 σ
    rw [f_X6_raise_L33]
    refine r_iload_n (pc := 33) C dX6_raise_33 rfl ?_
    refine r_if_le (pc := 34) (tgt := 71) C dX6_raise_34 (by decide) (fun _ => ?_) (fun _ => ?_)
    · refine r_aload_n (pc := 71) C dX6_raise_71 rfl ?_
      refine r_get (pc := 72) C K_X6 13 3 (by decide) rfl (by decide) lk_f_X6_12 rfl dX6_raise_72 ?_
      refine r_getN (pc := 75) C K_X2 14 3 (by decide) rfl (by decide) lk_fn_X6_175 rfl dX6_raise_75 ?_
      refine r_if_ne (pc := 78) (tgt := 95) C dX6_raise_78 (by decide) (fun _ => ?_) (fun _ => ?_)
      · refine r_aload_n (pc := 81) C dX6_raise_81 rfl ?_
        refine r_bipush (pc := 82) (v := -10) C dX6_raise_82 (by decide) ?_
        refine r_iload_n (pc := 84) C dX6_raise_84 rfl ?_
        refine r_isub (pc := 85) C dX6_raise_85 ?_
        refine r_put (pc := 86) C K_X6 13 13 (by decide) rfl (by decide) lk_f_X6_72 rfl rfl (Nat.le_of_ble_eq_true rfl) rfl dX6_raise_86 (fun s4 _ => ?_)
        refine r_aload_n (pc := 89) C dX6_raise_89 rfl ?_
        refine r_iconst (pc := 90) (v := 2) C dX6_raise_90 (by decide) ?_
        refine r_callV (pc := 91) C 13 (c_X6_end (zO.ap C) _ _) lk_c_X6_end lk_i_X6 lk_m_X6_201 lk_n_X6_end lk_v_X6_end (n := 1) (by decide +kernel) rfl ⟨rfl, rfl⟩ (by decide) (by decide) rfl rfl rfl (Nat.le_of_ble_eq_true rfl) ⟨Nat.zero_le _, Nat.zero_le _⟩ dX6_raise_91 (fun v2 s5 _ => ?_)
        exact r_iret (pc := 94) C dX6_raise_94
      · refine r_aload_n (pc := 95) C dX6_raise_95 rfl ?_
        refine r_dup (pc := 96) C dX6_raise_96 rfl ?_
        refine r_get (pc := 97) C K_X6 13 14 (by decide) rfl (by decide) lk_f_X6_75 rfl dX6_raise_97 ?_
        refine r_iconst (pc := 100) (v := 1) C dX6_raise_100 (by decide) ?_
        refine r_iadd (pc := 101) C dX6_raise_101 ?_
        refine r_put (pc := 102) C K_X6 13 14 (by decide) rfl (by decide) lk_f_X6_75 rfl rfl (Nat.le_of_ble_eq_true rfl) rfl dX6_raise_102 (fun s2 _ => ?_)
        refine r_aload_n (pc := 105) C dX6_raise_105 rfl ?_
        refine r_bipush (pc := 106) (v := -10) C dX6_raise_106 (by decide) ?_
        refine r_iload_n (pc := 108) C dX6_raise_108 rfl ?_
        refine r_isub (pc := 109) C dX6_raise_109 ?_
        refine r_callV (pc := 110) C 13 (c_X6_giveBack (zO.ap C) _ _) lk_c_X6_giveBack lk_i_X6 lk_m_X6_165 lk_n_X6_giveBack lk_v_X6_giveBack (n := 1) (by decide +kernel) rfl ⟨rfl, rfl⟩ (by decide) (by decide) rfl rfl rfl (Nat.le_of_ble_eq_true rfl) ⟨Nat.zero_le _, Nat.zero_le _⟩ dX6_raise_110 (fun v1 s3 _ => ?_)
        exact r_iret (pc := 113) C dX6_raise_113
    · refine r_aload_n (pc := 37) C dX6_raise_37 rfl ?_
      refine r_get (pc := 38) C K_X6 13 2 (by decide) rfl (by decide) lk_f_X6_44 rfl dX6_raise_38 ?_
      refine r_getN (pc := 41) C K_X5 5 7 (by decide) rfl (by decide) lk_fn_X6_241 rfl dX6_raise_41 ?_
      refine r_aload_n (pc := 44) C dX6_raise_44 rfl ?_
      refine r_get (pc := 45) C K_X6 13 3 (by decide) rfl (by decide) lk_f_X6_12 rfl dX6_raise_45 ?_
      refine r_callV (pc := 48) C 14 (c_X2_top (zO.ap C)  _) lk_c_X2_top lk_i_X2 lk_m_X6_92 lk_n_X2_top lk_v_X2_top (n := 0) (by decide +kernel) rfl ⟨rfl, rfl⟩ (by decide) (by decide) rfl rfl rfl (Nat.le_of_ble_eq_true rfl) ⟨Nat.zero_le _, Nat.zero_le _⟩ dX6_raise_48 (fun v3 s6 _ => ?_)
      refine r_op (fun _ => ?_) (fun v4 h1 _ => ?_)
      · exact r_none
      · refine r_getN (pc := 51) C K_X1 (16 + 2 * v4) 2 (lt_F h1) (ly_F h1 _) (by decide) lk_fn_X6_225 rfl dX6_raise_51 ?_
        refine r_zald (pc := 54) (t0 := 1) C 12 (by decide) rfl rfl dX6_raise_54 ?_
        refine r_if_ne (pc := 55) (tgt := 71) C dX6_raise_55 (by decide) (fun _ => ?_) (fun _ => ?_)
        · refine r_aload_n (pc := 58) C dX6_raise_58 rfl ?_
          refine r_iload_n (pc := 59) C dX6_raise_59 rfl ?_
          refine r_iconst (pc := 60) (v := 1) C dX6_raise_60 (by decide) ?_
          refine r_isub (pc := 61) C dX6_raise_61 ?_
          refine r_callV (pc := 62) C 13 (c_X6_leaveDownTo (zO.ap C) _ _) lk_c_X6_leaveDownTo lk_i_X6 lk_m_X6_85 lk_n_X6_leaveDownTo lk_v_X6_leaveDownTo (n := 1) (by decide +kernel) rfl ⟨rfl, rfl⟩ (by decide) (by decide) rfl rfl rfl (Nat.le_of_ble_eq_true rfl) ⟨Nat.zero_le _, Nat.zero_le _⟩ dX6_raise_62 (fun _ s11 _ => ?_)
          refine r_iinc (pc := 65) (lv' := [some (.ref (zad E 13)), some (.int x1), some (.int (x2 + (-1 : Int32)))]) C dX6_raise_65 (by decide) rfl rfl rfl ?_
          refine r_goto (pc := 68) (tgt := 33) C dX6_raise_68 (by decide) ?_
          exact ih _ _ _
        · refine r_aload_n (pc := 71) C dX6_raise_71 rfl ?_
          refine r_get (pc := 72) C K_X6 13 3 (by decide) rfl (by decide) lk_f_X6_12 rfl dX6_raise_72 ?_
          refine r_getN (pc := 75) C K_X2 14 3 (by decide) rfl (by decide) lk_fn_X6_175 rfl dX6_raise_75 ?_
          refine r_if_ne (pc := 78) (tgt := 95) C dX6_raise_78 (by decide) (fun _ => ?_) (fun _ => ?_)
          · refine r_aload_n (pc := 81) C dX6_raise_81 rfl ?_
            refine r_bipush (pc := 82) (v := -10) C dX6_raise_82 (by decide) ?_
            refine r_iload_n (pc := 84) C dX6_raise_84 rfl ?_
            refine r_isub (pc := 85) C dX6_raise_85 ?_
            refine r_put (pc := 86) C K_X6 13 13 (by decide) rfl (by decide) lk_f_X6_72 rfl rfl (Nat.le_of_ble_eq_true rfl) rfl dX6_raise_86 (fun s9 _ => ?_)
            refine r_aload_n (pc := 89) C dX6_raise_89 rfl ?_
            refine r_iconst (pc := 90) (v := 2) C dX6_raise_90 (by decide) ?_
            refine r_callV (pc := 91) C 13 (c_X6_end (zO.ap C) _ _) lk_c_X6_end lk_i_X6 lk_m_X6_201 lk_n_X6_end lk_v_X6_end (n := 1) (by decide +kernel) rfl ⟨rfl, rfl⟩ (by decide) (by decide) rfl rfl rfl (Nat.le_of_ble_eq_true rfl) ⟨Nat.zero_le _, Nat.zero_le _⟩ dX6_raise_91 (fun v6 s10 _ => ?_)
            exact r_iret (pc := 94) C dX6_raise_94
          · refine r_aload_n (pc := 95) C dX6_raise_95 rfl ?_
            refine r_dup (pc := 96) C dX6_raise_96 rfl ?_
            refine r_get (pc := 97) C K_X6 13 14 (by decide) rfl (by decide) lk_f_X6_75 rfl dX6_raise_97 ?_
            refine r_iconst (pc := 100) (v := 1) C dX6_raise_100 (by decide) ?_
            refine r_iadd (pc := 101) C dX6_raise_101 ?_
            refine r_put (pc := 102) C K_X6 13 14 (by decide) rfl (by decide) lk_f_X6_75 rfl rfl (Nat.le_of_ble_eq_true rfl) rfl dX6_raise_102 (fun s7 _ => ?_)
            refine r_aload_n (pc := 105) C dX6_raise_105 rfl ?_
            refine r_bipush (pc := 106) (v := -10) C dX6_raise_106 (by decide) ?_
            refine r_iload_n (pc := 108) C dX6_raise_108 rfl ?_
            refine r_isub (pc := 109) C dX6_raise_109 ?_
            refine r_callV (pc := 110) C 13 (c_X6_giveBack (zO.ap C) _ _) lk_c_X6_giveBack lk_i_X6 lk_m_X6_165 lk_n_X6_giveBack lk_v_X6_giveBack (n := 1) (by decide +kernel) rfl ⟨rfl, rfl⟩ (by decide) (by decide) rfl rfl rfl (Nat.le_of_ble_eq_true rfl) ⟨Nat.zero_le _, Nat.zero_le _⟩ dX6_raise_110 (fun v5 s8 _ => ?_)
            exact r_iret (pc := 113) C dX6_raise_113
set_option maxHeartbeats 4000000 in
set_option maxRecDepth 100000 in
theorem g_X6_raise {E : zG} {Γ : zX} (C : zO E Γ RX6 cX6_raise 3 (some .int)) (p0 : Int32) (σ : zS) : zJ E Γ rm_X6_raise 3 (fun r : Int32 => some (.int r)) (f_X6_raise p0 σ) σ 0 [some (.ref (zad E 13)), some (.int p0), none] [] := by
  unfold f_X6_raise
  refine r_aload_n (pc := 0) C dX6_raise_0 rfl ?_
  refine r_get (pc := 1) C K_X6 13 11 (by decide) rfl (by decide) lk_f_X6_66 rfl dX6_raise_1 ?_
  refine r_bipush (pc := 4) (v := 12) C dX6_raise_4 (by decide) ?_
  refine r_icmp_lt (pc := 6) (tgt := 15) C dX6_raise_6 (by decide) (fun _ => ?_) (fun _ => ?_)
  · refine r_aload_n (pc := 15) C dX6_raise_15 rfl ?_
    refine r_dup (pc := 16) C dX6_raise_16 rfl ?_
    refine r_get (pc := 17) C K_X6 13 11 (by decide) rfl (by decide) lk_f_X6_66 rfl dX6_raise_17 ?_
    refine r_iconst (pc := 20) (v := 1) C dX6_raise_20 (by decide) ?_
    refine r_iadd (pc := 21) C dX6_raise_21 ?_
    refine r_put (pc := 22) C K_X6 13 11 (by decide) rfl (by decide) lk_f_X6_66 rfl rfl (Nat.le_of_ble_eq_true rfl) rfl dX6_raise_22 (fun s1 _ => ?_)
    refine r_aload_n (pc := 25) C dX6_raise_25 rfl ?_
    refine r_get (pc := 26) C K_X6 13 3 (by decide) rfl (by decide) lk_f_X6_12 rfl dX6_raise_26 ?_
    refine r_getN (pc := 29) C K_X2 14 3 (by decide) rfl (by decide) lk_fn_X6_175 rfl dX6_raise_29 ?_
    refine r_istore_n (pc := 32) (lv' := [some (.ref (zad E 13)), some (.int p0), some (.int (s1 14 3))]) C dX6_raise_32 (by decide) rfl ?_
    exact g_X6_raise_L33 C zF _ _ _
  · refine r_aload_n (pc := 9) C dX6_raise_9 rfl ?_
    refine r_iconst (pc := 10) (v := 3) C dX6_raise_10 (by decide) ?_
    refine r_callV (pc := 11) C 13 (c_X6_end (zO.ap C) _ _) lk_c_X6_end lk_i_X6 lk_m_X6_201 lk_n_X6_end lk_v_X6_end (n := 1) (by decide +kernel) rfl ⟨rfl, rfl⟩ (by decide) (by decide) rfl rfl rfl (Nat.le_of_ble_eq_true rfl) ⟨Nat.zero_le _, Nat.zero_le _⟩ dX6_raise_11 (fun v7 s12 _ => ?_)
    exact r_iret (pc := 14) C dX6_raise_14
theorem c_X6_raise {E : zG} (hAp : zAp E) (p0 : Int32) (σ : zS) : zM E yX6_raise cX6_raise 3 (some .int) rm_X6_raise (fun r : Int32 => some (.int r)) [.ref (zad E 13), .int p0] (f_X6_raise p0 σ) σ :=
  zM_of (nn := 1) hAp (by decide) (Nat.le_of_ble_eq_true rfl) rfl rfl (fun Γ C => g_X6_raise C p0 σ)
set_option maxHeartbeats 4000000 in
set_option maxRecDepth 100000 in
theorem g_X6_settle_L8 {E : zG} {Γ : zX} (C : zO E Γ RX6 cX6_settle 4 none) : ∀ (n : Nat) (x1 : Int32) (x2 : Int32) (x3 : Int32) (σ : zS), zJ E Γ rm_X6_settle 4 (fun _ : Unit => none) (f_X6_settle_L8 n x1 x2 x3 σ) σ 8 [some (.ref (zad E 13)), some (.int x1), some (.int x2), some (.int x3)] [] := by
  intro n
  induction n with
  | zero => intro x1 x2 x3 σ; rw [f_X6_settle_L8]; exact r_none
  | succ n ih =>
    intro x1 x2 x3 σ
    rw [f_X6_settle_L8]
    refine r_iload_n (pc := 8) C dX6_settle_8 rfl ?_
    refine r_bipush (pc := 9) (v := 12) C dX6_settle_9 (by decide) ?_
    refine r_icmp_ge (pc := 11) (tgt := 34) C dX6_settle_11 (by decide) (fun _ => ?_) (fun _ => ?_)
    · exact r_vret (pc := 34) C dX6_settle_34
    · refine r_iload_n (pc := 14) C dX6_settle_14 rfl ?_
      refine r_if_ge (pc := 15) (tgt := 34) C dX6_settle_15 (by decide) (fun _ => ?_) (fun _ => ?_)
      · exact r_vret (pc := 34) C dX6_settle_34
      · refine r_aload_n (pc := 18) C dX6_settle_18 rfl ?_
        refine r_aload_n (pc := 19) C dX6_settle_19 rfl ?_
        refine r_iload_n (pc := 20) C dX6_settle_20 rfl ?_
        refine r_callV (pc := 21) C 13 (c_X6_raise (zO.ap C) _ _) lk_c_X6_raise lk_i_X6 lk_m_X6_126 lk_n_X6_raise lk_v_X6_raise (n := 1) (by decide +kernel) rfl ⟨rfl, rfl⟩ (by decide) (by decide) rfl rfl rfl (Nat.le_of_ble_eq_true rfl) ⟨Nat.zero_le _, Nat.zero_le _⟩ dX6_settle_21 (fun v2 s2 _ => ?_)
        refine r_callV (pc := 24) C 13 (c_X6_keep (zO.ap C) _ _) lk_c_X6_keep lk_i_X6 lk_m_X6_123 lk_n_X6_keep lk_v_X6_keep (n := 1) (by decide +kernel) rfl ⟨rfl, rfl⟩ (by decide) (by decide) rfl rfl rfl (Nat.le_of_ble_eq_true rfl) ⟨Nat.zero_le _, Nat.zero_le _⟩ dX6_settle_24 (fun v3 s3 _ => ?_)
        refine r_istore_n (pc := 27) (lv' := [some (.ref (zad E 13)), some (.int x1), some (.int v3), some (.int x3)]) C dX6_settle_27 (by decide) rfl ?_
        refine r_iinc (pc := 28) (lv' := [some (.ref (zad E 13)), some (.int x1), some (.int v3), some (.int (x3 + (1 : Int32)))]) C dX6_settle_28 (by decide) rfl rfl rfl ?_
        refine r_goto (pc := 31) (tgt := 8) C dX6_settle_31 (by decide) ?_
        exact ih _ _ _ _
set_option maxHeartbeats 4000000 in
set_option maxRecDepth 100000 in
theorem g_X6_settle {E : zG} {Γ : zX} (C : zO E Γ RX6 cX6_settle 4 none) (p0 : Int32) (σ : zS) : zJ E Γ rm_X6_settle 4 (fun _ : Unit => none) (f_X6_settle p0 σ) σ 0 [some (.ref (zad E 13)), some (.int p0), none, none] [] := by
  unfold f_X6_settle
  refine r_aload_n (pc := 0) C dX6_settle_0 rfl ?_
  refine r_iload_n (pc := 1) C dX6_settle_1 rfl ?_
  refine r_callV (pc := 2) C 13 (c_X6_keep (zO.ap C) _ _) lk_c_X6_keep lk_i_X6 lk_m_X6_123 lk_n_X6_keep lk_v_X6_keep (n := 1) (by decide +kernel) rfl ⟨rfl, rfl⟩ (by decide) (by decide) rfl rfl rfl (Nat.le_of_ble_eq_true rfl) ⟨Nat.zero_le _, Nat.zero_le _⟩ dX6_settle_2 (fun v1 s1 _ => ?_)
  refine r_istore_n (pc := 5) (lv' := [some (.ref (zad E 13)), some (.int p0), some (.int v1), none]) C dX6_settle_5 (by decide) rfl ?_
  refine r_iconst (pc := 6) (v := 0) C dX6_settle_6 (by decide) ?_
  refine r_istore_n (pc := 7) (lv' := [some (.ref (zad E 13)), some (.int p0), some (.int v1), some (.int (0 : Int32))]) C dX6_settle_7 (by decide) rfl ?_
  exact g_X6_settle_L8 C zF _ _ _ _
theorem c_X6_settle {E : zG} (hAp : zAp E) (p0 : Int32) (σ : zS) : zM E yX6_settle cX6_settle 4 none rm_X6_settle (fun _ : Unit => none) [.ref (zad E 13), .int p0] (f_X6_settle p0 σ) σ :=
  zM_of (nn := 2) hAp (by decide) (Nat.le_of_ble_eq_true rfl) rfl rfl (fun Γ C => g_X6_settle C p0 σ)
set_option maxHeartbeats 4000000 in
set_option maxRecDepth 100000 in
theorem g_X7_size {E : zG} {Γ : zX} (C : zO E Γ RX7 cX7_size 3 (some .int)) (p0 : Int32) (p1 : Int32) (σ : zS) : zJ E Γ rm_X7_size 3 (fun r : Int32 => some (.int r)) (f_X7_size p0 p1 σ) σ 0 [some (.ref (zad E 0)), some (.int p0), some (.int p1)] [] := by
  unfold f_X7_size
  refine r_iload_n (pc := 0) C dX7_size_0 rfl ?_
  refine r_if_lt (pc := 1) (tgt := 20) C dX7_size_1 (by decide) (fun _ => ?_) (fun _ => ?_)
  · refine r_bipush (pc := 20) (v := -2) C dX7_size_20 (by decide) ?_
    exact r_iret (pc := 22) C dX7_size_22
  · refine r_iload_n (pc := 4) C dX7_size_4 rfl ?_
    refine r_sipush (pc := 5) (v := 2000) C dX7_size_5 (by decide) ?_
    refine r_icmp_gt (pc := 8) (tgt := 20) C dX7_size_8 (by decide) (fun _ => ?_) (fun _ => ?_)
    · refine r_bipush (pc := 20) (v := -2) C dX7_size_20 (by decide) ?_
      exact r_iret (pc := 22) C dX7_size_22
    · refine r_iload_n (pc := 11) C dX7_size_11 rfl ?_
      refine r_if_lt (pc := 12) (tgt := 20) C dX7_size_12 (by decide) (fun _ => ?_) (fun _ => ?_)
      · refine r_bipush (pc := 20) (v := -2) C dX7_size_20 (by decide) ?_
        exact r_iret (pc := 22) C dX7_size_22
      · refine r_iload_n (pc := 15) C dX7_size_15 rfl ?_
        refine r_iload_n (pc := 16) C dX7_size_16 rfl ?_
        refine r_icmp_le (pc := 17) (tgt := 23) C dX7_size_17 (by decide) (fun _ => ?_) (fun _ => ?_)
        · refine r_aload_n (pc := 23) C dX7_size_23 rfl ?_
          refine r_get (pc := 24) C K_X7 0 0 (by decide) rfl (by decide) lk_f_X7_12 rfl dX7_size_24 ?_
          refine r_iload_n (pc := 27) C dX7_size_27 rfl ?_
          refine r_iload_n (pc := 28) C dX7_size_28 rfl ?_
          refine r_callV (pc := 29) C 1 (c_X3_begin (zO.ap C) _ _ _) lk_c_X3_begin lk_i_X3 lk_m_X7_39 lk_n_X3_begin lk_v_X3_begin (n := 2) (by decide +kernel) rfl ⟨rfl, rfl⟩ (by decide) (by decide) rfl rfl rfl (Nat.le_of_ble_eq_true rfl) ⟨Nat.zero_le _, Nat.zero_le _⟩ dX7_size_29 (fun _ s1 _ => ?_)
          refine r_iconst (pc := 32) (v := 1) C dX7_size_32 (by decide) ?_
          exact r_iret (pc := 33) C dX7_size_33
        · refine r_bipush (pc := 20) (v := -2) C dX7_size_20 (by decide) ?_
          exact r_iret (pc := 22) C dX7_size_22
theorem c_X7_size {E : zG} (hAp : zAp E) (p0 : Int32) (p1 : Int32) (σ : zS) : zM E yX7_size cX7_size 3 (some .int) rm_X7_size (fun r : Int32 => some (.int r)) [.ref (zad E 0), .int p0, .int p1] (f_X7_size p0 p1 σ) σ :=
  zM_of (nn := 0) hAp (by decide) (Nat.le_of_ble_eq_true rfl) rfl rfl (fun Γ C => g_X7_size C p0 p1 σ)
set_option maxHeartbeats 4000000 in
set_option maxRecDepth 100000 in
theorem g_X7_get {E : zG} {Γ : zX} (C : zO E Γ RX7 cX7_get 3 (some .int)) (p0 : Int32) (p1 : Int32) (σ : zS) : zJ E Γ rm_X7_get 3 (fun r : Int32 => some (.int r)) (f_X7_get p0 p1 σ) σ 0 [some (.ref (zad E 0)), some (.int p0), some (.int p1)] [] := by
  unfold f_X7_get
  refine r_iload_n (pc := 0) C dX7_get_0 rfl ?_
  refine r_if_eq (pc := 1) (tgt := 15) C dX7_get_1 (by decide) (fun _ => ?_) (fun _ => ?_)
  · refine r_aload_n (pc := 15) C dX7_get_15 rfl ?_
    refine r_get (pc := 16) C K_X7 0 0 (by decide) rfl (by decide) lk_f_X7_12 rfl dX7_get_16 ?_
    refine r_iload_n (pc := 19) C dX7_get_19 rfl ?_
    refine r_callV (pc := 20) C 1 (c_X3_byteAt (zO.ap C) _ _) lk_c_X3_byteAt lk_i_X3 lk_m_X7_47 lk_n_X3_byteAt lk_v_X3_byteAt (n := 1) (by decide +kernel) rfl ⟨rfl, rfl⟩ (by decide) (by decide) rfl rfl rfl (Nat.le_of_ble_eq_true rfl) ⟨Nat.zero_le _, Nat.zero_le _⟩ dX7_get_20 (fun v1 s1 _ => ?_)
    exact r_iret (pc := 23) C dX7_get_23
  · refine r_aload_n (pc := 4) C dX7_get_4 rfl ?_
    refine r_get (pc := 5) C K_X7 0 0 (by decide) rfl (by decide) lk_f_X7_12 rfl dX7_get_5 ?_
    refine r_iload_n (pc := 8) C dX7_get_8 rfl ?_
    refine r_callV (pc := 9) C 1 (c_X3_wordAt (zO.ap C) _ _) lk_c_X3_wordAt lk_i_X3 lk_m_X7_43 lk_n_X3_wordAt lk_v_X3_wordAt (n := 1) (by decide +kernel) rfl ⟨rfl, rfl⟩ (by decide) (by decide) rfl rfl rfl (Nat.le_of_ble_eq_true rfl) ⟨Nat.zero_le _, Nat.zero_le _⟩ dX7_get_9 (fun v2 s2 _ => ?_)
    refine r_goto (pc := 12) (tgt := 23) C dX7_get_12 (by decide) ?_
    exact r_iret (pc := 23) C dX7_get_23
theorem c_X7_get {E : zG} (hAp : zAp E) (p0 : Int32) (p1 : Int32) (σ : zS) : zM E yX7_get cX7_get 3 (some .int) rm_X7_get (fun r : Int32 => some (.int r)) [.ref (zad E 0), .int p0, .int p1] (f_X7_get p0 p1 σ) σ :=
  zM_of (nn := 0) hAp (by decide) (Nat.le_of_ble_eq_true rfl) rfl rfl (fun Γ C => g_X7_get C p0 p1 σ)
set_option maxHeartbeats 4000000 in
set_option maxRecDepth 100000 in
theorem g_X7_put {E : zG} {Γ : zX} (C : zO E Γ RX7 cX7_put 5 (some .int)) (p0 : Int32) (p1 : Int32) (p2 : Int32) (p3 : Int32) (σ : zS) : zJ E Γ rm_X7_put 5 (fun r : Int32 => some (.int r)) (f_X7_put p0 p1 p2 p3 σ) σ 0 [some (.ref (zad E 0)), some (.int p0), some (.int p1), some (.int p2), some (.int p3)] [] := by
  unfold f_X7_put
  refine r_iload_n (pc := 0) C dX7_put_0 rfl ?_
  refine r_if_eq (pc := 1) (tgt := 18) C dX7_put_1 (by decide) (fun _ => ?_) (fun _ => ?_)
  · refine r_aload_n (pc := 18) C dX7_put_18 rfl ?_
    refine r_get (pc := 19) C K_X7 0 0 (by decide) rfl (by decide) lk_f_X7_12 rfl dX7_put_19 ?_
    refine r_iload_n (pc := 22) C dX7_put_22 rfl ?_
    refine r_iload_n (pc := 23) C dX7_put_23 rfl ?_
    refine r_iload (pc := 24) C dX7_put_24 rfl ?_
    refine r_callV (pc := 26) C 1 (c_X3_setByte (zO.ap C) _ _ _ _) lk_c_X3_setByte lk_i_X3 lk_m_X7_54 lk_n_X3_setByte lk_v_X3_setByte (n := 3) (by decide +kernel) rfl ⟨rfl, rfl⟩ (by decide) (by decide) rfl rfl rfl (Nat.le_of_ble_eq_true rfl) ⟨Nat.zero_le _, Nat.zero_le _⟩ dX7_put_26 (fun v1 s1 _ => ?_)
    exact r_iret (pc := 29) C dX7_put_29
  · refine r_aload_n (pc := 4) C dX7_put_4 rfl ?_
    refine r_get (pc := 5) C K_X7 0 0 (by decide) rfl (by decide) lk_f_X7_12 rfl dX7_put_5 ?_
    refine r_iload_n (pc := 8) C dX7_put_8 rfl ?_
    refine r_iload_n (pc := 9) C dX7_put_9 rfl ?_
    refine r_iload (pc := 10) C dX7_put_10 rfl ?_
    refine r_callV (pc := 12) C 1 (c_X3_setWord (zO.ap C) _ _ _ _) lk_c_X3_setWord lk_i_X3 lk_m_X7_50 lk_n_X3_setWord lk_v_X3_setWord (n := 3) (by decide +kernel) rfl ⟨rfl, rfl⟩ (by decide) (by decide) rfl rfl rfl (Nat.le_of_ble_eq_true rfl) ⟨Nat.zero_le _, Nat.zero_le _⟩ dX7_put_12 (fun v2 s2 _ => ?_)
    refine r_goto (pc := 15) (tgt := 29) C dX7_put_15 (by decide) ?_
    exact r_iret (pc := 29) C dX7_put_29
theorem c_X7_put {E : zG} (hAp : zAp E) (p0 : Int32) (p1 : Int32) (p2 : Int32) (p3 : Int32) (σ : zS) : zM E yX7_put cX7_put 5 (some .int) rm_X7_put (fun r : Int32 => some (.int r)) [.ref (zad E 0), .int p0, .int p1, .int p2, .int p3] (f_X7_put p0 p1 p2 p3 σ) σ :=
  zM_of (nn := 0) hAp (by decide) (Nat.le_of_ble_eq_true rfl) rfl rfl (fun Γ C => g_X7_put C p0 p1 p2 p3 σ)
set_option maxHeartbeats 4000000 in
set_option maxRecDepth 100000 in
theorem g_X7_copy {E : zG} {Γ : zX} (C : zO E Γ RX7 cX7_copy 4 (some .int)) (p0 : Int32) (p1 : Int32) (p2 : Int32) (σ : zS) : zJ E Γ rm_X7_copy 4 (fun r : Int32 => some (.int r)) (f_X7_copy p0 p1 p2 σ) σ 0 [some (.ref (zad E 0)), some (.int p0), some (.int p1), some (.int p2)] [] := by
  unfold f_X7_copy
  refine r_aload_n (pc := 0) C dX7_copy_0 rfl ?_
  refine r_get (pc := 1) C K_X7 0 0 (by decide) rfl (by decide) lk_f_X7_12 rfl dX7_copy_1 ?_
  refine r_iload_n (pc := 4) C dX7_copy_4 rfl ?_
  refine r_callS (pc := 5) C (c_X7_word (zO.ap C) _ _) lk_c_X7_word lk_i_X7 lk_m_X7_76 lk_s_X7_word (n := 1) (by decide +kernel) rfl ⟨rfl, rfl⟩ (by decide) (Nat.le_of_ble_eq_true rfl) ⟨Nat.zero_le _, Nat.zero_le _⟩ dX7_copy_5 (fun v1 s1 _ => ?_)
  refine r_iload_n (pc := 8) C dX7_copy_8 rfl ?_
  refine r_callS (pc := 9) C (c_X7_word (zO.ap C) _ _) lk_c_X7_word lk_i_X7 lk_m_X7_76 lk_s_X7_word (n := 1) (by decide +kernel) rfl ⟨rfl, rfl⟩ (by decide) (Nat.le_of_ble_eq_true rfl) ⟨Nat.zero_le _, Nat.zero_le _⟩ dX7_copy_9 (fun v2 s2 _ => ?_)
  refine r_iload_n (pc := 12) C dX7_copy_12 rfl ?_
  refine r_callS (pc := 13) C (c_X7_number (zO.ap C) _ _) lk_c_X7_number lk_i_X7 lk_m_X7_64 lk_s_X7_number (n := 1) (by decide +kernel) rfl ⟨rfl, rfl⟩ (by decide) (Nat.le_of_ble_eq_true rfl) ⟨Nat.zero_le _, Nat.zero_le _⟩ dX7_copy_13 (fun v3 s3 _ => ?_)
  refine r_callV (pc := 16) C 1 (c_X3_copyTable (zO.ap C) _ _ _ _) lk_c_X3_copyTable lk_i_X3 lk_m_X7_79 lk_n_X3_copyTable lk_v_X3_copyTable (n := 3) (by decide +kernel) rfl ⟨rfl, rfl⟩ (by decide) (by decide) rfl rfl rfl (Nat.le_of_ble_eq_true rfl) ⟨Nat.zero_le _, Nat.zero_le _⟩ dX7_copy_16 (fun v4 s4 _ => ?_)
  exact r_iret (pc := 19) C dX7_copy_19
theorem c_X7_copy {E : zG} (hAp : zAp E) (p0 : Int32) (p1 : Int32) (p2 : Int32) (σ : zS) : zM E yX7_copy cX7_copy 4 (some .int) rm_X7_copy (fun r : Int32 => some (.int r)) [.ref (zad E 0), .int p0, .int p1, .int p2] (f_X7_copy p0 p1 p2 σ) σ :=
  zM_of (nn := 0) hAp (by decide) (Nat.le_of_ble_eq_true rfl) rfl rfl (fun Γ C => g_X7_copy C p0 p1 p2 σ)
set_option maxHeartbeats 4000000 in
set_option maxRecDepth 100000 in
theorem g_X7_look {E : zG} {Γ : zX} (C : zO E Γ RX7 cX7_look 5 (some .int)) (p0 : Int32) (p1 : Int32) (p2 : Int32) (p3 : Int32) (σ : zS) : zJ E Γ rm_X7_look 5 (fun r : Int32 => some (.int r)) (f_X7_look p0 p1 p2 p3 σ) σ 0 [some (.ref (zad E 0)), some (.int p0), some (.int p1), some (.int p2), some (.int p3)] [] := by
  unfold f_X7_look
  refine r_iload (pc := 0) C dX7_look_0 rfl ?_
  refine r_sipush (pc := 2) (v := 255) C dX7_look_2 (by decide) ?_
  refine r_callS (pc := 5) C (c_X7_isWithin (zO.ap C) _ _ _) lk_c_X7_isWithin lk_i_X7 lk_m_X7_82 lk_s_X7_isWithin (n := 2) (by decide +kernel) rfl ⟨rfl, rfl⟩ (by decide) (Nat.le_of_ble_eq_true rfl) ⟨Nat.zero_le _, Nat.zero_le _⟩ dX7_look_5 (fun v1 s1 _ => ?_)
  refine r_if_ne (pc := 8) (tgt := 14) C dX7_look_8 (by decide) (fun _ => ?_) (fun _ => ?_)
  · refine r_bipush (pc := 11) (v := -2) C dX7_look_11 (by decide) ?_
    exact r_iret (pc := 13) C dX7_look_13
  · refine r_aload_n (pc := 14) C dX7_look_14 rfl ?_
    refine r_get (pc := 15) C K_X7 0 0 (by decide) rfl (by decide) lk_f_X7_12 rfl dX7_look_15 ?_
    refine r_iload_n (pc := 18) C dX7_look_18 rfl ?_
    refine r_callS (pc := 19) C (c_X7_word (zO.ap C) _ _) lk_c_X7_word lk_i_X7 lk_m_X7_76 lk_s_X7_word (n := 1) (by decide +kernel) rfl ⟨rfl, rfl⟩ (by decide) (Nat.le_of_ble_eq_true rfl) ⟨Nat.zero_le _, Nat.zero_le _⟩ dX7_look_19 (fun v2 s2 _ => ?_)
    refine r_iload_n (pc := 22) C dX7_look_22 rfl ?_
    refine r_callS (pc := 23) C (c_X7_word (zO.ap C) _ _) lk_c_X7_word lk_i_X7 lk_m_X7_76 lk_s_X7_word (n := 1) (by decide +kernel) rfl ⟨rfl, rfl⟩ (by decide) (Nat.le_of_ble_eq_true rfl) ⟨Nat.zero_le _, Nat.zero_le _⟩ dX7_look_23 (fun v3 s3 _ => ?_)
    refine r_iload_n (pc := 26) C dX7_look_26 rfl ?_
    refine r_callS (pc := 27) C (c_X7_number (zO.ap C) _ _) lk_c_X7_number lk_i_X7 lk_m_X7_64 lk_s_X7_number (n := 1) (by decide +kernel) rfl ⟨rfl, rfl⟩ (by decide) (Nat.le_of_ble_eq_true rfl) ⟨Nat.zero_le _, Nat.zero_le _⟩ dX7_look_27 (fun v4 s4 _ => ?_)
    refine r_iload (pc := 30) C dX7_look_30 rfl ?_
    refine r_callV (pc := 32) C 1 (c_X3_find (zO.ap C) _ _ _ _ _) lk_c_X3_find lk_i_X3 lk_m_X7_86 lk_n_X3_find lk_v_X3_find (n := 4) (by decide +kernel) rfl ⟨rfl, rfl⟩ (by decide) (by decide) rfl rfl rfl (Nat.le_of_ble_eq_true rfl) ⟨Nat.zero_le _, Nat.zero_le _⟩ dX7_look_32 (fun v5 s5 _ => ?_)
    exact r_iret (pc := 35) C dX7_look_35
theorem c_X7_look {E : zG} (hAp : zAp E) (p0 : Int32) (p1 : Int32) (p2 : Int32) (p3 : Int32) (σ : zS) : zM E yX7_look cX7_look 5 (some .int) rm_X7_look (fun r : Int32 => some (.int r)) [.ref (zad E 0), .int p0, .int p1, .int p2, .int p3] (f_X7_look p0 p1 p2 p3 σ) σ :=
  zM_of (nn := 0) hAp (by decide) (Nat.le_of_ble_eq_true rfl) rfl rfl (fun Γ C => g_X7_look C p0 p1 p2 p3 σ)
set_option maxHeartbeats 4000000 in
set_option maxRecDepth 100000 in
theorem g_X7_random {E : zG} {Γ : zX} (C : zO E Γ RX7 cX7_random 2 (some .int)) (p0 : Int32) (σ : zS) : zJ E Γ rm_X7_random 2 (fun r : Int32 => some (.int r)) (f_X7_random p0 σ) σ 0 [some (.ref (zad E 0)), some (.int p0)] [] := by
  unfold f_X7_random
  refine r_aload_n (pc := 0) C dX7_random_0 rfl ?_
  refine r_get (pc := 1) C K_X7 0 1 (by decide) rfl (by decide) lk_f_X7_19 rfl dX7_random_1 ?_
  refine r_iload_n (pc := 4) C dX7_random_4 rfl ?_
  refine r_callS (pc := 5) C (c_X7_number (zO.ap C) _ _) lk_c_X7_number lk_i_X7 lk_m_X7_64 lk_s_X7_number (n := 1) (by decide +kernel) rfl ⟨rfl, rfl⟩ (by decide) (Nat.le_of_ble_eq_true rfl) ⟨Nat.zero_le _, Nat.zero_le _⟩ dX7_random_5 (fun v1 s1 _ => ?_)
  refine r_callV (pc := 8) C 3 (c_X0_draw (zO.ap C) _ _) lk_c_X0_draw lk_i_X0 lk_m_X7_90 lk_n_X0_draw lk_v_X0_draw (n := 1) (by decide +kernel) rfl ⟨rfl, rfl⟩ (by decide) (by decide) rfl rfl rfl (Nat.le_of_ble_eq_true rfl) ⟨Nat.zero_le _, Nat.zero_le _⟩ dX7_random_8 (fun v2 s2 _ => ?_)
  exact r_iret (pc := 11) C dX7_random_11
theorem c_X7_random {E : zG} (hAp : zAp E) (p0 : Int32) (σ : zS) : zM E yX7_random cX7_random 2 (some .int) rm_X7_random (fun r : Int32 => some (.int r)) [.ref (zad E 0), .int p0] (f_X7_random p0 σ) σ :=
  zM_of (nn := 0) hAp (by decide) (Nat.le_of_ble_eq_true rfl) rfl rfl (fun Γ C => g_X7_random C p0 σ)
set_option maxHeartbeats 4000000 in
set_option maxRecDepth 100000 in
theorem g_X7_tape {E : zG} {Γ : zX} (C : zO E Γ RX7 cX7_tape 2 (some .int)) (p0 : Int32) (σ : zS) : zJ E Γ rm_X7_tape 2 (fun r : Int32 => some (.int r)) (f_X7_tape p0 σ) σ 0 [some (.ref (zad E 0)), some (.int p0)] [] := by
  unfold f_X7_tape
  refine r_iload_n (pc := 0) C dX7_tape_0 rfl ?_
  refine r_ldc (pc := 1) (v := 65535) C dX7_tape_1 lk_k_X7_93 ?_
  refine r_callS (pc := 3) C (c_X7_isWithin (zO.ap C) _ _ _) lk_c_X7_isWithin lk_i_X7 lk_m_X7_82 lk_s_X7_isWithin (n := 2) (by decide +kernel) rfl ⟨rfl, rfl⟩ (by decide) (Nat.le_of_ble_eq_true rfl) ⟨Nat.zero_le _, Nat.zero_le _⟩ dX7_tape_3 (fun v1 s1 _ => ?_)
  refine r_if_ne (pc := 6) (tgt := 12) C dX7_tape_6 (by decide) (fun _ => ?_) (fun _ => ?_)
  · refine r_bipush (pc := 9) (v := -2) C dX7_tape_9 (by decide) ?_
    exact r_iret (pc := 11) C dX7_tape_11
  · refine r_aload_n (pc := 12) C dX7_tape_12 rfl ?_
    refine r_get (pc := 13) C K_X7 0 1 (by decide) rfl (by decide) lk_f_X7_19 rfl dX7_tape_13 ?_
    refine r_iload_n (pc := 16) C dX7_tape_16 rfl ?_
    refine r_callV (pc := 17) C 3 (c_X0_record (zO.ap C) _ _) lk_c_X0_record lk_i_X0 lk_m_X7_94 lk_n_X0_record lk_v_X0_record (n := 1) (by decide +kernel) rfl ⟨rfl, rfl⟩ (by decide) (by decide) rfl rfl rfl (Nat.le_of_ble_eq_true rfl) ⟨Nat.zero_le _, Nat.zero_le _⟩ dX7_tape_17 (fun v2 s2 _ => ?_)
    exact r_iret (pc := 20) C dX7_tape_20
theorem c_X7_tape {E : zG} (hAp : zAp E) (p0 : Int32) (σ : zS) : zM E yX7_tape cX7_tape 2 (some .int) rm_X7_tape (fun r : Int32 => some (.int r)) [.ref (zad E 0), .int p0] (f_X7_tape p0 σ) σ :=
  zM_of (nn := 0) hAp (by decide) (Nat.le_of_ble_eq_true rfl) rfl rfl (fun Γ C => g_X7_tape C p0 σ)
set_option maxHeartbeats 4000000 in
set_option maxRecDepth 100000 in
theorem g_X7_globe {E : zG} {Γ : zX} (C : zO E Γ RX7 cX7_globe 3 (some .int)) (p0 : Int32) (σ : zS) : zJ E Γ rm_X7_globe 3 (fun r : Int32 => some (.int r)) (f_X7_globe p0 σ) σ 0 [some (.ref (zad E 0)), some (.int p0), none] [] := by
  unfold f_X7_globe
  refine r_iload_n (pc := 0) C dX7_globe_0 rfl ?_
  refine r_ldc (pc := 1) (v := 65535) C dX7_globe_1 lk_k_X7_93 ?_
  refine r_callS (pc := 3) C (c_X7_isWithin (zO.ap C) _ _ _) lk_c_X7_isWithin lk_i_X7 lk_m_X7_82 lk_s_X7_isWithin (n := 2) (by decide +kernel) rfl ⟨rfl, rfl⟩ (by decide) (Nat.le_of_ble_eq_true rfl) ⟨Nat.zero_le _, Nat.zero_le _⟩ dX7_globe_3 (fun v1 s1 _ => ?_)
  refine r_if_ne (pc := 6) (tgt := 12) C dX7_globe_6 (by decide) (fun _ => ?_) (fun _ => ?_)
  · refine r_bipush (pc := 9) (v := -2) C dX7_globe_9 (by decide) ?_
    exact r_iret (pc := 11) C dX7_globe_11
  · refine r_aload_n (pc := 12) C dX7_globe_12 rfl ?_
    refine r_get (pc := 13) C K_X7 0 3 (by decide) rfl (by decide) lk_f_X7_35 rfl dX7_globe_13 ?_
    refine r_getN (pc := 16) C K_X6 13 7 (by decide) rfl (by decide) lk_fn_X7_97 rfl dX7_globe_16 ?_
    refine r_istore_n (pc := 19) (lv' := [some (.ref (zad E 0)), some (.int p0), some (.int (s1 13 7))]) C dX7_globe_19 (by decide) rfl ?_
    refine r_aload_n (pc := 20) C dX7_globe_20 rfl ?_
    refine r_get (pc := 21) C K_X7 0 3 (by decide) rfl (by decide) lk_f_X7_35 rfl dX7_globe_21 ?_
    refine r_iload_n (pc := 24) C dX7_globe_24 rfl ?_
    refine r_putN (pc := 25) C K_X6 13 7 (by decide) rfl (by decide) lk_fn_X7_97 rfl rfl (Nat.le_of_ble_eq_true rfl) rfl dX7_globe_25 (fun s2 _ => ?_)
    refine r_iload_n (pc := 28) C dX7_globe_28 rfl ?_
    exact r_iret (pc := 29) C dX7_globe_29
theorem c_X7_globe {E : zG} (hAp : zAp E) (p0 : Int32) (σ : zS) : zM E yX7_globe cX7_globe 3 (some .int) rm_X7_globe (fun r : Int32 => some (.int r)) [.ref (zad E 0), .int p0] (f_X7_globe p0 σ) σ :=
  zM_of (nn := 1) hAp (by decide) (Nat.le_of_ble_eq_true rfl) rfl rfl (fun Γ C => g_X7_globe C p0 σ)
set_option maxHeartbeats 4000000 in
set_option maxRecDepth 100000 in
theorem g_X7_form {E : zG} {Γ : zX} (C : zO E Γ RX7 cX7_form 3 (some .int)) (p0 : Int32) (σ : zS) : zJ E Γ rm_X7_form 3 (fun r : Int32 => some (.int r)) (f_X7_form p0 σ) σ 0 [some (.ref (zad E 0)), some (.int p0), none] [] := by
  unfold f_X7_form
  refine r_iload_n (pc := 0) C dX7_form_0 rfl ?_
  refine r_sipush (pc := 1) (v := 255) C dX7_form_1 (by decide) ?_
  refine r_callS (pc := 4) C (c_X7_isWithin (zO.ap C) _ _ _) lk_c_X7_isWithin lk_i_X7 lk_m_X7_82 lk_s_X7_isWithin (n := 2) (by decide +kernel) rfl ⟨rfl, rfl⟩ (by decide) (Nat.le_of_ble_eq_true rfl) ⟨Nat.zero_le _, Nat.zero_le _⟩ dX7_form_4 (fun v1 s1 _ => ?_)
  refine r_if_ne (pc := 7) (tgt := 13) C dX7_form_7 (by decide) (fun _ => ?_) (fun _ => ?_)
  · refine r_bipush (pc := 10) (v := -2) C dX7_form_10 (by decide) ?_
    exact r_iret (pc := 12) C dX7_form_12
  · refine r_aload_n (pc := 13) C dX7_form_13 rfl ?_
    refine r_get (pc := 14) C K_X7 0 3 (by decide) rfl (by decide) lk_f_X7_35 rfl dX7_form_14 ?_
    refine r_getN (pc := 17) C K_X6 13 8 (by decide) rfl (by decide) lk_fn_X7_101 rfl dX7_form_17 ?_
    refine r_istore_n (pc := 20) (lv' := [some (.ref (zad E 0)), some (.int p0), some (.int (s1 13 8))]) C dX7_form_20 (by decide) rfl ?_
    refine r_aload_n (pc := 21) C dX7_form_21 rfl ?_
    refine r_get (pc := 22) C K_X7 0 3 (by decide) rfl (by decide) lk_f_X7_35 rfl dX7_form_22 ?_
    refine r_iload_n (pc := 25) C dX7_form_25 rfl ?_
    refine r_putN (pc := 26) C K_X6 13 8 (by decide) rfl (by decide) lk_fn_X7_101 rfl rfl (Nat.le_of_ble_eq_true rfl) rfl dX7_form_26 (fun s2 _ => ?_)
    refine r_iload_n (pc := 29) C dX7_form_29 rfl ?_
    exact r_iret (pc := 30) C dX7_form_30
theorem c_X7_form {E : zG} (hAp : zAp E) (p0 : Int32) (σ : zS) : zM E yX7_form cX7_form 3 (some .int) rm_X7_form (fun r : Int32 => some (.int r)) [.ref (zad E 0), .int p0] (f_X7_form p0 σ) σ :=
  zM_of (nn := 1) hAp (by decide) (Nat.le_of_ble_eq_true rfl) rfl rfl (fun Γ C => g_X7_form C p0 σ)
set_option maxHeartbeats 4000000 in
set_option maxRecDepth 100000 in
theorem g_X7_isOperand {E : zG} {Γ : zX} (C : zO E Γ RX7 cX7_isOperand 1 (some .boolean)) (p0 : Int32) (σ : zS) : zJ E Γ rm_X7_isOperand 1 (fun r : Int32 => some (.int r)) (f_X7_isOperand p0 σ) σ 0 [some (.int p0)] [] := by
  unfold f_X7_isOperand
  refine r_iload_n (pc := 0) C dX7_isOperand_0 rfl ?_
  refine r_sipush (pc := 1) (v := -256) C dX7_isOperand_1 (by decide) ?_
  refine r_icmp_lt (pc := 4) (tgt := 17) C dX7_isOperand_4 (by decide) (fun _ => ?_) (fun _ => ?_)
  · refine r_iconst (pc := 17) (v := 0) C dX7_isOperand_17 (by decide) ?_
    exact r_zret (pc := 18) C (by first | rfl | decide) dX7_isOperand_18
  · refine r_iload_n (pc := 7) C dX7_isOperand_7 rfl ?_
    refine r_ldc (pc := 8) (v := 65535) C dX7_isOperand_8 lk_k_X7_93 ?_
    refine r_icmp_gt (pc := 10) (tgt := 17) C dX7_isOperand_10 (by decide) (fun _ => ?_) (fun _ => ?_)
    · refine r_iconst (pc := 17) (v := 0) C dX7_isOperand_17 (by decide) ?_
      exact r_zret (pc := 18) C (by first | rfl | decide) dX7_isOperand_18
    · refine r_iconst (pc := 13) (v := 1) C dX7_isOperand_13 (by decide) ?_
      refine r_goto (pc := 14) (tgt := 18) C dX7_isOperand_14 (by decide) ?_
      exact r_zret (pc := 18) C (by first | rfl | decide) dX7_isOperand_18
theorem c_X7_isOperand {E : zG} (hAp : zAp E) (p0 : Int32) (σ : zS) : zM E yX7_isOperand cX7_isOperand 1 (some .boolean) rm_X7_isOperand (fun r : Int32 => some (.int r)) [.int p0] (f_X7_isOperand p0 σ) σ :=
  zM_of (nn := 0) hAp (by decide) (Nat.le_of_ble_eq_true rfl) rfl rfl (fun Γ C => g_X7_isOperand C p0 σ)
set_option maxHeartbeats 4000000 in
set_option maxRecDepth 100000 in
theorem g_X7_instruction {E : zG} {Γ : zX} (C : zO E Γ RX7 cX7_instruction 6 (some .int)) (p0 : Int32) (p1 : Int32) (p2 : Int32) (p3 : Int32) (p4 : Int32) (σ : zS) : zJ E Γ rm_X7_instruction 6 (fun r : Int32 => some (.int r)) (f_X7_instruction p0 p1 p2 p3 p4 σ) σ 0 [some (.ref (zad E 0)), some (.int p0), some (.int p1), some (.int p2), some (.int p3), some (.int p4)] [] := by
  unfold f_X7_instruction
  refine r_iload_n (pc := 0) C dX7_instruction_0 rfl ?_
  refine r_callS (pc := 1) C (c_X7_isOperand (zO.ap C) _ _) lk_c_X7_isOperand lk_i_X7 lk_m_X7_104 lk_s_X7_isOperand (n := 1) (by decide +kernel) rfl ⟨rfl, rfl⟩ (by decide) (Nat.le_of_ble_eq_true rfl) ⟨Nat.zero_le _, Nat.zero_le _⟩ dX7_instruction_1 (fun v1 s1 _ => ?_)
  refine r_if_eq (pc := 4) (tgt := 22) C dX7_instruction_4 (by decide) (fun _ => ?_) (fun _ => ?_)
  · refine r_bipush (pc := 22) (v := -2) C dX7_instruction_22 (by decide) ?_
    exact r_iret (pc := 24) C dX7_instruction_24
  · refine r_iload_n (pc := 7) C dX7_instruction_7 rfl ?_
    refine r_callS (pc := 8) C (c_X7_isOperand (zO.ap C) _ _) lk_c_X7_isOperand lk_i_X7 lk_m_X7_104 lk_s_X7_isOperand (n := 1) (by decide +kernel) rfl ⟨rfl, rfl⟩ (by decide) (Nat.le_of_ble_eq_true rfl) ⟨Nat.zero_le _, Nat.zero_le _⟩ dX7_instruction_8 (fun v2 s2 _ => ?_)
    refine r_if_eq (pc := 11) (tgt := 22) C dX7_instruction_11 (by decide) (fun _ => ?_) (fun _ => ?_)
    · refine r_bipush (pc := 22) (v := -2) C dX7_instruction_22 (by decide) ?_
      exact r_iret (pc := 24) C dX7_instruction_24
    · refine r_iload (pc := 14) C dX7_instruction_14 rfl ?_
      refine r_callS (pc := 16) C (c_X7_isOperand (zO.ap C) _ _) lk_c_X7_isOperand lk_i_X7 lk_m_X7_104 lk_s_X7_isOperand (n := 1) (by decide +kernel) rfl ⟨rfl, rfl⟩ (by decide) (Nat.le_of_ble_eq_true rfl) ⟨Nat.zero_le _, Nat.zero_le _⟩ dX7_instruction_16 (fun v3 s3 _ => ?_)
      refine r_if_ne (pc := 19) (tgt := 25) C dX7_instruction_19 (by decide) (fun _ => ?_) (fun _ => ?_)
      · refine r_bipush (pc := 22) (v := -2) C dX7_instruction_22 (by decide) ?_
        exact r_iret (pc := 24) C dX7_instruction_24
      · refine r_iload (pc := 25) C dX7_instruction_25 rfl ?_
        refine r_iconst (pc := 27) (v := -1) C dX7_instruction_27 (by decide) ?_
        refine r_icmp_lt (pc := 28) (tgt := 39) C dX7_instruction_28 (by decide) (fun _ => ?_) (fun _ => ?_)
        · refine r_bipush (pc := 39) (v := -2) C dX7_instruction_39 (by decide) ?_
          exact r_iret (pc := 41) C dX7_instruction_41
        · refine r_iload (pc := 31) C dX7_instruction_31 rfl ?_
          refine r_sipush (pc := 33) (v := 255) C dX7_instruction_33 (by decide) ?_
          refine r_icmp_le (pc := 36) (tgt := 42) C dX7_instruction_36 (by decide) (fun _ => ?_) (fun _ => ?_)
          · refine r_aload_n (pc := 42) C dX7_instruction_42 rfl ?_
            refine r_get (pc := 43) C K_X7 0 2 (by decide) rfl (by decide) lk_f_X7_26 rfl dX7_instruction_43 ?_
            refine r_iload_n (pc := 46) C dX7_instruction_46 rfl ?_
            refine r_iload_n (pc := 47) C dX7_instruction_47 rfl ?_
            refine r_iload_n (pc := 48) C dX7_instruction_48 rfl ?_
            refine r_iload (pc := 49) C dX7_instruction_49 rfl ?_
            refine r_iload (pc := 51) C dX7_instruction_51 rfl ?_
            refine r_callV (pc := 53) C 5 (c_X5_append (zO.ap C) _ _ _ _ _ _) lk_c_X5_append lk_i_X5 lk_m_X7_108 lk_n_X5_append lk_v_X5_append (n := 5) (by decide +kernel) rfl ⟨rfl, rfl⟩ (by decide) (by decide) rfl rfl rfl (Nat.le_of_ble_eq_true rfl) ⟨Nat.zero_le _, Nat.zero_le _⟩ dX7_instruction_53 (fun v4 s4 _ => ?_)
            exact r_iret (pc := 56) C dX7_instruction_56
          · refine r_bipush (pc := 39) (v := -2) C dX7_instruction_39 (by decide) ?_
            exact r_iret (pc := 41) C dX7_instruction_41
theorem c_X7_instruction {E : zG} (hAp : zAp E) (p0 : Int32) (p1 : Int32) (p2 : Int32) (p3 : Int32) (p4 : Int32) (σ : zS) : zM E yX7_instruction cX7_instruction 6 (some .int) rm_X7_instruction (fun r : Int32 => some (.int r)) [.ref (zad E 0), .int p0, .int p1, .int p2, .int p3, .int p4] (f_X7_instruction p0 p1 p2 p3 p4 σ) σ :=
  zM_of (nn := 0) hAp (by decide) (Nat.le_of_ble_eq_true rfl) rfl rfl (fun Γ C => g_X7_instruction C p0 p1 p2 p3 p4 σ)
set_option maxHeartbeats 4000000 in
set_option maxRecDepth 100000 in
theorem g_X7_routine {E : zG} {Γ : zX} (C : zO E Γ RX7 cX7_routine 5 (some .int)) (p0 : Int32) (p1 : Int32) (p2 : Int32) (p3 : Int32) (σ : zS) : zJ E Γ rm_X7_routine 5 (fun r : Int32 => some (.int r)) (f_X7_routine p0 p1 p2 p3 σ) σ 0 [some (.ref (zad E 0)), some (.int p0), some (.int p1), some (.int p2), some (.int p3)] [] := by
  unfold f_X7_routine
  refine r_iload_n (pc := 0) C dX7_routine_0 rfl ?_
  refine r_bipush (pc := 1) (v := 7) C dX7_routine_1 (by decide) ?_
  refine r_callS (pc := 3) C (c_X7_isWithin (zO.ap C) _ _ _) lk_c_X7_isWithin lk_i_X7 lk_m_X7_82 lk_s_X7_isWithin (n := 2) (by decide +kernel) rfl ⟨rfl, rfl⟩ (by decide) (Nat.le_of_ble_eq_true rfl) ⟨Nat.zero_le _, Nat.zero_le _⟩ dX7_routine_3 (fun v1 s1 _ => ?_)
  refine r_if_ne (pc := 6) (tgt := 11) C dX7_routine_6 (by decide) (fun _ => ?_) (fun _ => ?_)
  · refine r_iconst (pc := 9) (v := -1) C dX7_routine_9 (by decide) ?_
    exact r_iret (pc := 10) C dX7_routine_10
  · refine r_iload_n (pc := 11) C dX7_routine_11 rfl ?_
    refine r_bipush (pc := 12) (v := 99) C dX7_routine_12 (by decide) ?_
    refine r_callS (pc := 14) C (c_X7_isWithin (zO.ap C) _ _ _) lk_c_X7_isWithin lk_i_X7 lk_m_X7_82 lk_s_X7_isWithin (n := 2) (by decide +kernel) rfl ⟨rfl, rfl⟩ (by decide) (Nat.le_of_ble_eq_true rfl) ⟨Nat.zero_le _, Nat.zero_le _⟩ dX7_routine_14 (fun v2 s2 _ => ?_)
    refine r_if_eq (pc := 17) (tgt := 29) C dX7_routine_17 (by decide) (fun _ => ?_) (fun _ => ?_)
    · refine r_bipush (pc := 29) (v := -2) C dX7_routine_29 (by decide) ?_
      exact r_iret (pc := 31) C dX7_routine_31
    · refine r_iload_n (pc := 20) C dX7_routine_20 rfl ?_
      refine r_bipush (pc := 21) (v := 15) C dX7_routine_21 (by decide) ?_
      refine r_callS (pc := 23) C (c_X7_isWithin (zO.ap C) _ _ _) lk_c_X7_isWithin lk_i_X7 lk_m_X7_82 lk_s_X7_isWithin (n := 2) (by decide +kernel) rfl ⟨rfl, rfl⟩ (by decide) (Nat.le_of_ble_eq_true rfl) ⟨Nat.zero_le _, Nat.zero_le _⟩ dX7_routine_23 (fun v3 s3 _ => ?_)
      refine r_if_ne (pc := 26) (tgt := 32) C dX7_routine_26 (by decide) (fun _ => ?_) (fun _ => ?_)
      · refine r_bipush (pc := 29) (v := -2) C dX7_routine_29 (by decide) ?_
        exact r_iret (pc := 31) C dX7_routine_31
      · refine r_aload_n (pc := 32) C dX7_routine_32 rfl ?_
        refine r_get (pc := 33) C K_X7 0 2 (by decide) rfl (by decide) lk_f_X7_26 rfl dX7_routine_33 ?_
        refine r_iload_n (pc := 36) C dX7_routine_36 rfl ?_
        refine r_iload_n (pc := 37) C dX7_routine_37 rfl ?_
        refine r_iload_n (pc := 38) C dX7_routine_38 rfl ?_
        refine r_iload (pc := 39) C dX7_routine_39 rfl ?_
        refine r_callV (pc := 41) C 5 (c_X5_define (zO.ap C) _ _ _ _ _) lk_c_X5_define lk_i_X5 lk_m_X7_112 lk_n_X5_define lk_v_X5_define (n := 4) (by decide +kernel) rfl ⟨rfl, rfl⟩ (by decide) (by decide) rfl rfl rfl (Nat.le_of_ble_eq_true rfl) ⟨Nat.zero_le _, Nat.zero_le _⟩ dX7_routine_41 (fun _ s4 _ => ?_)
        refine r_iconst (pc := 44) (v := 1) C dX7_routine_44 (by decide) ?_
        exact r_iret (pc := 45) C dX7_routine_45
theorem c_X7_routine {E : zG} (hAp : zAp E) (p0 : Int32) (p1 : Int32) (p2 : Int32) (p3 : Int32) (σ : zS) : zM E yX7_routine cX7_routine 5 (some .int) rm_X7_routine (fun r : Int32 => some (.int r)) [.ref (zad E 0), .int p0, .int p1, .int p2, .int p3] (f_X7_routine p0 p1 p2 p3 σ) σ :=
  zM_of (nn := 0) hAp (by decide) (Nat.le_of_ble_eq_true rfl) rfl rfl (fun Γ C => g_X7_routine C p0 p1 p2 p3 σ)
set_option maxHeartbeats 4000000 in
set_option maxRecDepth 100000 in
theorem g_X7_clear {E : zG} {Γ : zX} (C : zO E Γ RX7 cX7_clear 1 (some .int)) (σ : zS) : zJ E Γ rm_X7_clear 1 (fun r : Int32 => some (.int r)) (f_X7_clear σ) σ 0 [some (.ref (zad E 0))] [] := by
  unfold f_X7_clear
  refine r_aload_n (pc := 0) C dX7_clear_0 rfl ?_
  refine r_get (pc := 1) C K_X7 0 2 (by decide) rfl (by decide) lk_f_X7_26 rfl dX7_clear_1 ?_
  refine r_callV (pc := 4) C 5 (c_X5_forget (zO.ap C)  _) lk_c_X5_forget lk_i_X5 lk_m_X7_116 lk_n_X5_forget lk_v_X5_forget (n := 0) (by decide +kernel) rfl ⟨rfl, rfl⟩ (by decide) (by decide) rfl rfl rfl (Nat.le_of_ble_eq_true rfl) ⟨Nat.zero_le _, Nat.zero_le _⟩ dX7_clear_4 (fun v1 s1 _ => ?_)
  exact r_iret (pc := 7) C dX7_clear_7
theorem c_X7_clear {E : zG} (hAp : zAp E) (σ : zS) : zM E yX7_clear cX7_clear 1 (some .int) rm_X7_clear (fun r : Int32 => some (.int r)) [.ref (zad E 0)] (f_X7_clear σ) σ :=
  zM_of (nn := 0) hAp (by decide) (Nat.le_of_ble_eq_true rfl) rfl rfl (fun Γ C => g_X7_clear C σ)
set_option maxHeartbeats 4000000 in
set_option maxRecDepth 100000 in
theorem g_X7_run_L32 {E : zG} {Γ : zX} (C : zO E Γ RX7 cX7_run 5 (some .int)) : ∀ (n : Nat) (x1 : Int32) (x2 : Int32) (x3 : Int32) (x4 : Int32) (σ : zS), zJ E Γ rm_X7_run 5 (fun r : Int32 => some (.int r)) (f_X7_run_L32 n x1 x2 x3 x4 σ) σ 32 [some (.ref (zad E 0)), some (.int x1), some (.int x2), some (.int x3), some (.int x4)] [] := by
  intro n
  induction n with
  | zero => intro x1 x2 x3 x4 σ; rw [f_X7_run_L32]; exact r_none
  | succ n ih =>
    intro x1 x2 x3 x4 σ
    rw [f_X7_run_L32]
    refine r_iload (pc := 32) C dX7_run_32 rfl ?_
    refine r_sipush (pc := 34) (v := 300) C dX7_run_34 (by decide) ?_
    refine r_icmp_ge (pc := 37) (tgt := 70) C dX7_run_37 (by decide) (fun _ => ?_) (fun _ => ?_)
    · refine r_aload_n (pc := 70) C dX7_run_70 rfl ?_
      refine r_get (pc := 71) C K_X7 0 3 (by decide) rfl (by decide) lk_f_X7_35 rfl dX7_run_71 ?_
      refine r_callV (pc := 74) C 13 (c_X6_finish (zO.ap C)  _) lk_c_X6_finish lk_i_X6 lk_m_X7_137 lk_n_X6_finish lk_v_X6_finish (n := 0) (by decide +kernel) rfl ⟨rfl, rfl⟩ (by decide) (by decide) rfl rfl rfl (Nat.le_of_ble_eq_true rfl) ⟨Nat.zero_le _, Nat.zero_le _⟩ dX7_run_74 (fun v4 s5 _ => ?_)
      exact r_iret (pc := 77) C dX7_run_77
    · refine r_aload_n (pc := 40) C dX7_run_40 rfl ?_
      refine r_get (pc := 41) C K_X7 0 3 (by decide) rfl (by decide) lk_f_X7_35 rfl dX7_run_41 ?_
      refine r_callV (pc := 44) C 13 (c_X6_isGoing (zO.ap C)  _) lk_c_X6_isGoing lk_i_X6 lk_m_X7_126 lk_n_X6_isGoing lk_v_X6_isGoing (n := 0) (by decide +kernel) rfl ⟨rfl, rfl⟩ (by decide) (by decide) rfl rfl rfl (Nat.le_of_ble_eq_true rfl) ⟨Nat.zero_le _, Nat.zero_le _⟩ dX7_run_44 (fun v5 s6 _ => ?_)
      refine r_if_eq (pc := 47) (tgt := 70) C dX7_run_47 (by decide) (fun _ => ?_) (fun _ => ?_)
      · refine r_aload_n (pc := 70) C dX7_run_70 rfl ?_
        refine r_get (pc := 71) C K_X7 0 3 (by decide) rfl (by decide) lk_f_X7_35 rfl dX7_run_71 ?_
        refine r_callV (pc := 74) C 13 (c_X6_finish (zO.ap C)  _) lk_c_X6_finish lk_i_X6 lk_m_X7_137 lk_n_X6_finish lk_v_X6_finish (n := 0) (by decide +kernel) rfl ⟨rfl, rfl⟩ (by decide) (by decide) rfl rfl rfl (Nat.le_of_ble_eq_true rfl) ⟨Nat.zero_le _, Nat.zero_le _⟩ dX7_run_74 (fun v6 s7 _ => ?_)
        exact r_iret (pc := 77) C dX7_run_77
      · refine r_aload_n (pc := 50) C dX7_run_50 rfl ?_
        refine r_get (pc := 51) C K_X7 0 3 (by decide) rfl (by decide) lk_f_X7_35 rfl dX7_run_51 ?_
        refine r_aload_n (pc := 54) C dX7_run_54 rfl ?_
        refine r_get (pc := 55) C K_X7 0 3 (by decide) rfl (by decide) lk_f_X7_35 rfl dX7_run_55 ?_
        refine r_callV (pc := 58) C 13 (c_X6_step (zO.ap C)  _) lk_c_X6_step lk_i_X6 lk_m_X7_130 lk_n_X6_step lk_v_X6_step (n := 0) (by decide +kernel) rfl ⟨rfl, rfl⟩ (by decide) (by decide) rfl rfl rfl (Nat.le_of_ble_eq_true rfl) ⟨Nat.zero_le _, Nat.zero_le _⟩ dX7_run_58 (fun v7 s8 _ => ?_)
        refine r_callV (pc := 61) C 13 (c_X6_settle (zO.ap C) _ _) lk_c_X6_settle lk_i_X6 lk_m_X7_133 lk_n_X6_settle lk_v_X6_settle (n := 1) (by decide +kernel) rfl ⟨rfl, rfl⟩ (by decide) (by decide) rfl rfl rfl (Nat.le_of_ble_eq_true rfl) ⟨Nat.zero_le _, Nat.zero_le _⟩ dX7_run_61 (fun _ s9 _ => ?_)
        refine r_iinc (pc := 64) (lv' := [some (.ref (zad E 0)), some (.int x1), some (.int x2), some (.int x3), some (.int (x4 + (1 : Int32)))]) C dX7_run_64 (by decide) rfl rfl rfl ?_
        refine r_goto (pc := 67) (tgt := 32) C dX7_run_67 (by decide) ?_
        exact ih _ _ _ _ _
set_option maxHeartbeats 4000000 in
set_option maxRecDepth 100000 in
theorem g_X7_run {E : zG} {Γ : zX} (C : zO E Γ RX7 cX7_run 5 (some .int)) (p0 : Int32) (p1 : Int32) (p2 : Int32) (σ : zS) : zJ E Γ rm_X7_run 5 (fun r : Int32 => some (.int r)) (f_X7_run p0 p1 p2 σ) σ 0 [some (.ref (zad E 0)), some (.int p0), some (.int p1), some (.int p2), none] [] := by
  unfold f_X7_run
  refine r_aload_n (pc := 0) C dX7_run_0 rfl ?_
  refine r_get (pc := 1) C K_X7 0 2 (by decide) rfl (by decide) lk_f_X7_26 rfl dX7_run_1 ?_
  refine r_iload_n (pc := 4) C dX7_run_4 rfl ?_
  refine r_callV (pc := 5) C 5 (c_X5_hasRoutine (zO.ap C) _ _) lk_c_X5_hasRoutine lk_i_X5 lk_m_X7_120 lk_n_X5_hasRoutine lk_v_X5_hasRoutine (n := 1) (by decide +kernel) rfl ⟨rfl, rfl⟩ (by decide) (by decide) rfl rfl rfl (Nat.le_of_ble_eq_true rfl) ⟨Nat.zero_le _, Nat.zero_le _⟩ dX7_run_5 (fun v1 s1 _ => ?_)
  refine r_if_ne (pc := 8) (tgt := 13) C dX7_run_8 (by decide) (fun _ => ?_) (fun _ => ?_)
  · refine r_iconst (pc := 11) (v := -1) C dX7_run_11 (by decide) ?_
    exact r_iret (pc := 12) C dX7_run_12
  · refine r_aload_n (pc := 13) C dX7_run_13 rfl ?_
    refine r_get (pc := 14) C K_X7 0 3 (by decide) rfl (by decide) lk_f_X7_35 rfl dX7_run_14 ?_
    refine r_iload_n (pc := 17) C dX7_run_17 rfl ?_
    refine r_iload_n (pc := 18) C dX7_run_18 rfl ?_
    refine r_callS (pc := 19) C (c_X7_word (zO.ap C) _ _) lk_c_X7_word lk_i_X7 lk_m_X7_76 lk_s_X7_word (n := 1) (by decide +kernel) rfl ⟨rfl, rfl⟩ (by decide) (Nat.le_of_ble_eq_true rfl) ⟨Nat.zero_le _, Nat.zero_le _⟩ dX7_run_19 (fun v2 s2 _ => ?_)
    refine r_iload_n (pc := 22) C dX7_run_22 rfl ?_
    refine r_callS (pc := 23) C (c_X7_word (zO.ap C) _ _) lk_c_X7_word lk_i_X7 lk_m_X7_76 lk_s_X7_word (n := 1) (by decide +kernel) rfl ⟨rfl, rfl⟩ (by decide) (Nat.le_of_ble_eq_true rfl) ⟨Nat.zero_le _, Nat.zero_le _⟩ dX7_run_23 (fun v3 s3 _ => ?_)
    refine r_callV (pc := 26) C 13 (c_X6_begin (zO.ap C) _ _ _ _) lk_c_X6_begin lk_i_X6 lk_m_X7_123 lk_n_X6_begin lk_v_X6_begin (n := 3) (by decide +kernel) rfl ⟨rfl, rfl⟩ (by decide) (by decide) rfl rfl rfl (Nat.le_of_ble_eq_true rfl) ⟨Nat.zero_le _, Nat.zero_le _⟩ dX7_run_26 (fun _ s4 _ => ?_)
    refine r_iconst (pc := 29) (v := 0) C dX7_run_29 (by decide) ?_
    refine r_istore (pc := 30) (lv' := [some (.ref (zad E 0)), some (.int p0), some (.int p1), some (.int p2), some (.int (0 : Int32))]) C dX7_run_30 (by decide) rfl ?_
    exact g_X7_run_L32 C zF _ _ _ _ _
theorem c_X7_run {E : zG} (hAp : zAp E) (p0 : Int32) (p1 : Int32) (p2 : Int32) (σ : zS) : zM E yX7_run cX7_run 5 (some .int) rm_X7_run (fun r : Int32 => some (.int r)) [.ref (zad E 0), .int p0, .int p1, .int p2] (f_X7_run p0 p1 p2 σ) σ :=
  zM_of (nn := 1) hAp (by decide) (Nat.le_of_ble_eq_true rfl) rfl rfl (fun Γ C => g_X7_run C p0 p1 p2 σ)
set_option maxHeartbeats 4000000 in
set_option maxRecDepth 100000 in
theorem g_X7_told {E : zG} {Γ : zX} (C : zO E Γ RX7 cX7_told 2 (some .int)) (p0 : Int32) (σ : zS) : zJ E Γ rm_X7_told 2 (fun r : Int32 => some (.int r)) (f_X7_told p0 σ) σ 0 [some (.ref (zad E 0)), some (.int p0)] [] := by
  unfold f_X7_told
  refine r_iload_n (pc := 0) C dX7_told_0 rfl ?_
  refine r_split (fun h1 => ?_) (fun h1 => ?_)
  · refine r_tabIn (pc := 1) (v := 0) (tgt := 52) C dX7_told_1 h1 (by decide) (by decide) rfl (by decide) ?_
    refine r_aload_n (pc := 52) C dX7_told_52 rfl ?_
    refine r_get (pc := 53) C K_X7 0 3 (by decide) rfl (by decide) lk_f_X7_35 rfl dX7_told_53 ?_
    refine r_getN (pc := 56) C K_X6 13 10 (by decide) rfl (by decide) lk_fn_X7_140 rfl dX7_told_56 ?_
    exact r_iret (pc := 59) C dX7_told_59
  · refine r_split (fun h2 => ?_) (fun h2 => ?_)
    · refine r_tabIn (pc := 1) (v := 1) (tgt := 60) C dX7_told_1 h2 (by decide) (by decide) rfl (by decide) ?_
      refine r_aload_n (pc := 60) C dX7_told_60 rfl ?_
      refine r_get (pc := 61) C K_X7 0 3 (by decide) rfl (by decide) lk_f_X7_35 rfl dX7_told_61 ?_
      refine r_getN (pc := 64) C K_X6 13 12 (by decide) rfl (by decide) lk_fn_X7_143 rfl dX7_told_64 ?_
      refine r_callS (pc := 67) C (c_X7_number (zO.ap C) _ _) lk_c_X7_number lk_i_X7 lk_m_X7_64 lk_s_X7_number (n := 1) (by decide +kernel) rfl ⟨rfl, rfl⟩ (by decide) (Nat.le_of_ble_eq_true rfl) ⟨Nat.zero_le _, Nat.zero_le _⟩ dX7_told_67 (fun v1 s1 _ => ?_)
      exact r_iret (pc := 70) C dX7_told_70
    · refine r_split (fun h3 => ?_) (fun h3 => ?_)
      · refine r_tabIn (pc := 1) (v := 2) (tgt := 71) C dX7_told_1 h3 (by decide) (by decide) rfl (by decide) ?_
        refine r_aload_n (pc := 71) C dX7_told_71 rfl ?_
        refine r_get (pc := 72) C K_X7 0 3 (by decide) rfl (by decide) lk_f_X7_35 rfl dX7_told_72 ?_
        refine r_getN (pc := 75) C K_X6 13 13 (by decide) rfl (by decide) lk_fn_X7_146 rfl dX7_told_75 ?_
        exact r_iret (pc := 78) C dX7_told_78
      · refine r_split (fun h4 => ?_) (fun h4 => ?_)
        · refine r_tabIn (pc := 1) (v := 3) (tgt := 79) C dX7_told_1 h4 (by decide) (by decide) rfl (by decide) ?_
          refine r_aload_n (pc := 79) C dX7_told_79 rfl ?_
          refine r_get (pc := 80) C K_X7 0 3 (by decide) rfl (by decide) lk_f_X7_35 rfl dX7_told_80 ?_
          refine r_getN (pc := 83) C K_X6 13 14 (by decide) rfl (by decide) lk_fn_X7_149 rfl dX7_told_83 ?_
          exact r_iret (pc := 86) C dX7_told_86
        · refine r_split (fun h5 => ?_) (fun h5 => ?_)
          · refine r_tabIn (pc := 1) (v := 4) (tgt := 87) C dX7_told_1 h5 (by decide) (by decide) rfl (by decide) ?_
            refine r_aload_n (pc := 87) C dX7_told_87 rfl ?_
            refine r_get (pc := 88) C K_X7 0 3 (by decide) rfl (by decide) lk_f_X7_35 rfl dX7_told_88 ?_
            refine r_getN (pc := 91) C K_X6 13 15 (by decide) rfl (by decide) lk_fn_X7_152 rfl dX7_told_91 ?_
            exact r_iret (pc := 94) C dX7_told_94
          · refine r_split (fun h6 => ?_) (fun h6 => ?_)
            · refine r_tabIn (pc := 1) (v := 5) (tgt := 95) C dX7_told_1 h6 (by decide) (by decide) rfl (by decide) ?_
              refine r_aload_n (pc := 95) C dX7_told_95 rfl ?_
              refine r_get (pc := 96) C K_X7 0 3 (by decide) rfl (by decide) lk_f_X7_35 rfl dX7_told_96 ?_
              refine r_getN (pc := 99) C K_X6 13 4 (by decide) rfl (by decide) lk_fn_X7_155 rfl dX7_told_99 ?_
              refine r_getN (pc := 102) C K_X4 41 1 (by decide) rfl (by decide) lk_fn_X7_159 rfl dX7_told_102 ?_
              exact r_iret (pc := 105) C dX7_told_105
            · refine r_split (fun h7 => ?_) (fun h7 => ?_)
              · refine r_tabIn (pc := 1) (v := 6) (tgt := 106) C dX7_told_1 h7 (by decide) (by decide) rfl (by decide) ?_
                refine r_aload_n (pc := 106) C dX7_told_106 rfl ?_
                refine r_get (pc := 107) C K_X7 0 3 (by decide) rfl (by decide) lk_f_X7_35 rfl dX7_told_107 ?_
                refine r_getN (pc := 110) C K_X6 13 3 (by decide) rfl (by decide) lk_fn_X7_164 rfl dX7_told_110 ?_
                refine r_getN (pc := 113) C K_X2 14 4 (by decide) rfl (by decide) lk_fn_X7_168 rfl dX7_told_113 ?_
                exact r_iret (pc := 116) C dX7_told_116
              · refine r_split (fun h8 => ?_) (fun h8 => ?_)
                · refine r_tabIn (pc := 1) (v := 7) (tgt := 117) C dX7_told_1 h8 (by decide) (by decide) rfl (by decide) ?_
                  refine r_aload_n (pc := 117) C dX7_told_117 rfl ?_
                  refine r_get (pc := 118) C K_X7 0 2 (by decide) rfl (by decide) lk_f_X7_26 rfl dX7_told_118 ?_
                  refine r_getN (pc := 121) C K_X5 5 3 (by decide) rfl (by decide) lk_fn_X7_173 rfl dX7_told_121 ?_
                  exact r_iret (pc := 124) C dX7_told_124
                · refine r_split (fun h9 => ?_) (fun h9 => ?_)
                  · refine r_tabIn (pc := 1) (v := 8) (tgt := 125) C dX7_told_1 h9 (by decide) (by decide) rfl (by decide) ?_
                    refine r_aload_n (pc := 125) C dX7_told_125 rfl ?_
                    refine r_get (pc := 126) C K_X7 0 1 (by decide) rfl (by decide) lk_f_X7_19 rfl dX7_told_126 ?_
                    refine r_getN (pc := 129) C K_X0 3 2 (by decide) rfl (by decide) lk_fn_X7_174 rfl dX7_told_129 ?_
                    exact r_iret (pc := 132) C dX7_told_132
                  · refine r_tabOut (pc := 1) (tgt := 133) C dX7_told_1 (by have a0 := lv_neT (a := 0) h1 rfl; have a1 := lv_neT (a := 1) h2 rfl; have a2 := lv_neT (a := 2) h3 rfl; have a3 := lv_neT (a := 3) h4 rfl; have a4 := lv_neT (a := 4) h5 rfl; have a5 := lv_neT (a := 5) h6 rfl; have a6 := lv_neT (a := 6) h7 rfl; have a7 := lv_neT (a := 7) h8 rfl; have a8 := lv_neT (a := 8) h9 rfl; omega) (by decide) ?_
                    refine r_bipush (pc := 133) (v := -2) C dX7_told_133 (by decide) ?_
                    exact r_iret (pc := 135) C dX7_told_135
theorem c_X7_told {E : zG} (hAp : zAp E) (p0 : Int32) (σ : zS) : zM E yX7_told cX7_told 2 (some .int) rm_X7_told (fun r : Int32 => some (.int r)) [.ref (zad E 0), .int p0] (f_X7_told p0 σ) σ :=
  zM_of (nn := 0) hAp (by decide) (Nat.le_of_ble_eq_true rfl) rfl rfl (fun Γ C => g_X7_told C p0 σ)
end
section
set_option maxHeartbeats 4000000 in
set_option maxRecDepth 100000 in
theorem g_X7_left {E : zG} {Γ : zX} (C : zO E Γ RX7 cX7_left 2 (some .int)) (p0 : Int32) (σ : zS) : zJ E Γ rm_X7_left 2 (fun r : Int32 => some (.int r)) (f_X7_left p0 σ) σ 0 [some (.ref (zad E 0)), some (.int p0)] [] := by
  unfold f_X7_left
  refine r_iload_n (pc := 0) C dX7_left_0 rfl ?_
  refine r_bipush (pc := 1) (v := 7) C dX7_left_1 (by decide) ?_
  refine r_callS (pc := 3) C (c_X7_isWithin (zO.ap C) _ _ _) lk_c_X7_isWithin lk_i_X7 lk_m_X7_82 lk_s_X7_isWithin (n := 2) (by decide +kernel) rfl ⟨rfl, rfl⟩ (by decide) (Nat.le_of_ble_eq_true rfl) ⟨Nat.zero_le _, Nat.zero_le _⟩ dX7_left_3 (fun v1 s1 _ => ?_)
  refine r_if_eq (pc := 6) (tgt := 21) C dX7_left_6 (by decide) (fun _ => ?_) (fun _ => ?_)
  · refine r_iconst (pc := 21) (v := -1) C dX7_left_21 (by decide) ?_
    exact r_iret (pc := 22) C dX7_left_22
  · refine r_aload_n (pc := 9) C dX7_left_9 rfl ?_
    refine r_get (pc := 10) C K_X7 0 3 (by decide) rfl (by decide) lk_f_X7_35 rfl dX7_left_10 ?_
    refine r_getN (pc := 13) C K_X6 13 5 (by decide) rfl (by decide) lk_fn_X7_185 rfl dX7_left_13 ?_
    refine r_iload_n (pc := 16) C dX7_left_16 rfl ?_
    refine r_iald (pc := 17) (t0 := 0) C 43 (by decide) rfl rfl dX7_left_17 ?_
    refine r_goto (pc := 18) (tgt := 22) C dX7_left_18 (by decide) ?_
    exact r_iret (pc := 22) C dX7_left_22
theorem c_X7_left {E : zG} (hAp : zAp E) (p0 : Int32) (σ : zS) : zM E yX7_left cX7_left 2 (some .int) rm_X7_left (fun r : Int32 => some (.int r)) [.ref (zad E 0), .int p0] (f_X7_left p0 σ) σ :=
  zM_of (nn := 0) hAp (by decide) (Nat.le_of_ble_eq_true rfl) rfl rfl (fun Γ C => g_X7_left C p0 σ)
end
