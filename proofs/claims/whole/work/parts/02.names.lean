/-! ===== BEGIN printed: names, fields, word lists, decode rows ===== -/
def RX0 : String := "IntervalTape$Big"
def TX0 : u_T := fun k => match k with
  | 0 => ("IntervalTape$Big", "words", "[I", true)
  | _ => ("IntervalTape$Big", "size", "I", false)
def tyX0 : Nat → FieldType := fun k => match k with
  | 0 => .array .int
  | _ => .int
theorem nmX0 : ∀ a, a < 2 → ∀ b, b < 2 → a ≠ b → (TX0 a).2.1 ≠ (TX0 b).2.1 := by decide +kernel
theorem tyX0_ok : ∀ k, k < 2 → parseFieldDescriptor (TX0 k).2.2.1 = some (tyX0 k) := by decide +kernel
abbrev cX0_init : ByteArray := prog_2_method_1_code
def yX0_init : MethodName := ⟨RX0, "<init>", "()V"⟩
abbrev cX0_become : ByteArray := prog_2_method_2_code
def yX0_become : MethodName := ⟨RX0, "become", "(J)V"⟩
abbrev cX0_copy : ByteArray := prog_2_method_3_code
def yX0_copy : MethodName := ⟨RX0, "copy", "(LIntervalTape$Big;)V"⟩
abbrev cX0_isUnit : ByteArray := prog_2_method_4_code
def yX0_isUnit : MethodName := ⟨RX0, "isUnit", "()Z"⟩
abbrev cX0_bits : ByteArray := prog_2_method_5_code
def yX0_bits : MethodName := ⟨RX0, "bits", "()I"⟩
abbrev cX0_digit : ByteArray := prog_2_method_6_code
def yX0_digit : MethodName := ⟨RX0, "digit", "(I)J"⟩
abbrev cX0_order : ByteArray := prog_2_method_7_code
def yX0_order : MethodName := ⟨RX0, "order", "(LIntervalTape$Big;LIntervalTape$Big;)I"⟩
abbrev cX0_becomeSum : ByteArray := prog_2_method_8_code
def yX0_becomeSum : MethodName := ⟨RX0, "becomeSum", "(LIntervalTape$Big;LIntervalTape$Big;)V"⟩
abbrev cX0_becomeDifference : ByteArray := prog_2_method_9_code
def yX0_becomeDifference : MethodName := ⟨RX0, "becomeDifference", "(LIntervalTape$Big;LIntervalTape$Big;)V"⟩
abbrev cX0_becomeProduct : ByteArray := prog_2_method_10_code
def yX0_becomeProduct : MethodName := ⟨RX0, "becomeProduct", "(LIntervalTape$Big;LIntervalTape$Big;)V"⟩
abbrev cX0_timesPlus : ByteArray := prog_2_method_11_code
def yX0_timesPlus : MethodName := ⟨RX0, "timesPlus", "(II)V"⟩
abbrev cX0_shiftLeft : ByteArray := prog_2_method_12_code
def yX0_shiftLeft : MethodName := ⟨RX0, "shiftLeft", "(I)V"⟩
abbrev cX0_halve : ByteArray := prog_2_method_13_code
def yX0_halve : MethodName := ⟨RX0, "halve", "()V"⟩
abbrev cX0_from : ByteArray := prog_2_method_14_code
def yX0_from : MethodName := ⟨RX0, "from", "(I)J"⟩
abbrev cX0_anyBelow : ByteArray := prog_2_method_15_code
def yX0_anyBelow : MethodName := ⟨RX0, "anyBelow", "(I)Z"⟩
abbrev cX0_push : ByteArray := prog_2_method_16_code
def yX0_push : MethodName := ⟨RX0, "push", "(J)V"⟩
abbrev cX0_trim : ByteArray := prog_2_method_17_code
def yX0_trim : MethodName := ⟨RX0, "trim", "()V"⟩
def RX1 : String := "IntervalTape$Cell"
def TX1 : u_T := fun k => match k with
  | 0 => ("IntervalTape$Cell", "low", "J", false)
  | 1 => ("IntervalTape$Cell", "high", "J", false)
  | 2 => ("IntervalTape$Cell", "mark", "I", false)
  | 3 => ("IntervalTape$Cell", "kind", "I", false)
  | 4 => ("IntervalTape$Cell", "operation", "I", false)
  | 5 => ("IntervalTape$Cell", "x", "LIntervalTape$Cell;", false)
  | 6 => ("IntervalTape$Cell", "y", "LIntervalTape$Cell;", false)
  | 7 => ("IntervalTape$Cell", "z", "LIntervalTape$Cell;", false)
  | _ => ("IntervalTape$Cell", "text", "[B", false)
def tyX1 : Nat → FieldType := fun k => match k with
  | 0 => .long
  | 1 => .long
  | 2 => .int
  | 3 => .int
  | 4 => .int
  | 5 => .object "IntervalTape$Cell"
  | 6 => .object "IntervalTape$Cell"
  | 7 => .object "IntervalTape$Cell"
  | _ => .array .byte
theorem nmX1 : ∀ a, a < 9 → ∀ b, b < 9 → a ≠ b → (TX1 a).2.1 ≠ (TX1 b).2.1 := by decide +kernel
theorem tyX1_ok : ∀ k, k < 9 → parseFieldDescriptor (TX1 k).2.2.1 = some (tyX1 k) := by decide +kernel
abbrev cX1_init : ByteArray := prog_3_method_1_code
def yX1_init : MethodName := ⟨RX1, "<init>", "()V"⟩
abbrev cX1_become : ByteArray := prog_3_method_2_code
def yX1_become : MethodName := ⟨RX1, "become", "(JJ)V"⟩
abbrev cX1_isEmpty : ByteArray := prog_3_method_3_code
def yX1_isEmpty : MethodName := ⟨RX1, "isEmpty", "()Z"⟩
abbrev cX1_isBounded : ByteArray := prog_3_method_4_code
def yX1_isBounded : MethodName := ⟨RX1, "isBounded", "()Z"⟩
abbrev cX1_hasZero : ByteArray := prog_3_method_5_code
def yX1_hasZero : MethodName := ⟨RX1, "hasZero", "()Z"⟩
abbrev cX1_isZero : ByteArray := prog_3_method_6_code
def yX1_isZero : MethodName := ⟨RX1, "isZero", "()Z"⟩
abbrev cX1_greatestSize : ByteArray := prog_3_method_7_code
def yX1_greatestSize : MethodName := ⟨RX1, "greatestSize", "()J"⟩
abbrev cX1_leastSize : ByteArray := prog_3_method_8_code
def yX1_leastSize : MethodName := ⟨RX1, "leastSize", "()J"⟩
abbrev cX1_strongest : ByteArray := prog_3_method_9_code
def yX1_strongest : MethodName := ⟨RX1, "strongest", "()I"⟩
abbrev cX1_isSuch : ByteArray := prog_3_method_10_code
def yX1_isSuch : MethodName := ⟨RX1, "isSuch", "(I)Z"⟩
def RX2 : String := "IntervalTape$Ends"
def TX2 : u_T := fun k => match k with
  | 0 => ("IntervalTape$Ends", "empty", "Z", false)
  | 1 => ("IntervalTape$Ends", "low", "LIntervalTape$Real;", true)
  | 2 => ("IntervalTape$Ends", "high", "LIntervalTape$Real;", true)
  | 3 => ("IntervalTape$Ends", "left", "LIntervalTape$Real;", true)
  | 4 => ("IntervalTape$Ends", "right", "LIntervalTape$Real;", true)
  | 5 => ("IntervalTape$Ends", "corner", "LIntervalTape$Real;", true)
  | _ => ("IntervalTape$Ends", "exact", "LIntervalTape$Exact;", true)
def tyX2 : Nat → FieldType := fun k => match k with
  | 0 => .boolean
  | 1 => .object "IntervalTape$Real"
  | 2 => .object "IntervalTape$Real"
  | 3 => .object "IntervalTape$Real"
  | 4 => .object "IntervalTape$Real"
  | 5 => .object "IntervalTape$Real"
  | _ => .object "IntervalTape$Exact"
theorem nmX2 : ∀ a, a < 7 → ∀ b, b < 7 → a ≠ b → (TX2 a).2.1 ≠ (TX2 b).2.1 := by decide +kernel
theorem tyX2_ok : ∀ k, k < 7 → parseFieldDescriptor (TX2 k).2.2.1 = some (tyX2 k) := by decide +kernel
abbrev cX2_init : ByteArray := prog_4_method_1_code
def yX2_init : MethodName := ⟨RX2, "<init>", "(LIntervalTape$Exact;)V"⟩
abbrev cX2_fill : ByteArray := prog_4_method_2_code
def yX2_fill : MethodName := ⟨RX2, "fill", "(LIntervalTape$Cell;)V"⟩
abbrev cX2_becomeRanks : ByteArray := prog_4_method_3_code
def yX2_becomeRanks : MethodName := ⟨RX2, "becomeRanks", "(JJ)V"⟩
abbrev cX2_sum : ByteArray := prog_4_method_4_code
def yX2_sum : MethodName := ⟨RX2, "sum", "(LIntervalTape$Real;JJ)V"⟩
abbrev cX2_quotient : ByteArray := prog_4_method_5_code
def yX2_quotient : MethodName := ⟨RX2, "quotient", "(LIntervalTape$Real;JJ)V"⟩
abbrev cX2_addTo : ByteArray := prog_4_method_6_code
def yX2_addTo : MethodName := ⟨RX2, "addTo", "(LIntervalTape$Real;J)V"⟩
abbrev cX2_fillOne : ByteArray := prog_4_method_7_code
def yX2_fillOne : MethodName := ⟨RX2, "fillOne", "(ILIntervalTape$Cell;)V"⟩
abbrev cX2_fillTwo : ByteArray := prog_4_method_8_code
def yX2_fillTwo : MethodName := ⟨RX2, "fillTwo", "(ILIntervalTape$Cell;LIntervalTape$Cell;)V"⟩
abbrev cX2_multiply : ByteArray := prog_4_method_9_code
def yX2_multiply : MethodName := ⟨RX2, "multiply", "(LIntervalTape$Cell;LIntervalTape$Cell;)V"⟩
abbrev cX2_divide : ByteArray := prog_4_method_10_code
def yX2_divide : MethodName := ⟨RX2, "divide", "(LIntervalTape$Cell;LIntervalTape$Cell;)V"⟩
abbrev cX2_raise : ByteArray := prog_4_method_11_code
def yX2_raise : MethodName := ⟨RX2, "raise", "(LIntervalTape$Cell;I)V"⟩
def RX3 : String := "IntervalTape$Exact"
def TX3 : u_T := fun k => match k with
  | 0 => ("IntervalTape$Exact", "left", "LIntervalTape$Big;", true)
  | 1 => ("IntervalTape$Exact", "right", "LIntervalTape$Big;", true)
  | 2 => ("IntervalTape$Exact", "probe", "LIntervalTape$Real;", true)
  | _ => ("IntervalTape$Exact", "inexact", "Z", false)
def tyX3 : Nat → FieldType := fun k => match k with
  | 0 => .object "IntervalTape$Big"
  | 1 => .object "IntervalTape$Big"
  | 2 => .object "IntervalTape$Real"
  | _ => .boolean
theorem nmX3 : ∀ a, a < 4 → ∀ b, b < 4 → a ≠ b → (TX3 a).2.1 ≠ (TX3 b).2.1 := by decide +kernel
theorem tyX3_ok : ∀ k, k < 4 → parseFieldDescriptor (TX3 k).2.2.1 = some (tyX3 k) := by decide +kernel
abbrev cX3_init : ByteArray := prog_5_method_1_code
def yX3_init : MethodName := ⟨RX3, "<init>", "()V"⟩
abbrev cX3_order : ByteArray := prog_5_method_2_code
def yX3_order : MethodName := ⟨RX3, "order", "(LIntervalTape$Real;LIntervalTape$Real;)I"⟩
abbrev cX3_orderRank : ByteArray := prog_5_method_3_code
def yX3_orderRank : MethodName := ⟨RX3, "orderRank", "(JLIntervalTape$Real;)I"⟩
abbrev cX3_down : ByteArray := prog_5_method_4_code
def yX3_down : MethodName := ⟨RX3, "down", "(LIntervalTape$Real;)J"⟩
abbrev cX3_up : ByteArray := prog_5_method_5_code
def yX3_up : MethodName := ⟨RX3, "up", "(LIntervalTape$Real;)J"⟩
abbrev cX3_nearest : ByteArray := prog_5_method_6_code
def yX3_nearest : MethodName := ⟨RX3, "nearest", "(LIntervalTape$Real;)J"⟩
abbrev cX3_size : ByteArray := prog_5_method_7_code
def yX3_size : MethodName := ⟨RX3, "size", "(LIntervalTape$Real;)J"⟩
abbrev cX3_whole : ByteArray := prog_5_method_8_code
def yX3_whole : MethodName := ⟨RX3, "whole", "(LIntervalTape$Real;I)J"⟩
abbrev cX3_rootSize : ByteArray := prog_5_method_9_code
def yX3_rootSize : MethodName := ⟨RX3, "rootSize", "(LIntervalTape$Real;)J"⟩
abbrev cX3_bitAt : ByteArray := prog_5_method_10_code
def yX3_bitAt : MethodName := ⟨RX3, "bitAt", "(JI)J"⟩
def RX4 : String := "IntervalTape$Floats"
def TX4 : u_T := fun k => match k with
  | _ => ("", "", "", false)
def tyX4 : Nat → FieldType := fun k => match k with
  | _ => .int
theorem nmX4 : ∀ a, a < 0 → ∀ b, b < 0 → a ≠ b → (TX4 a).2.1 ≠ (TX4 b).2.1 := by decide +kernel
theorem tyX4_ok : ∀ k, k < 0 → parseFieldDescriptor (TX4 k).2.2.1 = some (tyX4 k) := by decide +kernel
abbrev cX4_isNan : ByteArray := prog_6_method_2_code
def yX4_isNan : MethodName := ⟨RX4, "isNan", "(J)Z"⟩
abbrev cX4_rankOf : ByteArray := prog_6_method_3_code
def yX4_rankOf : MethodName := ⟨RX4, "rankOf", "(J)J"⟩
abbrev cX4_bitsOf : ByteArray := prog_6_method_4_code
def yX4_bitsOf : MethodName := ⟨RX4, "bitsOf", "(J)J"⟩
abbrev cX4_scale : ByteArray := prog_6_method_5_code
def yX4_scale : MethodName := ⟨RX4, "scale", "(J)I"⟩
abbrev cX4_significand : ByteArray := prog_6_method_6_code
def yX4_significand : MethodName := ⟨RX4, "significand", "(J)J"⟩
abbrev cX4_exponent : ByteArray := prog_6_method_7_code
def yX4_exponent : MethodName := ⟨RX4, "exponent", "(J)I"⟩
abbrev cX4_cut : ByteArray := prog_6_method_8_code
def yX4_cut : MethodName := ⟨RX4, "cut", "(J)J"⟩
abbrev cX4_nextWhole : ByteArray := prog_6_method_9_code
def yX4_nextWhole : MethodName := ⟨RX4, "nextWhole", "(J)J"⟩
abbrev cX4_raised : ByteArray := prog_6_method_10_code
def yX4_raised : MethodName := ⟨RX4, "raised", "(J)J"⟩
abbrev cX4_mayHaveHalf : ByteArray := prog_6_method_11_code
def yX4_mayHaveHalf : MethodName := ⟨RX4, "mayHaveHalf", "(J)Z"⟩
abbrev cX4_isHalfway : ByteArray := prog_6_method_12_code
def yX4_isHalfway : MethodName := ⟨RX4, "isHalfway", "(J)Z"⟩
abbrev cX4_evened : ByteArray := prog_6_method_13_code
def yX4_evened : MethodName := ⟨RX4, "evened", "(J)J"⟩
abbrev cX4_step : ByteArray := prog_6_method_14_code
def yX4_step : MethodName := ⟨RX4, "step", "(IJ)J"⟩
abbrev cX4_jumps : ByteArray := prog_6_method_15_code
def yX4_jumps : MethodName := ⟨RX4, "jumps", "(IJ)Z"⟩
def RX5 : String := "IntervalTape$Gauge"
def TX5 : u_T := fun k => match k with
  | 0 => ("IntervalTape$Gauge", "ends", "LIntervalTape$Ends;", true)
  | _ => ("IntervalTape$Gauge", "exact", "LIntervalTape$Exact;", true)
def tyX5 : Nat → FieldType := fun k => match k with
  | 0 => .object "IntervalTape$Ends"
  | _ => .object "IntervalTape$Exact"
theorem nmX5 : ∀ a, a < 2 → ∀ b, b < 2 → a ≠ b → (TX5 a).2.1 ≠ (TX5 b).2.1 := by decide +kernel
theorem tyX5_ok : ∀ k, k < 2 → parseFieldDescriptor (TX5 k).2.2.1 = some (tyX5 k) := by decide +kernel
abbrev cX5_init : ByteArray := prog_7_method_1_code
def yX5_init : MethodName := ⟨RX5, "<init>", "(LIntervalTape$Ends;LIntervalTape$Exact;)V"⟩
abbrev cX5_measure : ByteArray := prog_7_method_2_code
def yX5_measure : MethodName := ⟨RX5, "measure", "(LIntervalTape$Cell;I)J"⟩
abbrev cX5_middle : ByteArray := prog_7_method_3_code
def yX5_middle : MethodName := ⟨RX5, "middle", "(LIntervalTape$Cell;)J"⟩
abbrev cX5_distance : ByteArray := prog_7_method_4_code
def yX5_distance : MethodName := ⟨RX5, "distance", "(JJ)J"⟩
abbrev cX5_stand : ByteArray := prog_7_method_5_code
def yX5_stand : MethodName := ⟨RX5, "stand", "(LIntervalTape$Cell;LIntervalTape$Cell;I)Z"⟩
abbrev cX5_standEmpty : ByteArray := prog_7_method_6_code
def yX5_standEmpty : MethodName := ⟨RX5, "standEmpty", "(LIntervalTape$Cell;LIntervalTape$Cell;I)Z"⟩
abbrev cX5_isBeyond : ByteArray := prog_7_method_7_code
def yX5_isBeyond : MethodName := ⟨RX5, "isBeyond", "(JJ)Z"⟩
def RX6 : String := "IntervalTape$Marks"
def TX6 : u_T := fun k => match k with
  | _ => ("", "", "", false)
def tyX6 : Nat → FieldType := fun k => match k with
  | _ => .int
theorem nmX6 : ∀ a, a < 0 → ∀ b, b < 0 → a ≠ b → (TX6 a).2.1 ≠ (TX6 b).2.1 := by decide +kernel
theorem tyX6_ok : ∀ k, k < 0 → parseFieldDescriptor (TX6 k).2.2.1 = some (tyX6 k) := by decide +kernel
abbrev cX6_own : ByteArray := prog_8_method_2_code
def yX6_own : MethodName := ⟨RX6, "own", "(LIntervalTape$Cell;)I"⟩
abbrev cX6_isDefined : ByteArray := prog_8_method_3_code
def yX6_isDefined : MethodName := ⟨RX6, "isDefined", "(LIntervalTape$Cell;LIntervalTape$Cell;LIntervalTape$Cell;)Z"⟩
def RX7 : String := "IntervalTape$Reader"
def TX7 : u_T := fun k => match k with
  | 0 => ("IntervalTape$Reader", "ends", "LIntervalTape$Ends;", true)
  | 1 => ("IntervalTape$Reader", "exact", "LIntervalTape$Exact;", true)
  | 2 => ("IntervalTape$Reader", "text", "[B", false)
  | 3 => ("IntervalTape$Reader", "at", "I", false)
  | 4 => ("IntervalTape$Reader", "given", "I", false)
  | 5 => ("IntervalTape$Reader", "behind", "I", false)
  | 6 => ("IntervalTape$Reader", "fine", "Z", false)
  | _ => ("IntervalTape$Reader", "open", "Z", false)
def tyX7 : Nat → FieldType := fun k => match k with
  | 0 => .object "IntervalTape$Ends"
  | 1 => .object "IntervalTape$Exact"
  | 2 => .array .byte
  | 3 => .int
  | 4 => .int
  | 5 => .int
  | 6 => .boolean
  | _ => .boolean
theorem nmX7 : ∀ a, a < 8 → ∀ b, b < 8 → a ≠ b → (TX7 a).2.1 ≠ (TX7 b).2.1 := by decide +kernel
theorem tyX7_ok : ∀ k, k < 8 → parseFieldDescriptor (TX7 k).2.2.1 = some (tyX7 k) := by decide +kernel
abbrev cX7_init : ByteArray := prog_9_method_1_code
def yX7_init : MethodName := ⟨RX7, "<init>", "(LIntervalTape$Ends;LIntervalTape$Exact;)V"⟩
abbrev cX7_read : ByteArray := prog_9_method_2_code
def yX7_read : MethodName := ⟨RX7, "read", "([B)Z"⟩
abbrev cX7_lower : ByteArray := prog_9_method_3_code
def yX7_lower : MethodName := ⟨RX7, "lower", "()V"⟩
abbrev cX7_peek : ByteArray := prog_9_method_4_code
def yX7_peek : MethodName := ⟨RX7, "peek", "()I"⟩
abbrev cX7_take : ByteArray := prog_9_method_5_code
def yX7_take : MethodName := ⟨RX7, "take", "(I)Z"⟩
abbrev cX7_takeWord : ByteArray := prog_9_method_6_code
def yX7_takeWord : MethodName := ⟨RX7, "takeWord", "(Ljava/lang/String;II)Z"⟩
abbrev cX7_skipBlanks : ByteArray := prog_9_method_7_code
def yX7_skipBlanks : MethodName := ⟨RX7, "skipBlanks", "()V"⟩
abbrev cX7_readMark : ByteArray := prog_9_method_8_code
def yX7_readMark : MethodName := ⟨RX7, "readMark", "()V"⟩
abbrev cX7_readBrackets : ByteArray := prog_9_method_9_code
def yX7_readBrackets : MethodName := ⟨RX7, "readBrackets", "()V"⟩
abbrev cX7_takeInfinity : ByteArray := prog_9_method_10_code
def yX7_takeInfinity : MethodName := ⟨RX7, "takeInfinity", "(Ljava/lang/String;I)Z"⟩
abbrev cX7_takeSign : ByteArray := prog_9_method_11_code
def yX7_takeSign : MethodName := ⟨RX7, "takeSign", "()I"⟩
abbrev cX7_readNumber : ByteArray := prog_9_method_12_code
def yX7_readNumber : MethodName := ⟨RX7, "readNumber", "(LIntervalTape$Real;)V"⟩
abbrev cX7_takeDigits : ByteArray := prog_9_method_13_code
def yX7_takeDigits : MethodName := ⟨RX7, "takeDigits", "(LIntervalTape$Big;IZ)Z"⟩
abbrev cX7_digitOf : ByteArray := prog_9_method_14_code
def yX7_digitOf : MethodName := ⟨RX7, "digitOf", "(I)I"⟩
abbrev cX7_takeExponent : ByteArray := prog_9_method_15_code
def yX7_takeExponent : MethodName := ⟨RX7, "takeExponent", "(I)I"⟩
abbrev cX7_readUncertain : ByteArray := prog_9_method_16_code
def yX7_readUncertain : MethodName := ⟨RX7, "readUncertain", "()V"⟩
abbrev cX7_readRadius : ByteArray := prog_9_method_17_code
def yX7_readRadius : MethodName := ⟨RX7, "readRadius", "(LIntervalTape$Real;)V"⟩
def RX8 : String := "IntervalTape$Real"
def TX8 : u_T := fun k => match k with
  | 0 => ("IntervalTape$Real", "sign", "I", false)
  | 1 => ("IntervalTape$Real", "exponent", "I", false)
  | 2 => ("IntervalTape$Real", "infinite", "Z", false)
  | 3 => ("IntervalTape$Real", "root", "Z", false)
  | 4 => ("IntervalTape$Real", "top", "LIntervalTape$Big;", true)
  | _ => ("IntervalTape$Real", "bottom", "LIntervalTape$Big;", true)
def tyX8 : Nat → FieldType := fun k => match k with
  | 0 => .int
  | 1 => .int
  | 2 => .boolean
  | 3 => .boolean
  | 4 => .object "IntervalTape$Big"
  | _ => .object "IntervalTape$Big"
theorem nmX8 : ∀ a, a < 6 → ∀ b, b < 6 → a ≠ b → (TX8 a).2.1 ≠ (TX8 b).2.1 := by decide +kernel
theorem tyX8_ok : ∀ k, k < 6 → parseFieldDescriptor (TX8 k).2.2.1 = some (tyX8 k) := by decide +kernel
abbrev cX8_init : ByteArray := prog_10_method_1_code
def yX8_init : MethodName := ⟨RX8, "<init>", "()V"⟩
abbrev cX8_becomeWhole : ByteArray := prog_10_method_2_code
def yX8_becomeWhole : MethodName := ⟨RX8, "becomeWhole", "(II)V"⟩
abbrev cX8_becomeRank : ByteArray := prog_10_method_3_code
def yX8_becomeRank : MethodName := ⟨RX8, "becomeRank", "(J)V"⟩
abbrev cX8_becomeInfinite : ByteArray := prog_10_method_4_code
def yX8_becomeInfinite : MethodName := ⟨RX8, "becomeInfinite", "(I)V"⟩
abbrev cX8_become : ByteArray := prog_10_method_5_code
def yX8_become : MethodName := ⟨RX8, "become", "(LIntervalTape$Real;)V"⟩
abbrev cX8_becomeProduct : ByteArray := prog_10_method_6_code
def yX8_becomeProduct : MethodName := ⟨RX8, "becomeProduct", "(LIntervalTape$Real;LIntervalTape$Real;)V"⟩
abbrev cX8_becomeQuotient : ByteArray := prog_10_method_7_code
def yX8_becomeQuotient : MethodName := ⟨RX8, "becomeQuotient", "(LIntervalTape$Real;LIntervalTape$Real;)V"⟩
abbrev cX8_becomeSum : ByteArray := prog_10_method_8_code
def yX8_becomeSum : MethodName := ⟨RX8, "becomeSum", "(LIntervalTape$Real;LIntervalTape$Real;)V"⟩
abbrev cX8_becomePower : ByteArray := prog_10_method_9_code
def yX8_becomePower : MethodName := ⟨RX8, "becomePower", "(LIntervalTape$Real;I)V"⟩
abbrev cX8_timesTen : ByteArray := prog_10_method_10_code
def yX8_timesTen : MethodName := ⟨RX8, "timesTen", "(I)V"⟩
abbrev cX8_level : ByteArray := prog_10_method_11_code
def yX8_level : MethodName := ⟨RX8, "level", "()I"⟩
def RX9 : String := "IntervalTape$Sets"
def TX9 : u_T := fun k => match k with
  | 0 => ("IntervalTape$Sets", "ends", "LIntervalTape$Ends;", true)
  | _ => ("IntervalTape$Sets", "exact", "LIntervalTape$Exact;", true)
def tyX9 : Nat → FieldType := fun k => match k with
  | 0 => .object "IntervalTape$Ends"
  | _ => .object "IntervalTape$Exact"
theorem nmX9 : ∀ a, a < 2 → ∀ b, b < 2 → a ≠ b → (TX9 a).2.1 ≠ (TX9 b).2.1 := by decide +kernel
theorem tyX9_ok : ∀ k, k < 2 → parseFieldDescriptor (TX9 k).2.2.1 = some (tyX9 k) := by decide +kernel
abbrev cX9_init : ByteArray := prog_11_method_1_code
def yX9_init : MethodName := ⟨RX9, "<init>", "(LIntervalTape$Ends;LIntervalTape$Exact;)V"⟩
abbrev cX9_made : ByteArray := prog_11_method_2_code
def yX9_made : MethodName := ⟨RX9, "made", "(ILIntervalTape$Cell;LIntervalTape$Cell;)LIntervalTape$Cell;"⟩
abbrev cX9_meet : ByteArray := prog_11_method_3_code
def yX9_meet : MethodName := ⟨RX9, "meet", "(LIntervalTape$Cell;LIntervalTape$Cell;LIntervalTape$Cell;)V"⟩
abbrev cX9_cancel : ByteArray := prog_11_method_4_code
def yX9_cancel : MethodName := ⟨RX9, "cancel", "(LIntervalTape$Cell;LIntervalTape$Cell;LIntervalTape$Cell;JJ)V"⟩
abbrev cX9_part : ByteArray := prog_11_method_5_code
def yX9_part : MethodName := ⟨RX9, "part", "(LIntervalTape$Cell;LIntervalTape$Cell;LIntervalTape$Cell;Z)V"⟩
def RX10 : String := "IntervalTape$Writer"
def TX10 : u_T := fun k => match k with
  | 0 => ("IntervalTape$Writer", "out", "[B", true)
  | 1 => ("IntervalTape$Writer", "value", "LIntervalTape$Real;", true)
  | 2 => ("IntervalTape$Writer", "exact", "LIntervalTape$Exact;", true)
  | _ => ("IntervalTape$Writer", "size", "I", false)
def tyX10 : Nat → FieldType := fun k => match k with
  | 0 => .array .byte
  | 1 => .object "IntervalTape$Real"
  | 2 => .object "IntervalTape$Exact"
  | _ => .int
theorem nmX10 : ∀ a, a < 4 → ∀ b, b < 4 → a ≠ b → (TX10 a).2.1 ≠ (TX10 b).2.1 := by decide +kernel
theorem tyX10_ok : ∀ k, k < 4 → parseFieldDescriptor (TX10 k).2.2.1 = some (tyX10 k) := by decide +kernel
abbrev cX10_init : ByteArray := prog_12_method_1_code
def yX10_init : MethodName := ⟨RX10, "<init>", "(LIntervalTape$Real;LIntervalTape$Exact;)V"⟩
abbrev cX10_render : ByteArray := prog_12_method_2_code
def yX10_render : MethodName := ⟨RX10, "render", "(LIntervalTape$Cell;I)I"⟩
abbrev cX10_eight : ByteArray := prog_12_method_3_code
def yX10_eight : MethodName := ⟨RX10, "eight", "(I)J"⟩
abbrev cX10_put : ByteArray := prog_12_method_4_code
def yX10_put : MethodName := ⟨RX10, "put", "(I)V"⟩
abbrev cX10_putText : ByteArray := prog_12_method_5_code
def yX10_putText : MethodName := ⟨RX10, "putText", "(Ljava/lang/String;II)V"⟩
abbrev cX10_isTwice : ByteArray := prog_12_method_6_code
def yX10_isTwice : MethodName := ⟨RX10, "isTwice", "(I)Z"⟩
abbrev cX10_putEnd : ByteArray := prog_12_method_7_code
def yX10_putEnd : MethodName := ⟨RX10, "putEnd", "(JIZ)V"⟩
abbrev cX10_putHex : ByteArray := prog_12_method_8_code
def yX10_putHex : MethodName := ⟨RX10, "putHex", "(J)V"⟩
abbrev cX10_putDecimal : ByteArray := prog_12_method_9_code
def yX10_putDecimal : MethodName := ⟨RX10, "putDecimal", "(JIZ)V"⟩
abbrev cX10_scaled : ByteArray := prog_12_method_10_code
def yX10_scaled : MethodName := ⟨RX10, "scaled", "(JI)J"⟩
abbrev cX10_putWhole : ByteArray := prog_12_method_11_code
def yX10_putWhole : MethodName := ⟨RX10, "putWhole", "(I)V"⟩
def RX11 : String := "IntervalTape"
def TX11 : u_T := fun k => match k with
  | 0 => ("IntervalTape", "cells", "Ljava/util/ArrayList;", true)
  | 1 => ("IntervalTape", "tape", "[B", true)
  | 2 => ("IntervalTape", "exact", "LIntervalTape$Exact;", true)
  | 3 => ("IntervalTape", "ends", "LIntervalTape$Ends;", true)
  | 4 => ("IntervalTape", "sets", "LIntervalTape$Sets;", true)
  | 5 => ("IntervalTape", "gauge", "LIntervalTape$Gauge;", true)
  | 6 => ("IntervalTape", "reader", "LIntervalTape$Reader;", true)
  | 7 => ("IntervalTape", "writer", "LIntervalTape$Writer;", true)
  | 8 => ("IntervalTape", "tapeSize", "I", false)
  | 9 => ("IntervalTape", "endable", "Z", false)
  | 10 => ("IntervalTape", "looked", "I", false)
  | _ => ("IntervalTape", "wrong", "I", false)
def tyX11 : Nat → FieldType := fun k => match k with
  | 0 => .object "java/util/ArrayList"
  | 1 => .array .byte
  | 2 => .object "IntervalTape$Exact"
  | 3 => .object "IntervalTape$Ends"
  | 4 => .object "IntervalTape$Sets"
  | 5 => .object "IntervalTape$Gauge"
  | 6 => .object "IntervalTape$Reader"
  | 7 => .object "IntervalTape$Writer"
  | 8 => .int
  | 9 => .boolean
  | 10 => .int
  | _ => .int
theorem nmX11 : ∀ a, a < 12 → ∀ b, b < 12 → a ≠ b → (TX11 a).2.1 ≠ (TX11 b).2.1 := by decide +kernel
theorem tyX11_ok : ∀ k, k < 12 → parseFieldDescriptor (TX11 k).2.2.1 = some (tyX11 k) := by decide +kernel
abbrev cX11_init : ByteArray := prog_1_method_1_code
def yX11_init : MethodName := ⟨RX11, "<init>", "()V"⟩
abbrev cX11_feed : ByteArray := prog_1_method_2_code
def yX11_feed : MethodName := ⟨RX11, "feed", "(IIIII)I"⟩
abbrev cX11_end : ByteArray := prog_1_method_3_code
def yX11_end : MethodName := ⟨RX11, "end", "(I)I"⟩
abbrev cX11_literal : ByteArray := prog_1_method_4_code
def yX11_literal : MethodName := ⟨RX11, "literal", "()I"⟩
abbrev cX11_cell : ByteArray := prog_1_method_5_code
def yX11_cell : MethodName := ⟨RX11, "cell", "(JJ)I"⟩
abbrev cX11_mark : ByteArray := prog_1_method_6_code
def yX11_mark : MethodName := ⟨RX11, "mark", "(II)I"⟩
abbrev cX11_one : ByteArray := prog_1_method_7_code
def yX11_one : MethodName := ⟨RX11, "one", "(II)I"⟩
abbrev cX11_two : ByteArray := prog_1_method_8_code
def yX11_two : MethodName := ⟨RX11, "two", "(III)I"⟩
abbrev cX11_fused : ByteArray := prog_1_method_9_code
def yX11_fused : MethodName := ⟨RX11, "fused", "(III)I"⟩
abbrev cX11_power : ByteArray := prog_1_method_10_code
def yX11_power : MethodName := ⟨RX11, "power", "(II)I"⟩
abbrev cX11_count : ByteArray := prog_1_method_11_code
def yX11_count : MethodName := ⟨RX11, "count", "()I"⟩
abbrev cX11_clear : ByteArray := prog_1_method_12_code
def yX11_clear : MethodName := ⟨RX11, "clear", "()I"⟩
abbrev cX11_low : ByteArray := prog_1_method_13_code
def yX11_low : MethodName := ⟨RX11, "low", "(I)J"⟩
abbrev cX11_high : ByteArray := prog_1_method_14_code
def yX11_high : MethodName := ⟨RX11, "high", "(I)J"⟩
abbrev cX11_markOf : ByteArray := prog_1_method_15_code
def yX11_markOf : MethodName := ⟨RX11, "markOf", "(I)I"⟩
abbrev cX11_number : ByteArray := prog_1_method_16_code
def yX11_number : MethodName := ⟨RX11, "number", "(II)J"⟩
abbrev cX11_is : ByteArray := prog_1_method_17_code
def yX11_is : MethodName := ⟨RX11, "is", "(II)I"⟩
abbrev cX11_has : ByteArray := prog_1_method_18_code
def yX11_has : MethodName := ⟨RX11, "has", "(IJ)I"⟩
abbrev cX11_compare : ByteArray := prog_1_method_19_code
def yX11_compare : MethodName := ⟨RX11, "compare", "(III)I"⟩
abbrev cX11_write : ByteArray := prog_1_method_20_code
def yX11_write : MethodName := ⟨RX11, "write", "(II)I"⟩
abbrev cX11_word : ByteArray := prog_1_method_21_code
def yX11_word : MethodName := ⟨RX11, "word", "(I)J"⟩
abbrev cX11_astray : ByteArray := prog_1_method_22_code
def yX11_astray : MethodName := ⟨RX11, "astray", "()I"⟩
abbrev cX11_append : ByteArray := prog_1_method_23_code
def yX11_append : MethodName := ⟨RX11, "append", "(I)V"⟩
abbrev cX11_isThere : ByteArray := prog_1_method_24_code
def yX11_isThere : MethodName := ⟨RX11, "isThere", "(I)Z"⟩
abbrev cX11_isFull : ByteArray := prog_1_method_25_code
def yX11_isFull : MethodName := ⟨RX11, "isFull", "()Z"⟩
abbrev cX11_keep : ByteArray := prog_1_method_26_code
def yX11_keep : MethodName := ⟨RX11, "keep", "(LIntervalTape$Cell;)I"⟩
abbrev cX11_readCell : ByteArray := prog_1_method_27_code
def yX11_readCell : MethodName := ⟨RX11, "readCell", "([B)LIntervalTape$Cell;"⟩
abbrev cX11_reckon : ByteArray := prog_1_method_28_code
def yX11_reckon : MethodName := ⟨RX11, "reckon", "(IILIntervalTape$Cell;LIntervalTape$Cell;LIntervalTape$Cell;)LIntervalTape$Cell;"⟩
abbrev cX11_round : ByteArray := prog_1_method_29_code
def yX11_round : MethodName := ⟨RX11, "round", "(LIntervalTape$Cell;)V"⟩
abbrev cX11_isAstray : ByteArray := prog_1_method_30_code
def yX11_isAstray : MethodName := ⟨RX11, "isAstray", "(LIntervalTape$Cell;)Z"⟩
def RX12 : String := "IntervalTapeModel$Big"
def TX12 : u_T := fun k => match k with
  | 0 => ("IntervalTapeModel$Big", "d", "[I", true)
  | _ => ("IntervalTapeModel$Big", "n", "I", false)
def tyX12 : Nat → FieldType := fun k => match k with
  | 0 => .array .int
  | _ => .int
theorem nmX12 : ∀ a, a < 2 → ∀ b, b < 2 → a ≠ b → (TX12 a).2.1 ≠ (TX12 b).2.1 := by decide +kernel
theorem tyX12_ok : ∀ k, k < 2 → parseFieldDescriptor (TX12 k).2.2.1 = some (tyX12 k) := by decide +kernel
abbrev cX12_init : ByteArray := prog_15_method_1_code
def yX12_init : MethodName := ⟨RX12, "<init>", "()V"⟩
abbrev cX12_set : ByteArray := prog_15_method_2_code
def yX12_set : MethodName := ⟨RX12, "set", "(J)V"⟩
abbrev cX12_copy : ByteArray := prog_15_method_3_code
def yX12_copy : MethodName := ⟨RX12, "copy", "(LIntervalTapeModel$Big;)V"⟩
abbrev cX12_bits : ByteArray := prog_15_method_4_code
def yX12_bits : MethodName := ⟨RX12, "bits", "()I"⟩
abbrev cX12_isOne : ByteArray := prog_15_method_5_code
def yX12_isOne : MethodName := ⟨RX12, "isOne", "()Z"⟩
abbrev cX12_grow : ByteArray := prog_15_method_6_code
def yX12_grow : MethodName := ⟨RX12, "grow", "(II)V"⟩
abbrev cX12_product : ByteArray := prog_15_method_7_code
def yX12_product : MethodName := ⟨RX12, "product", "(LIntervalTapeModel$Big;LIntervalTapeModel$Big;)V"⟩
abbrev cX12_trim : ByteArray := prog_15_method_8_code
def yX12_trim : MethodName := ⟨RX12, "trim", "()V"⟩
abbrev cX12_shift : ByteArray := prog_15_method_9_code
def yX12_shift : MethodName := ⟨RX12, "shift", "(I)V"⟩
abbrev cX12_compare : ByteArray := prog_15_method_10_code
def yX12_compare : MethodName := ⟨RX12, "compare", "(LIntervalTapeModel$Big;)I"⟩
abbrev cX12_add : ByteArray := prog_15_method_11_code
def yX12_add : MethodName := ⟨RX12, "add", "(LIntervalTapeModel$Big;)V"⟩
abbrev cX12_subtract : ByteArray := prog_15_method_12_code
def yX12_subtract : MethodName := ⟨RX12, "subtract", "(LIntervalTapeModel$Big;)V"⟩
def RX13 : String := "IntervalTapeModel$Num"
def TX13 : u_T := fun k => match k with
  | 0 => ("IntervalTapeModel$Num", "below", "Z", false)
  | 1 => ("IntervalTapeModel$Num", "p", "LIntervalTapeModel$Big;", true)
  | 2 => ("IntervalTapeModel$Num", "q", "LIntervalTapeModel$Big;", true)
  | _ => ("IntervalTapeModel$Num", "e", "I", false)
def tyX13 : Nat → FieldType := fun k => match k with
  | 0 => .boolean
  | 1 => .object "IntervalTapeModel$Big"
  | 2 => .object "IntervalTapeModel$Big"
  | _ => .int
theorem nmX13 : ∀ a, a < 4 → ∀ b, b < 4 → a ≠ b → (TX13 a).2.1 ≠ (TX13 b).2.1 := by decide +kernel
theorem tyX13_ok : ∀ k, k < 4 → parseFieldDescriptor (TX13 k).2.2.1 = some (tyX13 k) := by decide +kernel
abbrev cX13_init : ByteArray := prog_16_method_1_code
def yX13_init : MethodName := ⟨RX13, "<init>", "()V"⟩
abbrev cX13_set : ByteArray := prog_16_method_2_code
def yX13_set : MethodName := ⟨RX13, "set", "(J)V"⟩
abbrev cX13_copy : ByteArray := prog_16_method_3_code
def yX13_copy : MethodName := ⟨RX13, "copy", "(LIntervalTapeModel$Num;)V"⟩
abbrev cX13_sign : ByteArray := prog_16_method_4_code
def yX13_sign : MethodName := ⟨RX13, "sign", "()I"⟩
abbrev cX13_setFloat : ByteArray := prog_16_method_5_code
def yX13_setFloat : MethodName := ⟨RX13, "setFloat", "(J)V"⟩
abbrev cX13_times : ByteArray := prog_16_method_6_code
def yX13_times : MethodName := ⟨RX13, "times", "(LIntervalTapeModel$Num;LIntervalTapeModel$Num;)V"⟩
abbrev cX13_over : ByteArray := prog_16_method_7_code
def yX13_over : MethodName := ⟨RX13, "over", "(LIntervalTapeModel$Num;LIntervalTapeModel$Num;)V"⟩
abbrev cX13_plus : ByteArray := prog_16_method_8_code
def yX13_plus : MethodName := ⟨RX13, "plus", "(LIntervalTapeModel$Num;LIntervalTapeModel$Num;)V"⟩
def RX14 : String := "IntervalTapeModel"
def TX14 : u_T := fun k => match k with
  | 0 => ("IntervalTapeModel", "left", "LIntervalTapeModel$Big;", true)
  | 1 => ("IntervalTapeModel", "right", "LIntervalTapeModel$Big;", true)
  | 2 => ("IntervalTapeModel", "probe", "LIntervalTapeModel$Num;", true)
  | 3 => ("IntervalTapeModel", "square", "LIntervalTapeModel$Num;", true)
  | 4 => ("IntervalTapeModel", "opposite", "LIntervalTapeModel$Num;", true)
  | 5 => ("IntervalTapeModel", "loose", "Z", false)
  | 6 => ("IntervalTapeModel", "tapeSize", "I", false)
  | 7 => ("IntervalTapeModel", "fed", "Z", false)
  | 8 => ("IntervalTapeModel", "tape", "[I", true)
  | 9 => ("IntervalTapeModel", "outSize", "I", false)
  | 10 => ("IntervalTapeModel", "out", "[I", true)
  | 11 => ("IntervalTapeModel", "cells", "I", false)
  | 12 => ("IntervalTapeModel", "lows", "[J", true)
  | 13 => ("IntervalTapeModel", "highs", "[J", true)
  | 14 => ("IntervalTapeModel", "marks", "[I", true)
  | 15 => ("IntervalTapeModel", "astray", "I", false)
  | 16 => ("IntervalTapeModel", "none", "Z", false)
  | 17 => ("IntervalTapeModel", "low", "J", false)
  | 18 => ("IntervalTapeModel", "high", "J", false)
  | 19 => ("IntervalTapeModel", "one", "LIntervalTapeModel$Num;", true)
  | 20 => ("IntervalTapeModel", "two", "LIntervalTapeModel$Num;", true)
  | 21 => ("IntervalTapeModel", "three", "LIntervalTapeModel$Num;", true)
  | 22 => ("IntervalTapeModel", "four", "LIntervalTapeModel$Num;", true)
  | 23 => ("IntervalTapeModel", "mantissaScale", "I", false)
  | 24 => ("IntervalTapeModel", "exponent", "I", false)
  | 25 => ("IntervalTapeModel", "good", "Z", false)
  | _ => ("IntervalTapeModel", "open", "Z", false)
def tyX14 : Nat → FieldType := fun k => match k with
  | 0 => .object "IntervalTapeModel$Big"
  | 1 => .object "IntervalTapeModel$Big"
  | 2 => .object "IntervalTapeModel$Num"
  | 3 => .object "IntervalTapeModel$Num"
  | 4 => .object "IntervalTapeModel$Num"
  | 5 => .boolean
  | 6 => .int
  | 7 => .boolean
  | 8 => .array .int
  | 9 => .int
  | 10 => .array .int
  | 11 => .int
  | 12 => .array .long
  | 13 => .array .long
  | 14 => .array .int
  | 15 => .int
  | 16 => .boolean
  | 17 => .long
  | 18 => .long
  | 19 => .object "IntervalTapeModel$Num"
  | 20 => .object "IntervalTapeModel$Num"
  | 21 => .object "IntervalTapeModel$Num"
  | 22 => .object "IntervalTapeModel$Num"
  | 23 => .int
  | 24 => .int
  | 25 => .boolean
  | _ => .boolean
theorem nmX14 : ∀ a, a < 27 → ∀ b, b < 27 → a ≠ b → (TX14 a).2.1 ≠ (TX14 b).2.1 := by decide +kernel
theorem tyX14_ok : ∀ k, k < 27 → parseFieldDescriptor (TX14 k).2.2.1 = some (tyX14 k) := by decide +kernel
abbrev cX14_compareSizes : ByteArray := prog_14_method_1_code
def yX14_compareSizes : MethodName := ⟨RX14, "compareSizes", "(LIntervalTapeModel$Num;LIntervalTapeModel$Num;)I"⟩
abbrev cX14_orderOf : ByteArray := prog_14_method_2_code
def yX14_orderOf : MethodName := ⟨RX14, "orderOf", "(LIntervalTapeModel$Num;LIntervalTapeModel$Num;)I"⟩
abbrev cX14_order : ByteArray := prog_14_method_3_code
def yX14_order : MethodName := ⟨RX14, "order", "(J)J"⟩
abbrev cX14_floatOf : ByteArray := prog_14_method_4_code
def yX14_floatOf : MethodName := ⟨RX14, "floatOf", "(J)J"⟩
abbrev cX14_minus : ByteArray := prog_14_method_5_code
def yX14_minus : MethodName := ⟨RX14, "minus", "(J)J"⟩
abbrev cX14_down : ByteArray := prog_14_method_6_code
def yX14_down : MethodName := ⟨RX14, "down", "(LIntervalTapeModel$Num;)J"⟩
abbrev cX14_up : ByteArray := prog_14_method_7_code
def yX14_up : MethodName := ⟨RX14, "up", "(LIntervalTapeModel$Num;)J"⟩
abbrev cX14_rootDown : ByteArray := prog_14_method_8_code
def yX14_rootDown : MethodName := ⟨RX14, "rootDown", "(LIntervalTapeModel$Num;)J"⟩
abbrev cX14_rootUp : ByteArray := prog_14_method_9_code
def yX14_rootUp : MethodName := ⟨RX14, "rootUp", "(LIntervalTapeModel$Num;)J"⟩
abbrev cX14_init : ByteArray := prog_14_method_10_code
def yX14_init : MethodName := ⟨RX14, "<init>", "()V"⟩
abbrev cX14_feedInt : ByteArray := prog_14_method_11_code
def yX14_feedInt : MethodName := ⟨RX14, "feedInt", "(I)V"⟩
abbrev cX14_feed : ByteArray := prog_14_method_12_code
def yX14_feed : MethodName := ⟨RX14, "feed", "(IIIII)I"⟩
abbrev cX14_end : ByteArray := prog_14_method_13_code
def yX14_end : MethodName := ⟨RX14, "end", "(I)I"⟩
abbrev cX14_isInfinite : ByteArray := prog_14_method_14_code
def yX14_isInfinite : MethodName := ⟨RX14, "isInfinite", "(J)Z"⟩
abbrev cX14_least : ByteArray := prog_14_method_15_code
def yX14_least : MethodName := ⟨RX14, "least", "(JJ)J"⟩
abbrev cX14_most : ByteArray := prog_14_method_16_code
def yX14_most : MethodName := ⟨RX14, "most", "(JJ)J"⟩
abbrev cX14_keep : ByteArray := prog_14_method_17_code
def yX14_keep : MethodName := ⟨RX14, "keep", "(I)I"⟩
abbrev cX14_isBounded : ByteArray := prog_14_method_18_code
def yX14_isBounded : MethodName := ⟨RX14, "isBounded", "()Z"⟩
abbrev cX14_strongest : ByteArray := prog_14_method_19_code
def yX14_strongest : MethodName := ⟨RX14, "strongest", "()I"⟩
abbrev cX14_isCell : ByteArray := prog_14_method_20_code
def yX14_isCell : MethodName := ⟨RX14, "isCell", "(I)Z"⟩
abbrev cX14_isEmpty : ByteArray := prog_14_method_21_code
def yX14_isEmpty : MethodName := ⟨RX14, "isEmpty", "(I)Z"⟩
abbrev cX14_isBoundedCell : ByteArray := prog_14_method_22_code
def yX14_isBoundedCell : MethodName := ⟨RX14, "isBoundedCell", "(I)Z"⟩
abbrev cX14_hasZero : ByteArray := prog_14_method_23_code
def yX14_hasZero : MethodName := ⟨RX14, "hasZero", "(I)Z"⟩
abbrev cX14_mayBe : ByteArray := prog_14_method_24_code
def yX14_mayBe : MethodName := ⟨RX14, "mayBe", "(JZ)Z"⟩
abbrev cX14_plainZero : ByteArray := prog_14_method_25_code
def yX14_plainZero : MethodName := ⟨RX14, "plainZero", "(J)J"⟩
abbrev cX14_cell : ByteArray := prog_14_method_26_code
def yX14_cell : MethodName := ⟨RX14, "cell", "(JJ)I"⟩
abbrev cX14_load : ByteArray := prog_14_method_27_code
def yX14_load : MethodName := ⟨RX14, "load", "(I)V"⟩
abbrev cX14_mark : ByteArray := prog_14_method_28_code
def yX14_mark : MethodName := ⟨RX14, "mark", "(II)I"⟩
abbrev cX14_begin : ByteArray := prog_14_method_29_code
def yX14_begin : MethodName := ⟨RX14, "begin", "()V"⟩
abbrev cX14_takeLow : ByteArray := prog_14_method_30_code
def yX14_takeLow : MethodName := ⟨RX14, "takeLow", "(LIntervalTapeModel$Num;)V"⟩
abbrev cX14_takeHigh : ByteArray := prog_14_method_31_code
def yX14_takeHigh : MethodName := ⟨RX14, "takeHigh", "(LIntervalTapeModel$Num;)V"⟩
abbrev cX14_takeFloat : ByteArray := prog_14_method_32_code
def yX14_takeFloat : MethodName := ⟨RX14, "takeFloat", "(J)V"⟩
abbrev cX14_arithmetic : ByteArray := prog_14_method_33_code
def yX14_arithmetic : MethodName := ⟨RX14, "arithmetic", "(ZZZZZI)I"⟩
abbrev cX14_isWhole : ByteArray := prog_14_method_34_code
def yX14_isWhole : MethodName := ⟨RX14, "isWhole", "(J)Z"⟩
abbrev cX14_isHalf : ByteArray := prog_14_method_35_code
def yX14_isHalf : MethodName := ⟨RX14, "isHalf", "(J)Z"⟩
abbrev cX14_ofWhole : ByteArray := prog_14_method_36_code
def yX14_ofWhole : MethodName := ⟨RX14, "ofWhole", "(J)J"⟩
abbrev cX14_whole : ByteArray := prog_14_method_37_code
def yX14_whole : MethodName := ⟨RX14, "whole", "(JI)J"⟩
abbrev cX14_one : ByteArray := prog_14_method_38_code
def yX14_one : MethodName := ⟨RX14, "one", "(II)I"⟩
abbrev cX14_stepless : ByteArray := prog_14_method_39_code
def yX14_stepless : MethodName := ⟨RX14, "stepless", "(IJJ)Z"⟩
abbrev cX14_takeRoot : ByteArray := prog_14_method_40_code
def yX14_takeRoot : MethodName := ⟨RX14, "takeRoot", "(JJ)V"⟩
abbrev cX14_takePower : ByteArray := prog_14_method_41_code
def yX14_takePower : MethodName := ⟨RX14, "takePower", "(JI)V"⟩
abbrev cX14_powerOf : ByteArray := prog_14_method_42_code
def yX14_powerOf : MethodName := ⟨RX14, "powerOf", "(LIntervalTapeModel$Num;JI)V"⟩
abbrev cX14_divide : ByteArray := prog_14_method_43_code
def yX14_divide : MethodName := ⟨RX14, "divide", "(JJJJ)V"⟩
abbrev cX14_quotient : ByteArray := prog_14_method_44_code
def yX14_quotient : MethodName := ⟨RX14, "quotient", "(JJ)V"⟩
abbrev cX14_divideByAbove : ByteArray := prog_14_method_45_code
def yX14_divideByAbove : MethodName := ⟨RX14, "divideByAbove", "(JJJJ)V"⟩
abbrev cX14_add : ByteArray := prog_14_method_46_code
def yX14_add : MethodName := ⟨RX14, "add", "(JJJJ)V"⟩
abbrev cX14_takeProduct : ByteArray := prog_14_method_47_code
def yX14_takeProduct : MethodName := ⟨RX14, "takeProduct", "(JJJJ)V"⟩
abbrev cX14_multiply : ByteArray := prog_14_method_48_code
def yX14_multiply : MethodName := ⟨RX14, "multiply", "(IIJJ)V"⟩
abbrev cX14_two : ByteArray := prog_14_method_49_code
def yX14_two : MethodName := ⟨RX14, "two", "(III)I"⟩
abbrev cX14_fused : ByteArray := prog_14_method_50_code
def yX14_fused : MethodName := ⟨RX14, "fused", "(III)I"⟩
abbrev cX14_power : ByteArray := prog_14_method_51_code
def yX14_power : MethodName := ⟨RX14, "power", "(II)I"⟩
abbrev cX14_powerBelow : ByteArray := prog_14_method_52_code
def yX14_powerBelow : MethodName := ⟨RX14, "powerBelow", "(JJI)V"⟩
abbrev cX14_inverse : ByteArray := prog_14_method_53_code
def yX14_inverse : MethodName := ⟨RX14, "inverse", "(JJIZ)V"⟩
abbrev cX14_combine : ByteArray := prog_14_method_54_code
def yX14_combine : MethodName := ⟨RX14, "combine", "(III)V"⟩
abbrev cX14_cancel : ByteArray := prog_14_method_55_code
def yX14_cancel : MethodName := ⟨RX14, "cancel", "(IIJJ)V"⟩
abbrev cX14_isWider : ByteArray := prog_14_method_56_code
def yX14_isWider : MethodName := ⟨RX14, "isWider", "(JJJJ)Z"⟩
abbrev cX14_reverse : ByteArray := prog_14_method_57_code
def yX14_reverse : MethodName := ⟨RX14, "reverse", "(III)I"⟩
abbrev cX14_count : ByteArray := prog_14_method_58_code
def yX14_count : MethodName := ⟨RX14, "count", "()I"⟩
abbrev cX14_clear : ByteArray := prog_14_method_59_code
def yX14_clear : MethodName := ⟨RX14, "clear", "()I"⟩
abbrev cX14_low : ByteArray := prog_14_method_60_code
def yX14_low : MethodName := ⟨RX14, "low", "(I)J"⟩
abbrev cX14_high : ByteArray := prog_14_method_61_code
def yX14_high : MethodName := ⟨RX14, "high", "(I)J"⟩
abbrev cX14_markOf : ByteArray := prog_14_method_62_code
def yX14_markOf : MethodName := ⟨RX14, "markOf", "(I)I"⟩
abbrev cX14_astray : ByteArray := prog_14_method_63_code
def yX14_astray : MethodName := ⟨RX14, "astray", "()I"⟩
abbrev cX14_sumOfEnds : ByteArray := prog_14_method_64_code
def yX14_sumOfEnds : MethodName := ⟨RX14, "sumOfEnds", "(IZ)V"⟩
abbrev cX14_nearest : ByteArray := prog_14_method_65_code
def yX14_nearest : MethodName := ⟨RX14, "nearest", "(LIntervalTapeModel$Num;)J"⟩
abbrev cX14_middle : ByteArray := prog_14_method_66_code
def yX14_middle : MethodName := ⟨RX14, "middle", "(I)J"⟩
abbrev cX14_number : ByteArray := prog_14_method_67_code
def yX14_number : MethodName := ⟨RX14, "number", "(II)J"⟩
abbrev cX14_is : ByteArray := prog_14_method_68_code
def yX14_is : MethodName := ⟨RX14, "is", "(II)I"⟩
abbrev cX14_has : ByteArray := prog_14_method_69_code
def yX14_has : MethodName := ⟨RX14, "has", "(IJ)I"⟩
abbrev cX14_compare : ByteArray := prog_14_method_70_code
def yX14_compare : MethodName := ⟨RX14, "compare", "(III)I"⟩
abbrev cX14_stands : ByteArray := prog_14_method_71_code
def yX14_stands : MethodName := ⟨RX14, "stands", "(III)Z"⟩
abbrev cX14_lower : ByteArray := prog_14_method_72_code
def yX14_lower : MethodName := ⟨RX14, "lower", "(I)I"⟩
abbrev cX14_isBlank : ByteArray := prog_14_method_73_code
def yX14_isBlank : MethodName := ⟨RX14, "isBlank", "(I)Z"⟩
abbrev cX14_isDigit : ByteArray := prog_14_method_74_code
def yX14_isDigit : MethodName := ⟨RX14, "isDigit", "(I)Z"⟩
abbrev cX14_hexDigit : ByteArray := prog_14_method_75_code
def yX14_hexDigit : MethodName := ⟨RX14, "hexDigit", "(I)I"⟩
abbrev cX14_isWord : ByteArray := prog_14_method_76_code
def yX14_isWord : MethodName := ⟨RX14, "isWord", "(IILjava/lang/String;)Z"⟩
abbrev cX14_findByte : ByteArray := prog_14_method_77_code
def yX14_findByte : MethodName := ⟨RX14, "findByte", "(III)I"⟩
abbrev cX14_readDigits : ByteArray := prog_14_method_78_code
def yX14_readDigits : MethodName := ⟨RX14, "readDigits", "(IIILIntervalTapeModel$Num;)I"⟩
abbrev cX14_readExponent : ByteArray := prog_14_method_79_code
def yX14_readExponent : MethodName := ⟨RX14, "readExponent", "(III)Z"⟩
abbrev cX14_tens : ByteArray := prog_14_method_80_code
def yX14_tens : MethodName := ⟨RX14, "tens", "(LIntervalTapeModel$Num;I)V"⟩
abbrev cX14_readNumber : ByteArray := prog_14_method_81_code
def yX14_readNumber : MethodName := ⟨RX14, "readNumber", "(IILIntervalTapeModel$Num;)Z"⟩
abbrev cX14_readRatio : ByteArray := prog_14_method_82_code
def yX14_readRatio : MethodName := ⟨RX14, "readRatio", "(IIILIntervalTapeModel$Num;)Z"⟩
abbrev cX14_literal : ByteArray := prog_14_method_83_code
def yX14_literal : MethodName := ⟨RX14, "literal", "()I"⟩
abbrev cX14_markOfText : ByteArray := prog_14_method_84_code
def yX14_markOfText : MethodName := ⟨RX14, "markOfText", "(II)I"⟩
abbrev cX14_readBrackets : ByteArray := prog_14_method_85_code
def yX14_readBrackets : MethodName := ⟨RX14, "readBrackets", "(II)V"⟩
abbrev cX14_readEnds : ByteArray := prog_14_method_86_code
def yX14_readEnds : MethodName := ⟨RX14, "readEnds", "(III)V"⟩
abbrev cX14_readUncertain : ByteArray := prog_14_method_87_code
def yX14_readUncertain : MethodName := ⟨RX14, "readUncertain", "(II)V"⟩
abbrev cX14_takeUncertain : ByteArray := prog_14_method_88_code
def yX14_takeUncertain : MethodName := ⟨RX14, "takeUncertain", "(ZZZI)V"⟩
abbrev cX14_endOf : ByteArray := prog_14_method_89_code
def yX14_endOf : MethodName := ⟨RX14, "endOf", "(ZZI)V"⟩
abbrev cX14_put : ByteArray := prog_14_method_90_code
def yX14_put : MethodName := ⟨RX14, "put", "(I)V"⟩
abbrev cX14_putText : ByteArray := prog_14_method_91_code
def yX14_putText : MethodName := ⟨RX14, "putText", "(Ljava/lang/String;)V"⟩
abbrev cX14_putNumber : ByteArray := prog_14_method_92_code
def yX14_putNumber : MethodName := ⟨RX14, "putNumber", "(J)V"⟩
abbrev cX14_write : ByteArray := prog_14_method_93_code
def yX14_write : MethodName := ⟨RX14, "write", "(II)I"⟩
abbrev cX14_putEnd : ByteArray := prog_14_method_94_code
def yX14_putEnd : MethodName := ⟨RX14, "putEnd", "(JIZ)V"⟩
abbrev cX14_putExact : ByteArray := prog_14_method_95_code
def yX14_putExact : MethodName := ⟨RX14, "putExact", "(J)V"⟩
abbrev cX14_setTens : ByteArray := prog_14_method_96_code
def yX14_setTens : MethodName := ⟨RX14, "setTens", "(LIntervalTapeModel$Num;I)V"⟩
abbrev cX14_putRounded : ByteArray := prog_14_method_97_code
def yX14_putRounded : MethodName := ⟨RX14, "putRounded", "(JIZ)V"⟩
abbrev cX14_word : ByteArray := prog_14_method_98_code
def yX14_word : MethodName := ⟨RX14, "word", "(I)J"⟩
def RJx145de : String := "java/io/Serializable"
def TJx145de : u_T := fun k => match k with
  | _ => ("", "", "", false)
def tyJx145de : Nat → FieldType := fun k => match k with
  | _ => .int
theorem nmJx145de : ∀ a, a < 0 → ∀ b, b < 0 → a ≠ b → (TJx145de a).2.1 ≠ (TJx145de b).2.1 := by decide +kernel
theorem tyJx145de_ok : ∀ k, k < 0 → parseFieldDescriptor (TJx145de k).2.2.1 = some (tyJx145de k) := by decide +kernel
def RJx8e188 : String := "java/lang/Cloneable"
def TJx8e188 : u_T := fun k => match k with
  | _ => ("", "", "", false)
def tyJx8e188 : Nat → FieldType := fun k => match k with
  | _ => .int
theorem nmJx8e188 : ∀ a, a < 0 → ∀ b, b < 0 → a ≠ b → (TJx8e188 a).2.1 ≠ (TJx8e188 b).2.1 := by decide +kernel
theorem tyJx8e188_ok : ∀ k, k < 0 → parseFieldDescriptor (TJx8e188 k).2.2.1 = some (tyJx8e188 k) := by decide +kernel
def RJ6 : String := "java/lang/Integer"
def TJ6 : u_T := fun k => match k with
  | _ => ("", "", "", false)
def tyJ6 : Nat → FieldType := fun k => match k with
  | _ => .int
theorem nmJ6 : ∀ a, a < 0 → ∀ b, b < 0 → a ≠ b → (TJ6 a).2.1 ≠ (TJ6 b).2.1 := by decide +kernel
theorem tyJ6_ok : ∀ k, k < 0 → parseFieldDescriptor (TJ6 k).2.2.1 = some (tyJ6 k) := by decide +kernel
abbrev cJ6_compare_7cf53 : ByteArray := prog_19_method_40_code
def yJ6_compare_7cf53 : MethodName := ⟨RJ6, "compare", "(II)I"⟩
abbrev cJ6_numberOfLeadingZeros_0f7a4 : ByteArray := prog_19_method_47_code
def yJ6_numberOfLeadingZeros_0f7a4 : MethodName := ⟨RJ6, "numberOfLeadingZeros", "(I)I"⟩
def RJxab1ab : String := "java/lang/Iterable"
def TJxab1ab : u_T := fun k => match k with
  | _ => ("", "", "", false)
def tyJxab1ab : Nat → FieldType := fun k => match k with
  | _ => .int
theorem nmJxab1ab : ∀ a, a < 0 → ∀ b, b < 0 → a ≠ b → (TJxab1ab a).2.1 ≠ (TJxab1ab b).2.1 := by decide +kernel
theorem tyJxab1ab_ok : ∀ k, k < 0 → parseFieldDescriptor (TJxab1ab k).2.2.1 = some (tyJxab1ab k) := by decide +kernel
def RJ13 : String := "java/lang/Long"
def TJ13 : u_T := fun k => match k with
  | _ => ("", "", "", false)
def tyJ13 : Nat → FieldType := fun k => match k with
  | _ => .int
theorem nmJ13 : ∀ a, a < 0 → ∀ b, b < 0 → a ≠ b → (TJ13 a).2.1 ≠ (TJ13 b).2.1 := by decide +kernel
theorem tyJ13_ok : ∀ k, k < 0 → parseFieldDescriptor (TJ13 k).2.2.1 = some (tyJ13 k) := by decide +kernel
abbrev cJ13_compare_74951 : ByteArray := prog_21_method_42_code
def yJ13_compare_74951 : MethodName := ⟨RJ13, "compare", "(JJ)I"⟩
abbrev cJ13_signum_95d88 : ByteArray := prog_21_method_57_code
def yJ13_signum_95d88 : MethodName := ⟨RJ13, "signum", "(J)I"⟩
def RJ9 : String := "java/lang/Math"
def TJ9 : u_T := fun k => match k with
  | _ => ("", "", "", false)
def tyJ9 : Nat → FieldType := fun k => match k with
  | _ => .int
theorem nmJ9 : ∀ a, a < 0 → ∀ b, b < 0 → a ≠ b → (TJ9 a).2.1 ≠ (TJ9 b).2.1 := by decide +kernel
theorem tyJ9_ok : ∀ k, k < 0 → parseFieldDescriptor (TJ9 k).2.2.1 = some (tyJ9 k) := by decide +kernel
abbrev cJ9_floorDiv_7cf53 : ByteArray := prog_22_method_47_code
def yJ9_floorDiv_7cf53 : MethodName := ⟨RJ9, "floorDiv", "(II)I"⟩
abbrev cJ9_abs_0f7a4 : ByteArray := prog_22_method_59_code
def yJ9_abs_0f7a4 : MethodName := ⟨RJ9, "abs", "(I)I"⟩
abbrev cJ9_abs_067f4 : ByteArray := prog_22_method_61_code
def yJ9_abs_067f4 : MethodName := ⟨RJ9, "abs", "(J)J"⟩
abbrev cJ9_max_7cf53 : ByteArray := prog_22_method_65_code
def yJ9_max_7cf53 : MethodName := ⟨RJ9, "max", "(II)I"⟩
abbrev cJ9_max_f86c9 : ByteArray := prog_22_method_66_code
def yJ9_max_f86c9 : MethodName := ⟨RJ9, "max", "(JJ)J"⟩
abbrev cJ9_min_7cf53 : ByteArray := prog_22_method_69_code
def yJ9_min_7cf53 : MethodName := ⟨RJ9, "min", "(II)I"⟩
abbrev cJ9_min_f86c9 : ByteArray := prog_22_method_70_code
def yJ9_min_f86c9 : MethodName := ⟨RJ9, "min", "(JJ)J"⟩
def RJ0 : String := "java/lang/String"
def TJ0 : u_T := fun k => match k with
  | _ => ("", "", "", false)
def tyJ0 : Nat → FieldType := fun k => match k with
  | _ => .int
theorem nmJ0 : ∀ a, a < 0 → ∀ b, b < 0 → a ≠ b → (TJ0 a).2.1 ≠ (TJ0 b).2.1 := by decide +kernel
theorem tyJ0_ok : ∀ k, k < 0 → parseFieldDescriptor (TJ0 k).2.2.1 = some (tyJ0 k) := by decide +kernel
abbrev cJ0_length_8abf5 : ByteArray := prog_23_method_54_code
def yJ0_length_8abf5 : MethodName := ⟨RJ0, "length", "()I"⟩
abbrev cJ0_charAt_5068e : ByteArray := prog_23_method_56_code
def yJ0_charAt_5068e : MethodName := ⟨RJ0, "charAt", "(I)C"⟩
abbrev cJ0_coder_7d493 : ByteArray := prog_23_method_152_code
def yJ0_coder_7d493 : MethodName := ⟨RJ0, "coder", "()B"⟩
abbrev cJ0_isLatin1_aae02 : ByteArray := prog_23_method_154_code
def yJ0_isLatin1_aae02 : MethodName := ⟨RJ0, "isLatin1", "()Z"⟩
abbrev cJ0_checkIndex_df160 : ByteArray := prog_23_method_155_code
def yJ0_checkIndex_df160 : MethodName := ⟨RJ0, "checkIndex", "(II)V"⟩
def RJ1 : String := "java/lang/StringLatin1"
def TJ1 : u_T := fun k => match k with
  | _ => ("", "", "", false)
def tyJ1 : Nat → FieldType := fun k => match k with
  | _ => .int
theorem nmJ1 : ∀ a, a < 0 → ∀ b, b < 0 → a ≠ b → (TJ1 a).2.1 ≠ (TJ1 b).2.1 := by decide +kernel
theorem tyJ1_ok : ∀ k, k < 0 → parseFieldDescriptor (TJ1 k).2.2.1 = some (tyJ1 k) := by decide +kernel
abbrev cJ1_charAt_3b067 : ByteArray := prog_24_method_2_code
def yJ1_charAt_3b067 : MethodName := ⟨RJ1, "charAt", "([BI)C"⟩
def RJ2 : String := "java/lang/StringUTF16"
def TJ2 : u_T := fun k => match k with
  | _ => ("", "", "", false)
def tyJ2 : Nat → FieldType := fun k => match k with
  | _ => .int
theorem nmJ2 : ∀ a, a < 0 → ∀ b, b < 0 → a ≠ b → (TJ2 a).2.1 ≠ (TJ2 b).2.1 := by decide +kernel
theorem tyJ2_ok : ∀ k, k < 0 → parseFieldDescriptor (TJ2 k).2.2.1 = some (tyJ2 k) := by decide +kernel
abbrev cJ2_getChar_3b067 : ByteArray := prog_25_method_5_code
def yJ2_getChar_3b067 : MethodName := ⟨RJ2, "getChar", "([BI)C"⟩
abbrev cJ2_length_9d52b : ByteArray := prog_25_method_6_code
def yJ2_length_9d52b : MethodName := ⟨RJ2, "length", "([B)I"⟩
abbrev cJ2_charAt_3b067 : ByteArray := prog_25_method_83_code
def yJ2_charAt_3b067 : MethodName := ⟨RJ2, "charAt", "([BI)C"⟩
abbrev cJ2_checkIndex_2214a : ByteArray := prog_25_method_91_code
def yJ2_checkIndex_2214a : MethodName := ⟨RJ2, "checkIndex", "(I[B)V"⟩
def RJ10 : String := "java/lang/System"
def TJ10 : u_T := fun k => match k with
  | _ => ("", "", "", false)
def tyJ10 : Nat → FieldType := fun k => match k with
  | _ => .int
theorem nmJ10 : ∀ a, a < 0 → ∀ b, b < 0 → a ≠ b → (TJ10 a).2.1 ≠ (TJ10 b).2.1 := by decide +kernel
theorem tyJ10_ok : ∀ k, k < 0 → parseFieldDescriptor (TJ10 k).2.2.1 = some (tyJ10 k) := by decide +kernel
def RJxa1e45 : String := "java/util/AbstractCollection"
def TJxa1e45 : u_T := fun k => match k with
  | _ => ("", "", "", false)
def tyJxa1e45 : Nat → FieldType := fun k => match k with
  | _ => .int
theorem nmJxa1e45 : ∀ a, a < 0 → ∀ b, b < 0 → a ≠ b → (TJxa1e45 a).2.1 ≠ (TJxa1e45 b).2.1 := by decide +kernel
theorem tyJxa1e45_ok : ∀ k, k < 0 → parseFieldDescriptor (TJxa1e45 k).2.2.1 = some (tyJxa1e45 k) := by decide +kernel
abbrev cJxa1e45_init_da8c8 : ByteArray := prog_27_method_1_code
def yJxa1e45_init_da8c8 : MethodName := ⟨RJxa1e45, "<init>", "()V"⟩
def RJxc12de : String := "java/util/AbstractList"
def TJxc12de : u_T := fun k => match k with
  | _ => ("", "", "", false)
def tyJxc12de : Nat → FieldType := fun k => match k with
  | _ => .int
theorem nmJxc12de : ∀ a, a < 0 → ∀ b, b < 0 → a ≠ b → (TJxc12de a).2.1 ≠ (TJxc12de b).2.1 := by decide +kernel
theorem tyJxc12de_ok : ∀ k, k < 0 → parseFieldDescriptor (TJxc12de k).2.2.1 = some (tyJxc12de k) := by decide +kernel
abbrev cJxc12de_init_da8c8 : ByteArray := prog_28_method_1_code
def yJxc12de_init_da8c8 : MethodName := ⟨RJxc12de, "<init>", "()V"⟩
def RJx4a65c : String := "java/util/ArrayList"
def TJx4a65c : u_T := fun k => match k with
  | 0 => ("java/util/AbstractList", "modCount", "I", false)
  | 1 => ("java/util/ArrayList", "elementData", "[Ljava/lang/Object;", false)
  | _ => ("java/util/ArrayList", "size", "I", false)
def tyJx4a65c : Nat → FieldType := fun k => match k with
  | 0 => .int
  | 1 => .array (.object "java/lang/Object")
  | _ => .int
theorem nmJx4a65c : ∀ a, a < 3 → ∀ b, b < 3 → a ≠ b → (TJx4a65c a).2.1 ≠ (TJx4a65c b).2.1 := by decide +kernel
theorem tyJx4a65c_ok : ∀ k, k < 3 → parseFieldDescriptor (TJx4a65c k).2.2.1 = some (tyJx4a65c k) := by decide +kernel
abbrev cJx4a65c_init_da8c8 : ByteArray := prog_29_method_2_code
def yJx4a65c_init_da8c8 : MethodName := ⟨RJx4a65c, "<init>", "()V"⟩
abbrev cJx4a65c_grow_92f84 : ByteArray := prog_29_method_6_code
def yJx4a65c_grow_92f84 : MethodName := ⟨RJx4a65c, "grow", "(I)[Ljava/lang/Object;"⟩
abbrev cJx4a65c_grow_d5877 : ByteArray := prog_29_method_7_code
def yJx4a65c_grow_d5877 : MethodName := ⟨RJx4a65c, "grow", "()[Ljava/lang/Object;"⟩
abbrev cJx4a65c_size_8abf5 : ByteArray := prog_29_method_8_code
def yJx4a65c_size_8abf5 : MethodName := ⟨RJx4a65c, "size", "()I"⟩
abbrev cJx4a65c_elementData_915e3 : ByteArray := prog_29_method_18_code
def yJx4a65c_elementData_915e3 : MethodName := ⟨RJx4a65c, "elementData", "(I)Ljava/lang/Object;"⟩
abbrev cJx4a65c_get_915e3 : ByteArray := prog_29_method_20_code
def yJx4a65c_get_915e3 : MethodName := ⟨RJx4a65c, "get", "(I)Ljava/lang/Object;"⟩
abbrev cJx4a65c_add_72be8 : ByteArray := prog_29_method_24_code
def yJx4a65c_add_72be8 : MethodName := ⟨RJx4a65c, "add", "(Ljava/lang/Object;[Ljava/lang/Object;I)V"⟩
abbrev cJx4a65c_add_9ea2d : ByteArray := prog_29_method_25_code
def yJx4a65c_add_9ea2d : MethodName := ⟨RJx4a65c, "add", "(Ljava/lang/Object;)Z"⟩
abbrev cJx4a65c_clear_da8c8 : ByteArray := prog_29_method_40_code
def yJx4a65c_clear_da8c8 : MethodName := ⟨RJx4a65c, "clear", "()V"⟩
def RJ7 : String := "java/util/Arrays"
def TJ7 : u_T := fun k => match k with
  | _ => ("", "", "", false)
def tyJ7 : Nat → FieldType := fun k => match k with
  | _ => .int
theorem nmJ7 : ∀ a, a < 0 → ∀ b, b < 0 → a ≠ b → (TJ7 a).2.1 ≠ (TJ7 b).2.1 := by decide +kernel
theorem tyJ7_ok : ∀ k, k < 0 → parseFieldDescriptor (TJ7 k).2.2.1 = some (tyJ7 k) := by decide +kernel
abbrev cJ7_copyOf_1904c : ByteArray := prog_30_method_119_code
def yJ7_copyOf_1904c : MethodName := ⟨RJ7, "copyOf", "([Ljava/lang/Object;I)[Ljava/lang/Object;"⟩
abbrev cJ7_copyOf_6403c : ByteArray := prog_30_method_120_code
def yJ7_copyOf_6403c : MethodName := ⟨RJ7, "copyOf", "([Ljava/lang/Object;ILjava/lang/Class;)[Ljava/lang/Object;"⟩
abbrev cJ7_copyOf_9075b : ByteArray := prog_30_method_121_code
def yJ7_copyOf_9075b : MethodName := ⟨RJ7, "copyOf", "([BI)[B"⟩
def RJx5ef63 : String := "java/util/Collection"
def TJx5ef63 : u_T := fun k => match k with
  | _ => ("", "", "", false)
def tyJx5ef63 : Nat → FieldType := fun k => match k with
  | _ => .int
theorem nmJx5ef63 : ∀ a, a < 0 → ∀ b, b < 0 → a ≠ b → (TJx5ef63 a).2.1 ≠ (TJx5ef63 b).2.1 := by decide +kernel
theorem tyJx5ef63_ok : ∀ k, k < 0 → parseFieldDescriptor (TJx5ef63 k).2.2.1 = some (tyJx5ef63 k) := by decide +kernel
def RJxbd725 : String := "java/util/List"
def TJxbd725 : u_T := fun k => match k with
  | _ => ("", "", "", false)
def tyJxbd725 : Nat → FieldType := fun k => match k with
  | _ => .int
theorem nmJxbd725 : ∀ a, a < 0 → ∀ b, b < 0 → a ≠ b → (TJxbd725 a).2.1 ≠ (TJxbd725 b).2.1 := by decide +kernel
theorem tyJxbd725_ok : ∀ k, k < 0 → parseFieldDescriptor (TJxbd725 k).2.2.1 = some (tyJxbd725 k) := by decide +kernel
def RJ15 : String := "java/util/Objects"
def TJ15 : u_T := fun k => match k with
  | _ => ("", "", "", false)
def tyJ15 : Nat → FieldType := fun k => match k with
  | _ => .int
theorem nmJ15 : ∀ a, a < 0 → ∀ b, b < 0 → a ≠ b → (TJ15 a).2.1 ≠ (TJ15 b).2.1 := by decide +kernel
theorem tyJ15_ok : ∀ k, k < 0 → parseFieldDescriptor (TJ15 k).2.2.1 = some (tyJ15 k) := by decide +kernel
abbrev cJ15_checkIndex_7cf53 : ByteArray := prog_33_method_17_code
def yJ15_checkIndex_7cf53 : MethodName := ⟨RJ15, "checkIndex", "(II)I"⟩
def RJxf0a74 : String := "java/util/RandomAccess"
def TJxf0a74 : u_T := fun k => match k with
  | _ => ("", "", "", false)
def tyJxf0a74 : Nat → FieldType := fun k => match k with
  | _ => .int
theorem nmJxf0a74 : ∀ a, a < 0 → ∀ b, b < 0 → a ≠ b → (TJxf0a74 a).2.1 ≠ (TJxf0a74 b).2.1 := by decide +kernel
theorem tyJxf0a74_ok : ∀ k, k < 0 → parseFieldDescriptor (TJxf0a74 k).2.2.1 = some (tyJxf0a74 k) := by decide +kernel
def RJxa66e6 : String := "java/util/SequencedCollection"
def TJxa66e6 : u_T := fun k => match k with
  | _ => ("", "", "", false)
def tyJxa66e6 : Nat → FieldType := fun k => match k with
  | _ => .int
theorem nmJxa66e6 : ∀ a, a < 0 → ∀ b, b < 0 → a ≠ b → (TJxa66e6 a).2.1 ≠ (TJxa66e6 b).2.1 := by decide +kernel
theorem tyJxa66e6_ok : ∀ k, k < 0 → parseFieldDescriptor (TJxa66e6 k).2.2.1 = some (tyJxa66e6 k) := by decide +kernel
def RJ8 : String := "jdk/internal/util/ArraysSupport"
def TJ8 : u_T := fun k => match k with
  | _ => ("", "", "", false)
def tyJ8 : Nat → FieldType := fun k => match k with
  | _ => .int
theorem nmJ8 : ∀ a, a < 0 → ∀ b, b < 0 → a ≠ b → (TJ8 a).2.1 ≠ (TJ8 b).2.1 := by decide +kernel
theorem tyJ8_ok : ∀ k, k < 0 → parseFieldDescriptor (TJ8 k).2.2.1 = some (tyJ8 k) := by decide +kernel
abbrev cJ8_newLength_cabcc : ByteArray := prog_36_method_27_code
def yJ8_newLength_cabcc : MethodName := ⟨RJ8, "newLength", "(III)I"⟩
abbrev cJ8_hugeLength_7cf53 : ByteArray := prog_36_method_28_code
def yJ8_hugeLength_7cf53 : MethodName := ⟨RJ8, "hugeLength", "(II)I"⟩
def RJ3 : String := "jdk/internal/util/Preconditions"
def TJ3 : u_T := fun k => match k with
  | _ => ("", "", "", false)
def tyJ3 : Nat → FieldType := fun k => match k with
  | _ => .int
theorem nmJ3 : ∀ a, a < 0 → ∀ b, b < 0 → a ≠ b → (TJ3 a).2.1 ≠ (TJ3 b).2.1 := by decide +kernel
theorem tyJ3_ok : ∀ k, k < 0 → parseFieldDescriptor (TJ3 k).2.2.1 = some (tyJ3 k) := by decide +kernel
abbrev cJ3_checkIndex_8e157 : ByteArray := prog_37_method_11_code
def yJ3_checkIndex_8e157 : MethodName := ⟨RJ3, "checkIndex", "(IILjava/util/function/BiFunction;)I"⟩
def RL : String := "IntervalTapeLaw"
abbrev cL_law : ByteArray := code
def yL_law : MethodName := ⟨RL, "law", "([I)Z"⟩
abbrev vwCl : List vw_C := [(RJx4a65c, TJx4a65c, 3), (RX0, TX0, 2), (RX1, TX1, 9), (RX2, TX2, 7), (RX3, TX3, 4), (RX5, TX5, 2), (RX7, TX7, 8), (RX8, TX8, 6), (RX9, TX9, 2), (RX10, TX10, 4), (RX11, TX11, 12), (RX12, TX12, 2), (RX13, TX13, 4), (RX14, TX14, 27)]
