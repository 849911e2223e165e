/-! ===== BEGIN printed: names, fields, word lists, decode rows ===== -/
def RX0 : String := "StoneDates$Calendar"
def TX0 : u_T := fun k => match k with
  | _ => ("", "", "", false)
def tyX0 : Nat → FieldType := fun k => match k with
  | _ => .int
abbrev wsX00 : List Cond := u_ws RX0 TX0 0
theorem nmX0 : ∀ a, a < 0 → ∀ b, b < 0 → a ≠ b → (TX0 a).2.1 ≠ (TX0 b).2.1 := by decide +kernel
theorem tyX0_ok : ∀ k, k < 0 → parseFieldDescriptor (TX0 k).2.2.1 = some (tyX0 k) := by decide +kernel
abbrev cX0_has : ByteArray := prog_2_method_2_code
def yX0_has : MethodName := ⟨RX0, "has", "(I)Z"⟩
abbrev cX0_signOf : ByteArray := prog_2_method_3_code
def yX0_signOf : MethodName := ⟨RX0, "signOf", "(III)I"⟩
abbrev cX0_holds : ByteArray := prog_2_method_4_code
def yX0_holds : MethodName := ⟨RX0, "holds", "(II)Z"⟩
def RX1 : String := "StoneDates$Finder"
def TX1 : u_T := fun k => match k with
  | 0 => ("StoneDates$Finder", "days", "[I", true)
  | 1 => ("StoneDates$Finder", "kept", "I", false)
  | 2 => ("StoneDates$Finder", "many", "I", false)
  | 3 => ("StoneDates$Finder", "inner", "LStoneDates$Wheel;", true)
  | 4 => ("StoneDates$Finder", "thirteen", "LStoneDates$Wheel;", true)
  | 5 => ("StoneDates$Finder", "year", "LStoneDates$Wheel;", true)
  | _ => ("StoneDates$Finder", "lunar", "LStoneDates$Wheel;", true)
def tyX1 : Nat → FieldType := fun k => match k with
  | 0 => .array .int
  | 1 => .int
  | 2 => .int
  | 3 => .object "StoneDates$Wheel"
  | 4 => .object "StoneDates$Wheel"
  | 5 => .object "StoneDates$Wheel"
  | _ => .object "StoneDates$Wheel"
abbrev wsX10 : List Cond := u_ws RX1 TX1 7
theorem nmX1 : ∀ a, a < 7 → ∀ b, b < 7 → a ≠ b → (TX1 a).2.1 ≠ (TX1 b).2.1 := by decide +kernel
theorem tyX1_ok : ∀ k, k < 7 → parseFieldDescriptor (TX1 k).2.2.1 = some (tyX1 k) := by decide +kernel
abbrev cX1_init : ByteArray := prog_3_method_1_code
def yX1_init : MethodName := ⟨RX1, "<init>", "()V"⟩
abbrev cX1_seek : ByteArray := prog_3_method_2_code
def yX1_seek : MethodName := ⟨RX1, "seek", "([II)V"⟩
abbrev cX1_turnInner : ByteArray := prog_3_method_3_code
def yX1_turnInner : MethodName := ⟨RX1, "turnInner", "(IIII)V"⟩
abbrev cX1_turnThirteen : ByteArray := prog_3_method_4_code
def yX1_turnThirteen : MethodName := ⟨RX1, "turnThirteen", "(I)V"⟩
abbrev cX1_turnYear : ByteArray := prog_3_method_5_code
def yX1_turnYear : MethodName := ⟨RX1, "turnYear", "(II)V"⟩
abbrev cX1_turnLunar : ByteArray := prog_3_method_6_code
def yX1_turnLunar : MethodName := ⟨RX1, "turnLunar", "(I)V"⟩
abbrev cX1_scan : ByteArray := prog_3_method_7_code
def yX1_scan : MethodName := ⟨RX1, "scan", "(II)V"⟩
abbrev cX1_keep : ByteArray := prog_3_method_8_code
def yX1_keep : MethodName := ⟨RX1, "keep", "(IJ)V"⟩
def RX2 : String := "StoneDates$Kind"
def TX2 : u_T := fun k => match k with
  | _ => ("", "", "", false)
def tyX2 : Nat → FieldType := fun k => match k with
  | _ => .int
abbrev wsX20 : List Cond := u_ws RX2 TX2 0
theorem nmX2 : ∀ a, a < 0 → ∀ b, b < 0 → a ≠ b → (TX2 a).2.1 ≠ (TX2 b).2.1 := by decide +kernel
theorem tyX2_ok : ∀ k, k < 0 → parseFieldDescriptor (TX2 k).2.2.1 = some (tyX2 k) := by decide +kernel
def RX3 : String := "StoneDates$Net"
def TX3 : u_T := fun k => match k with
  | 0 => ("StoneDates$Net", "size", "I", false)
  | 1 => ("StoneDates$Net", "memberCount", "I", false)
  | 2 => ("StoneDates$Net", "fewest", "I", false)
  | 3 => ("StoneDates$Net", "wrongs", "I", false)
  | 4 => ("StoneDates$Net", "solvedSize", "I", false)
  | 5 => ("StoneDates$Net", "members", "[LStoneDates$Stone;", true)
  | 6 => ("StoneDates$Net", "from", "[I", true)
  | 7 => ("StoneDates$Net", "to", "[I", true)
  | 8 => ("StoneDates$Net", "days", "[I", true)
  | 9 => ("StoneDates$Net", "group", "[[I", true)
  | 10 => ("StoneDates$Net", "offset", "[[I", true)
  | 11 => ("StoneDates$Net", "joined", "[[I", true)
  | _ => ("StoneDates$Net", "joinedSize", "[I", true)
def tyX3 : Nat → FieldType := fun k => match k with
  | 0 => .int
  | 1 => .int
  | 2 => .int
  | 3 => .int
  | 4 => .int
  | 5 => .array (.object "StoneDates$Stone")
  | 6 => .array .int
  | 7 => .array .int
  | 8 => .array .int
  | 9 => .array (.array .int)
  | 10 => .array (.array .int)
  | 11 => .array (.array .int)
  | _ => .array .int
abbrev wsX30 : List Cond := u_ws RX3 TX3 13
theorem nmX3 : ∀ a, a < 13 → ∀ b, b < 13 → a ≠ b → (TX3 a).2.1 ≠ (TX3 b).2.1 := by decide +kernel
theorem tyX3_ok : ∀ k, k < 13 → parseFieldDescriptor (TX3 k).2.2.1 = some (tyX3 k) := by decide +kernel
abbrev cX3_init : ByteArray := prog_5_method_1_code
def yX3_init : MethodName := ⟨RX3, "<init>", "()V"⟩
abbrev cX3_take : ByteArray := prog_5_method_2_code
def yX3_take : MethodName := ⟨RX3, "take", "(ILStoneDates$Stone;)V"⟩
abbrev cX3_add : ByteArray := prog_5_method_3_code
def yX3_add : MethodName := ⟨RX3, "add", "(III)I"⟩
abbrev cX3_solve : ByteArray := prog_5_method_4_code
def yX3_solve : MethodName := ⟨RX3, "solve", "()V"⟩
abbrev cX3_search : ByteArray := prog_5_method_5_code
def yX3_search : MethodName := ⟨RX3, "search", "(II)V"⟩
abbrev cX3_isAsked : ByteArray := prog_5_method_6_code
def yX3_isAsked : MethodName := ⟨RX3, "isAsked", "(I)Z"⟩
abbrev cX3_pass : ByteArray := prog_5_method_7_code
def yX3_pass : MethodName := ⟨RX3, "pass", "(I)V"⟩
abbrev cX3_join : ByteArray := prog_5_method_8_code
def yX3_join : MethodName := ⟨RX3, "join", "(I)I"⟩
abbrev cX3_meet : ByteArray := prog_5_method_9_code
def yX3_meet : MethodName := ⟨RX3, "meet", "(IIII)Z"⟩
abbrev cX3_daysOf : ByteArray := prog_5_method_10_code
def yX3_daysOf : MethodName := ⟨RX3, "daysOf", "(I)[I"⟩
abbrev cX3_sizeOf : ByteArray := prog_5_method_11_code
def yX3_sizeOf : MethodName := ⟨RX3, "sizeOf", "(I)I"⟩
abbrev cX3_wrongAt : ByteArray := prog_5_method_12_code
def yX3_wrongAt : MethodName := ⟨RX3, "wrongAt", "(I)I"⟩
abbrev cX3_settledSize : ByteArray := prog_5_method_13_code
def yX3_settledSize : MethodName := ⟨RX3, "settledSize", "(I)I"⟩
abbrev cX3_settledAt : ByteArray := prog_5_method_14_code
def yX3_settledAt : MethodName := ⟨RX3, "settledAt", "(II)I"⟩
def RX4 : String := "StoneDates$Reader"
def TX4 : u_T := fun k => match k with
  | 0 => ("StoneDates$Reader", "sets", "[I", true)
  | 1 => ("StoneDates$Reader", "size", "I", false)
  | 2 => ("StoneDates$Reader", "fault", "I", false)
  | 3 => ("StoneDates$Reader", "bytes", "[I", true)
  | 4 => ("StoneDates$Reader", "length", "I", false)
  | 5 => ("StoneDates$Reader", "at", "I", false)
  | _ => ("StoneDates$Reader", "heard", "I", false)
def tyX4 : Nat → FieldType := fun k => match k with
  | 0 => .array .int
  | 1 => .int
  | 2 => .int
  | 3 => .array .int
  | 4 => .int
  | 5 => .int
  | _ => .int
abbrev wsX40 : List Cond := u_ws RX4 TX4 7
theorem nmX4 : ∀ a, a < 7 → ∀ b, b < 7 → a ≠ b → (TX4 a).2.1 ≠ (TX4 b).2.1 := by decide +kernel
theorem tyX4_ok : ∀ k, k < 7 → parseFieldDescriptor (TX4 k).2.2.1 = some (tyX4 k) := by decide +kernel
abbrev cX4_init : ByteArray := prog_6_method_1_code
def yX4_init : MethodName := ⟨RX4, "<init>", "()V"⟩
abbrev cX4_hasRoom : ByteArray := prog_6_method_2_code
def yX4_hasRoom : MethodName := ⟨RX4, "hasRoom", "()Z"⟩
abbrev cX4_put : ByteArray := prog_6_method_3_code
def yX4_put : MethodName := ⟨RX4, "put", "(I)V"⟩
abbrev cX4_read : ByteArray := prog_6_method_4_code
def yX4_read : MethodName := ⟨RX4, "read", "(I)Z"⟩
abbrev cX4_readClause : ByteArray := prog_6_method_5_code
def yX4_readClause : MethodName := ⟨RX4, "readClause", "()Z"⟩
abbrev cX4_readWord : ByteArray := prog_6_method_6_code
def yX4_readWord : MethodName := ⟨RX4, "readWord", "()LStoneDates$Kind;"⟩
abbrev cX4_isWord : ByteArray := prog_6_method_7_code
def yX4_isWord : MethodName := ⟨RX4, "isWord", "(Ljava/lang/String;II)Z"⟩
abbrev cX4_readPart : ByteArray := prog_6_method_8_code
def yX4_readPart : MethodName := ⟨RX4, "readPart", "()Z"⟩
abbrev cX4_readRange : ByteArray := prog_6_method_9_code
def yX4_readRange : MethodName := ⟨RX4, "readRange", "()Z"⟩
abbrev cX4_readNumber : ByteArray := prog_6_method_10_code
def yX4_readNumber : MethodName := ⟨RX4, "readNumber", "()I"⟩
abbrev cX4_isDigitAt : ByteArray := prog_6_method_11_code
def yX4_isDigitAt : MethodName := ⟨RX4, "isDigitAt", "(I)Z"⟩
abbrev cX4_narrow : ByteArray := prog_6_method_12_code
def yX4_narrow : MethodName := ⟨RX4, "narrow", "(I)V"⟩
abbrev cX4_takes : ByteArray := prog_6_method_13_code
def yX4_takes : MethodName := ⟨RX4, "takes", "(C)Z"⟩
abbrev cX4_demand : ByteArray := prog_6_method_14_code
def yX4_demand : MethodName := ⟨RX4, "demand", "(C)Z"⟩
abbrev cX4_refuse : ByteArray := prog_6_method_15_code
def yX4_refuse : MethodName := ⟨RX4, "refuse", "(I)Z"⟩
abbrev cX4_skipBlanks : ByteArray := prog_6_method_16_code
def yX4_skipBlanks : MethodName := ⟨RX4, "skipBlanks", "()V"⟩
def RX5 : String := "StoneDates$Sky"
def TX5 : u_T := fun k => match k with
  | 0 => ("StoneDates$Sky", "size", "I", false)
  | 1 => ("StoneDates$Sky", "naming", "I", false)
  | 2 => ("StoneDates$Sky", "bestStart", "I", false)
  | 3 => ("StoneDates$Sky", "bestAgreeing", "I", false)
  | 4 => ("StoneDates$Sky", "eclipses", "[I", true)
  | 5 => ("StoneDates$Sky", "isNaming", "[Z", true)
  | 6 => ("StoneDates$Sky", "dayOf", "[I", true)
  | 7 => ("StoneDates$Sky", "turns", "[I", true)
  | 8 => ("StoneDates$Sky", "dates", "[I", true)
  | 9 => ("StoneDates$Sky", "next", "[I", true)
  | 10 => ("StoneDates$Sky", "solvedNear", "I", false)
  | 11 => ("StoneDates$Sky", "agreeing", "I", false)
  | 12 => ("StoneDates$Sky", "slope", "I", false)
  | 13 => ("StoneDates$Sky", "height", "J", false)
  | _ => ("StoneDates$Sky", "bestSum", "J", false)
def tyX5 : Nat → FieldType := fun k => match k with
  | 0 => .int
  | 1 => .int
  | 2 => .int
  | 3 => .int
  | 4 => .array .int
  | 5 => .array .boolean
  | 6 => .array .int
  | 7 => .array .int
  | 8 => .array .int
  | 9 => .array .int
  | 10 => .int
  | 11 => .int
  | 12 => .int
  | 13 => .long
  | _ => .long
abbrev wsX50 : List Cond := u_ws RX5 TX5 15
theorem nmX5 : ∀ a, a < 15 → ∀ b, b < 15 → a ≠ b → (TX5 a).2.1 ≠ (TX5 b).2.1 := by decide +kernel
theorem tyX5_ok : ∀ k, k < 15 → parseFieldDescriptor (TX5 k).2.2.1 = some (tyX5 k) := by decide +kernel
abbrev cX5_init : ByteArray := prog_7_method_1_code
def yX5_init : MethodName := ⟨RX5, "<init>", "()V"⟩
abbrev cX5_add : ByteArray := prog_7_method_2_code
def yX5_add : MethodName := ⟨RX5, "add", "(I)I"⟩
abbrev cX5_tell : ByteArray := prog_7_method_3_code
def yX5_tell : MethodName := ⟨RX5, "tell", "(IIZ)Z"⟩
abbrev cX5_solve : ByteArray := prog_7_method_4_code
def yX5_solve : MethodName := ⟨RX5, "solve", "(I)V"⟩
abbrev cX5_placeTurns : ByteArray := prog_7_method_5_code
def yX5_placeTurns : MethodName := ⟨RX5, "placeTurns", "(I)V"⟩
abbrev cX5_gatherDates : ByteArray := prog_7_method_6_code
def yX5_gatherDates : MethodName := ⟨RX5, "gatherDates", "()I"⟩
abbrev cX5_firstToTurn : ByteArray := prog_7_method_7_code
def yX5_firstToTurn : MethodName := ⟨RX5, "firstToTurn", "(I)I"⟩
abbrev cX5_turn : ByteArray := prog_7_method_8_code
def yX5_turn : MethodName := ⟨RX5, "turn", "(I)V"⟩
abbrev cX5_consider : ByteArray := prog_7_method_9_code
def yX5_consider : MethodName := ⟨RX5, "consider", "(I)V"⟩
def RX6 : String := "StoneDates$Stone"
def TX6 : u_T := fun k => match k with
  | 0 => ("StoneDates$Stone", "base", "I", true)
  | 1 => ("StoneDates$Stone", "sets", "[I", true)
  | 2 => ("StoneDates$Stone", "days", "[I", true)
  | _ => ("StoneDates$Stone", "many", "I", true)
def tyX6 : Nat → FieldType := fun k => match k with
  | 0 => .int
  | 1 => .array .int
  | 2 => .array .int
  | _ => .int
abbrev wsX60 : List Cond := u_ws RX6 TX6 4
theorem nmX6 : ∀ a, a < 4 → ∀ b, b < 4 → a ≠ b → (TX6 a).2.1 ≠ (TX6 b).2.1 := by decide +kernel
theorem tyX6_ok : ∀ k, k < 4 → parseFieldDescriptor (TX6 k).2.2.1 = some (tyX6 k) := by decide +kernel
abbrev cX6_init : ByteArray := prog_8_method_1_code
def yX6_init : MethodName := ⟨RX6, "<init>", "(I[I[II)V"⟩
abbrev cX6_allows : ByteArray := prog_8_method_2_code
def yX6_allows : MethodName := ⟨RX6, "allows", "(I)Z"⟩
def RX7 : String := "StoneDates$Wheel"
def TX7 : u_T := fun k => match k with
  | 0 => ("StoneDates$Wheel", "period", "I", true)
  | 1 => ("StoneDates$Wheel", "bits", "[J", true)
  | _ => ("StoneDates$Wheel", "free", "Z", false)
def tyX7 : Nat → FieldType := fun k => match k with
  | 0 => .int
  | 1 => .array .long
  | _ => .boolean
abbrev wsX70 : List Cond := u_ws RX7 TX7 3
theorem nmX7 : ∀ a, a < 3 → ∀ b, b < 3 → a ≠ b → (TX7 a).2.1 ≠ (TX7 b).2.1 := by decide +kernel
theorem tyX7_ok : ∀ k, k < 3 → parseFieldDescriptor (TX7 k).2.2.1 = some (tyX7 k) := by decide +kernel
abbrev cX7_init : ByteArray := prog_9_method_1_code
def yX7_init : MethodName := ⟨RX7, "<init>", "(I)V"⟩
abbrev cX7_reset : ByteArray := prog_9_method_2_code
def yX7_reset : MethodName := ⟨RX7, "reset", "(Z)V"⟩
abbrev cX7_mark : ByteArray := prog_9_method_3_code
def yX7_mark : MethodName := ⟨RX7, "mark", "(I)V"⟩
abbrev cX7_window : ByteArray := prog_9_method_4_code
def yX7_window : MethodName := ⟨RX7, "window", "(I)J"⟩
def RX8 : String := "StoneDates"
def TX8 : u_T := fun k => match k with
  | 0 => ("StoneDates", "bases", "[I", true)
  | 1 => ("StoneDates", "stones", "[LStoneDates$Stone;", true)
  | 2 => ("StoneDates", "reader", "LStoneDates$Reader;", true)
  | 3 => ("StoneDates", "finder", "LStoneDates$Finder;", true)
  | 4 => ("StoneDates", "net", "LStoneDates$Net;", true)
  | 5 => ("StoneDates", "sky", "LStoneDates$Sky;", true)
  | 6 => ("StoneDates", "townCount", "I", false)
  | _ => ("StoneDates", "stoneCount", "I", false)
def tyX8 : Nat → FieldType := fun k => match k with
  | 0 => .array .int
  | 1 => .array (.object "StoneDates$Stone")
  | 2 => .object "StoneDates$Reader"
  | 3 => .object "StoneDates$Finder"
  | 4 => .object "StoneDates$Net"
  | 5 => .object "StoneDates$Sky"
  | 6 => .int
  | _ => .int
abbrev wsX80 : List Cond := u_ws RX8 TX8 8
theorem nmX8 : ∀ a, a < 8 → ∀ b, b < 8 → a ≠ b → (TX8 a).2.1 ≠ (TX8 b).2.1 := by decide +kernel
theorem tyX8_ok : ∀ k, k < 8 → parseFieldDescriptor (TX8 k).2.2.1 = some (tyX8 k) := by decide +kernel
abbrev cX8_init : ByteArray := prog_1_method_1_code
def yX8_init : MethodName := ⟨RX8, "<init>", "()V"⟩
abbrev cX8_town : ByteArray := prog_1_method_2_code
def yX8_town : MethodName := ⟨RX8, "town", "(I)I"⟩
abbrev cX8_of : ByteArray := prog_1_method_3_code
def yX8_of : MethodName := ⟨RX8, "of", "(II)I"⟩
abbrev cX8_moon : ByteArray := prog_1_method_4_code
def yX8_moon : MethodName := ⟨RX8, "moon", "(II)I"⟩
abbrev cX8_feed : ByteArray := prog_1_method_5_code
def yX8_feed : MethodName := ⟨RX8, "feed", "(IIIII)I"⟩
abbrev cX8_stone : ByteArray := prog_1_method_6_code
def yX8_stone : MethodName := ⟨RX8, "stone", "(II)I"⟩
abbrev cX8_many : ByteArray := prog_1_method_7_code
def yX8_many : MethodName := ⟨RX8, "many", "(I)I"⟩
abbrev cX8_day : ByteArray := prog_1_method_8_code
def yX8_day : MethodName := ⟨RX8, "day", "(II)I"⟩
abbrev cX8_fits : ByteArray := prog_1_method_9_code
def yX8_fits : MethodName := ⟨RX8, "fits", "(II)Z"⟩
abbrev cX8_distance : ByteArray := prog_1_method_10_code
def yX8_distance : MethodName := ⟨RX8, "distance", "(III)I"⟩
abbrev cX8_least : ByteArray := prog_1_method_11_code
def yX8_least : MethodName := ⟨RX8, "least", "()I"⟩
abbrev cX8_wrong : ByteArray := prog_1_method_12_code
def yX8_wrong : MethodName := ⟨RX8, "wrong", "(I)I"⟩
abbrev cX8_settled : ByteArray := prog_1_method_13_code
def yX8_settled : MethodName := ⟨RX8, "settled", "(I)I"⟩
abbrev cX8_settledDay : ByteArray := prog_1_method_14_code
def yX8_settledDay : MethodName := ⟨RX8, "settledDay", "(II)I"⟩
abbrev cX8_eclipse : ByteArray := prog_1_method_15_code
def yX8_eclipse : MethodName := ⟨RX8, "eclipse", "(I)I"⟩
abbrev cX8_names : ByteArray := prog_1_method_16_code
def yX8_names : MethodName := ⟨RX8, "names", "(IZ)Z"⟩
abbrev cX8_start : ByteArray := prog_1_method_17_code
def yX8_start : MethodName := ⟨RX8, "start", "(I)I"⟩
abbrev cX8_agrees : ByteArray := prog_1_method_18_code
def yX8_agrees : MethodName := ⟨RX8, "agrees", "(I)I"⟩
abbrev cX8_count : ByteArray := prog_1_method_19_code
def yX8_count : MethodName := ⟨RX8, "count", "(I)I"⟩
abbrev cX8_checkDay : ByteArray := prog_1_method_20_code
def yX8_checkDay : MethodName := ⟨RX8, "checkDay", "(I)V"⟩
abbrev cX8_checkTown : ByteArray := prog_1_method_21_code
def yX8_checkTown : MethodName := ⟨RX8, "checkTown", "(I)V"⟩
abbrev cX8_stoneAt : ByteArray := prog_1_method_22_code
def yX8_stoneAt : MethodName := ⟨RX8, "stoneAt", "(I)LStoneDates$Stone;"⟩
abbrev cX8_solveSky : ByteArray := prog_1_method_23_code
def yX8_solveSky : MethodName := ⟨RX8, "solveSky", "(I)V"⟩
def RX9 : String := "StoneDatesModel"
def TX9 : u_T := fun k => match k with
  | 0 => ("StoneDatesModel", "thrown", "I", false)
  | 1 => ("StoneDatesModel", "bases", "[I", true)
  | 2 => ("StoneDatesModel", "towns", "I", false)
  | 3 => ("StoneDatesModel", "tape", "[B", true)
  | 4 => ("StoneDatesModel", "taped", "I", false)
  | 5 => ("StoneDatesModel", "size", "I", false)
  | 6 => ("StoneDatesModel", "at", "I", false)
  | 7 => ("StoneDatesModel", "isWrong", "Z", false)
  | 8 => ("StoneDatesModel", "low", "[J", true)
  | 9 => ("StoneDatesModel", "high", "[J", true)
  | 10 => ("StoneDatesModel", "someLow", "J", false)
  | 11 => ("StoneDatesModel", "someHigh", "J", false)
  | 12 => ("StoneDatesModel", "townOf", "[I", true)
  | 13 => ("StoneDatesModel", "many", "[I", true)
  | 14 => ("StoneDatesModel", "days", "[I", true)
  | 15 => ("StoneDatesModel", "stones", "I", false)
  | 16 => ("StoneDatesModel", "fromOf", "[I", true)
  | 17 => ("StoneDatesModel", "toOf", "[I", true)
  | 18 => ("StoneDatesModel", "farOf", "[I", true)
  | 19 => ("StoneDatesModel", "distances", "I", false)
  | 20 => ("StoneDatesModel", "isSolved", "Z", false)
  | 21 => ("StoneDatesModel", "asked", "[I", true)
  | 22 => ("StoneDatesModel", "askedMany", "I", false)
  | 23 => ("StoneDatesModel", "wrongs", "I", false)
  | 24 => ("StoneDatesModel", "part", "[I", true)
  | 25 => ("StoneDatesModel", "off", "[I", true)
  | 26 => ("StoneDatesModel", "isSettled", "[Z", true)
  | 27 => ("StoneDatesModel", "eclipses", "[I", true)
  | 28 => ("StoneDatesModel", "eclipseMany", "I", false)
  | 29 => ("StoneDatesModel", "isNamed", "[Z", true)
  | 30 => ("StoneDatesModel", "bestStart", "I", false)
  | 31 => ("StoneDatesModel", "bestMany", "I", false)
  | _ => ("StoneDatesModel", "bestSum", "J", false)
def tyX9 : Nat → FieldType := fun k => match k with
  | 0 => .int
  | 1 => .array .int
  | 2 => .int
  | 3 => .array .byte
  | 4 => .int
  | 5 => .int
  | 6 => .int
  | 7 => .boolean
  | 8 => .array .long
  | 9 => .array .long
  | 10 => .long
  | 11 => .long
  | 12 => .array .int
  | 13 => .array .int
  | 14 => .array .int
  | 15 => .int
  | 16 => .array .int
  | 17 => .array .int
  | 18 => .array .int
  | 19 => .int
  | 20 => .boolean
  | 21 => .array .int
  | 22 => .int
  | 23 => .int
  | 24 => .array .int
  | 25 => .array .int
  | 26 => .array .boolean
  | 27 => .array .int
  | 28 => .int
  | 29 => .array .boolean
  | 30 => .int
  | 31 => .int
  | _ => .long
abbrev wsX90 : List Cond := u_ws RX9 TX9 33
theorem nmX9 : ∀ a, a < 33 → ∀ b, b < 33 → a ≠ b → (TX9 a).2.1 ≠ (TX9 b).2.1 := by decide +kernel
theorem tyX9_ok : ∀ k, k < 33 → parseFieldDescriptor (TX9 k).2.2.1 = some (tyX9 k) := by decide +kernel
abbrev cX9_init : ByteArray := prog_11_method_1_code
def yX9_init : MethodName := ⟨RX9, "<init>", "()V"⟩
abbrev cX9_thrown : ByteArray := prog_11_method_2_code
def yX9_thrown : MethodName := ⟨RX9, "thrown", "()I"⟩
abbrev cX9_bad : ByteArray := prog_11_method_3_code
def yX9_bad : MethodName := ⟨RX9, "bad", "(ZI)Z"⟩
abbrev cX9_town : ByteArray := prog_11_method_4_code
def yX9_town : MethodName := ⟨RX9, "town", "(I)I"⟩
abbrev cX9_isDay : ByteArray := prog_11_method_5_code
def yX9_isDay : MethodName := ⟨RX9, "isDay", "(I)Z"⟩
abbrev cX9_moonOf : ByteArray := prog_11_method_6_code
def yX9_moonOf : MethodName := ⟨RX9, "moonOf", "(II)I"⟩
abbrev cX9_valueOf : ByteArray := prog_11_method_7_code
def yX9_valueOf : MethodName := ⟨RX9, "valueOf", "(II)I"⟩
abbrev cX9_of : ByteArray := prog_11_method_8_code
def yX9_of : MethodName := ⟨RX9, "of", "(II)I"⟩
abbrev cX9_moon : ByteArray := prog_11_method_9_code
def yX9_moon : MethodName := ⟨RX9, "moon", "(II)I"⟩
abbrev cX9_feed : ByteArray := prog_11_method_10_code
def yX9_feed : MethodName := ⟨RX9, "feed", "(IIIII)I"⟩
abbrev cX9_byteAt : ByteArray := prog_11_method_11_code
def yX9_byteAt : MethodName := ⟨RX9, "byteAt", "(I)I"⟩
abbrev cX9_blanks : ByteArray := prog_11_method_12_code
def yX9_blanks : MethodName := ⟨RX9, "blanks", "()V"⟩
abbrev cX9_isWord : ByteArray := prog_11_method_13_code
def yX9_isWord : MethodName := ⟨RX9, "isWord", "(Ljava/lang/String;)Z"⟩
abbrev cX9_wordOf : ByteArray := prog_11_method_14_code
def yX9_wordOf : MethodName := ⟨RX9, "wordOf", "(I)Ljava/lang/String;"⟩
abbrev cX9_clauseHere : ByteArray := prog_11_method_15_code
def yX9_clauseHere : MethodName := ⟨RX9, "clauseHere", "()I"⟩
abbrev cX9_eat : ByteArray := prog_11_method_16_code
def yX9_eat : MethodName := ⟨RX9, "eat", "(I)Z"⟩
abbrev cX9_number : ByteArray := prog_11_method_17_code
def yX9_number : MethodName := ⟨RX9, "number", "()I"⟩
abbrev cX9_some : ByteArray := prog_11_method_18_code
def yX9_some : MethodName := ⟨RX9, "some", "()V"⟩
abbrev cX9_allows : ByteArray := prog_11_method_19_code
def yX9_allows : MethodName := ⟨RX9, "allows", "(II)V"⟩
abbrev cX9_clause : ByteArray := prog_11_method_20_code
def yX9_clause : MethodName := ⟨RX9, "clause", "(II)V"⟩
abbrev cX9_stone : ByteArray := prog_11_method_21_code
def yX9_stone : MethodName := ⟨RX9, "stone", "(II)I"⟩
abbrev cX9_isAllowed : ByteArray := prog_11_method_22_code
def yX9_isAllowed : MethodName := ⟨RX9, "isAllowed", "(III)Z"⟩
abbrev cX9_isFit : ByteArray := prog_11_method_23_code
def yX9_isFit : MethodName := ⟨RX9, "isFit", "(II)Z"⟩
abbrev cX9_lists : ByteArray := prog_11_method_24_code
def yX9_lists : MethodName := ⟨RX9, "lists", "(I)V"⟩
abbrev cX9_isStone : ByteArray := prog_11_method_25_code
def yX9_isStone : MethodName := ⟨RX9, "isStone", "(I)Z"⟩
abbrev cX9_many : ByteArray := prog_11_method_26_code
def yX9_many : MethodName := ⟨RX9, "many", "(I)I"⟩
abbrev cX9_day : ByteArray := prog_11_method_27_code
def yX9_day : MethodName := ⟨RX9, "day", "(II)I"⟩
abbrev cX9_fits : ByteArray := prog_11_method_28_code
def yX9_fits : MethodName := ⟨RX9, "fits", "(II)Z"⟩
abbrev cX9_distance : ByteArray := prog_11_method_29_code
def yX9_distance : MethodName := ⟨RX9, "distance", "(III)I"⟩
abbrev cX9_inNet : ByteArray := prog_11_method_30_code
def yX9_inNet : MethodName := ⟨RX9, "inNet", "(I)Z"⟩
abbrev cX9_isAskedWrong : ByteArray := prog_11_method_31_code
def yX9_isAskedWrong : MethodName := ⟨RX9, "isAskedWrong", "(II)Z"⟩
abbrev cX9_joins : ByteArray := prog_11_method_32_code
def yX9_joins : MethodName := ⟨RX9, "joins", "(I)Z"⟩
abbrev cX9_hasDay : ByteArray := prog_11_method_33_code
def yX9_hasDay : MethodName := ⟨RX9, "hasDay", "(II)Z"⟩
abbrev cX9_isGood : ByteArray := prog_11_method_34_code
def yX9_isGood : MethodName := ⟨RX9, "isGood", "(II)Z"⟩
abbrev cX9_canBe : ByteArray := prog_11_method_35_code
def yX9_canBe : MethodName := ⟨RX9, "canBe", "(I)Z"⟩
abbrev cX9_bits : ByteArray := prog_11_method_36_code
def yX9_bits : MethodName := ⟨RX9, "bits", "(I)I"⟩
abbrev cX9_solves : ByteArray := prog_11_method_37_code
def yX9_solves : MethodName := ⟨RX9, "solves", "()V"⟩
abbrev cX9_least : ByteArray := prog_11_method_38_code
def yX9_least : MethodName := ⟨RX9, "least", "()I"⟩
abbrev cX9_wrong : ByteArray := prog_11_method_39_code
def yX9_wrong : MethodName := ⟨RX9, "wrong", "(I)I"⟩
abbrev cX9_settled : ByteArray := prog_11_method_40_code
def yX9_settled : MethodName := ⟨RX9, "settled", "(I)I"⟩
abbrev cX9_settledDay : ByteArray := prog_11_method_41_code
def yX9_settledDay : MethodName := ⟨RX9, "settledDay", "(II)I"⟩
abbrev cX9_eclipse : ByteArray := prog_11_method_42_code
def yX9_eclipse : MethodName := ⟨RX9, "eclipse", "(I)I"⟩
abbrev cX9_names : ByteArray := prog_11_method_43_code
def yX9_names : MethodName := ⟨RX9, "names", "(IZ)Z"⟩
abbrev cX9_named : ByteArray := prog_11_method_44_code
def yX9_named : MethodName := ⟨RX9, "named", "()I"⟩
abbrev cX9_tries : ByteArray := prog_11_method_45_code
def yX9_tries : MethodName := ⟨RX9, "tries", "(II)V"⟩
abbrev cX9_starts : ByteArray := prog_11_method_46_code
def yX9_starts : MethodName := ⟨RX9, "starts", "(I)V"⟩
abbrev cX9_isAsked : ByteArray := prog_11_method_47_code
def yX9_isAsked : MethodName := ⟨RX9, "isAsked", "(I)Z"⟩
abbrev cX9_start : ByteArray := prog_11_method_48_code
def yX9_start : MethodName := ⟨RX9, "start", "(I)I"⟩
abbrev cX9_agrees : ByteArray := prog_11_method_49_code
def yX9_agrees : MethodName := ⟨RX9, "agrees", "(I)I"⟩
abbrev cX9_count : ByteArray := prog_11_method_50_code
def yX9_count : MethodName := ⟨RX9, "count", "(I)I"⟩
def RJx8e188 : String := "java/lang/Cloneable"
def TJx8e188 : u_T := fun k => match k with
  | _ => ("", "", "", false)
def tyJx8e188 : Nat → FieldType := fun k => match k with
  | _ => .int
abbrev wsJx8e1880 : List Cond := u_ws RJx8e188 TJx8e188 0
theorem nmJx8e188 : ∀ a, a < 0 → ∀ b, b < 0 → a ≠ b → (TJx8e188 a).2.1 ≠ (TJx8e188 b).2.1 := by decide +kernel
theorem tyJx8e188_ok : ∀ k, k < 0 → parseFieldDescriptor (TJx8e188 k).2.2.1 = some (tyJx8e188 k) := by decide +kernel
def RJx29ce0 : String := "java/lang/Enum"
def TJx29ce0 : u_T := fun k => match k with
  | _ => ("", "", "", false)
def tyJx29ce0 : Nat → FieldType := fun k => match k with
  | _ => .int
abbrev wsJx29ce00 : List Cond := u_ws RJx29ce0 TJx29ce0 0
theorem nmJx29ce0 : ∀ a, a < 0 → ∀ b, b < 0 → a ≠ b → (TJx29ce0 a).2.1 ≠ (TJx29ce0 b).2.1 := by decide +kernel
theorem tyJx29ce0_ok : ∀ k, k < 0 → parseFieldDescriptor (TJx29ce0 k).2.2.1 = some (tyJx29ce0 k) := by decide +kernel
def RJ6 : String := "java/lang/Integer"
def TJ6 : u_T := fun k => match k with
  | _ => ("", "", "", false)
def tyJ6 : Nat → FieldType := fun k => match k with
  | _ => .int
abbrev wsJ60 : List Cond := u_ws RJ6 TJ6 0
theorem nmJ6 : ∀ a, a < 0 → ∀ b, b < 0 → a ≠ b → (TJ6 a).2.1 ≠ (TJ6 b).2.1 := by decide +kernel
theorem tyJ6_ok : ∀ k, k < 0 → parseFieldDescriptor (TJ6 k).2.2.1 = some (tyJ6 k) := by decide +kernel
abbrev cJ6_bitCount_0f7a4 : ByteArray := prog_18_method_49_code
def yJ6_bitCount_0f7a4 : MethodName := ⟨RJ6, "bitCount", "(I)I"⟩
def RJ13 : String := "java/lang/Long"
def TJ13 : u_T := fun k => match k with
  | _ => ("", "", "", false)
def tyJ13 : Nat → FieldType := fun k => match k with
  | _ => .int
abbrev wsJ130 : List Cond := u_ws RJ13 TJ13 0
theorem nmJ13 : ∀ a, a < 0 → ∀ b, b < 0 → a ≠ b → (TJ13 a).2.1 ≠ (TJ13 b).2.1 := by decide +kernel
theorem tyJ13_ok : ∀ k, k < 0 → parseFieldDescriptor (TJ13 k).2.2.1 = some (tyJ13 k) := by decide +kernel
abbrev cJ13_bitCount_95d88 : ByteArray := prog_19_method_50_code
def yJ13_bitCount_95d88 : MethodName := ⟨RJ13, "bitCount", "(J)I"⟩
def RJ9 : String := "java/lang/Math"
def TJ9 : u_T := fun k => match k with
  | _ => ("", "", "", false)
def tyJ9 : Nat → FieldType := fun k => match k with
  | _ => .int
abbrev wsJ90 : List Cond := u_ws RJ9 TJ9 0
theorem nmJ9 : ∀ a, a < 0 → ∀ b, b < 0 → a ≠ b → (TJ9 a).2.1 ≠ (TJ9 b).2.1 := by decide +kernel
theorem tyJ9_ok : ∀ k, k < 0 → parseFieldDescriptor (TJ9 k).2.2.1 = some (tyJ9 k) := by decide +kernel
abbrev cJ9_max_7cf53 : ByteArray := prog_20_method_65_code
def yJ9_max_7cf53 : MethodName := ⟨RJ9, "max", "(II)I"⟩
abbrev cJ9_min_7cf53 : ByteArray := prog_20_method_69_code
def yJ9_min_7cf53 : MethodName := ⟨RJ9, "min", "(II)I"⟩
def RJ0 : String := "java/lang/String"
def TJ0 : u_T := fun k => match k with
  | _ => ("", "", "", false)
def tyJ0 : Nat → FieldType := fun k => match k with
  | _ => .int
abbrev wsJ00 : List Cond := u_ws RJ0 TJ0 0
theorem nmJ0 : ∀ a, a < 0 → ∀ b, b < 0 → a ≠ b → (TJ0 a).2.1 ≠ (TJ0 b).2.1 := by decide +kernel
theorem tyJ0_ok : ∀ k, k < 0 → parseFieldDescriptor (TJ0 k).2.2.1 = some (tyJ0 k) := by decide +kernel
abbrev cJ0_length_8abf5 : ByteArray := prog_22_method_54_code
def yJ0_length_8abf5 : MethodName := ⟨RJ0, "length", "()I"⟩
abbrev cJ0_charAt_5068e : ByteArray := prog_22_method_56_code
def yJ0_charAt_5068e : MethodName := ⟨RJ0, "charAt", "(I)C"⟩
abbrev cJ0_coder_7d493 : ByteArray := prog_22_method_152_code
def yJ0_coder_7d493 : MethodName := ⟨RJ0, "coder", "()B"⟩
abbrev cJ0_isLatin1_aae02 : ByteArray := prog_22_method_154_code
def yJ0_isLatin1_aae02 : MethodName := ⟨RJ0, "isLatin1", "()Z"⟩
abbrev cJ0_checkIndex_df160 : ByteArray := prog_22_method_155_code
def yJ0_checkIndex_df160 : MethodName := ⟨RJ0, "checkIndex", "(II)V"⟩
def RJ1 : String := "java/lang/StringLatin1"
def TJ1 : u_T := fun k => match k with
  | _ => ("", "", "", false)
def tyJ1 : Nat → FieldType := fun k => match k with
  | _ => .int
abbrev wsJ10 : List Cond := u_ws RJ1 TJ1 0
theorem nmJ1 : ∀ a, a < 0 → ∀ b, b < 0 → a ≠ b → (TJ1 a).2.1 ≠ (TJ1 b).2.1 := by decide +kernel
theorem tyJ1_ok : ∀ k, k < 0 → parseFieldDescriptor (TJ1 k).2.2.1 = some (tyJ1 k) := by decide +kernel
abbrev cJ1_charAt_3b067 : ByteArray := prog_23_method_2_code
def yJ1_charAt_3b067 : MethodName := ⟨RJ1, "charAt", "([BI)C"⟩
def RJ2 : String := "java/lang/StringUTF16"
def TJ2 : u_T := fun k => match k with
  | _ => ("", "", "", false)
def tyJ2 : Nat → FieldType := fun k => match k with
  | _ => .int
abbrev wsJ20 : List Cond := u_ws RJ2 TJ2 0
theorem nmJ2 : ∀ a, a < 0 → ∀ b, b < 0 → a ≠ b → (TJ2 a).2.1 ≠ (TJ2 b).2.1 := by decide +kernel
theorem tyJ2_ok : ∀ k, k < 0 → parseFieldDescriptor (TJ2 k).2.2.1 = some (tyJ2 k) := by decide +kernel
abbrev cJ2_getChar_3b067 : ByteArray := prog_24_method_5_code
def yJ2_getChar_3b067 : MethodName := ⟨RJ2, "getChar", "([BI)C"⟩
abbrev cJ2_length_9d52b : ByteArray := prog_24_method_6_code
def yJ2_length_9d52b : MethodName := ⟨RJ2, "length", "([B)I"⟩
abbrev cJ2_charAt_3b067 : ByteArray := prog_24_method_83_code
def yJ2_charAt_3b067 : MethodName := ⟨RJ2, "charAt", "([BI)C"⟩
abbrev cJ2_checkIndex_2214a : ByteArray := prog_24_method_91_code
def yJ2_checkIndex_2214a : MethodName := ⟨RJ2, "checkIndex", "(I[B)V"⟩
def RJ10 : String := "java/lang/System"
def TJ10 : u_T := fun k => match k with
  | _ => ("", "", "", false)
def tyJ10 : Nat → FieldType := fun k => match k with
  | _ => .int
abbrev wsJ100 : List Cond := u_ws RJ10 TJ10 0
theorem nmJ10 : ∀ a, a < 0 → ∀ b, b < 0 → a ≠ b → (TJ10 a).2.1 ≠ (TJ10 b).2.1 := by decide +kernel
theorem tyJ10_ok : ∀ k, k < 0 → parseFieldDescriptor (TJ10 k).2.2.1 = some (tyJ10 k) := by decide +kernel
def RJ7 : String := "java/util/Arrays"
def TJ7 : u_T := fun k => match k with
  | _ => ("", "", "", false)
def tyJ7 : Nat → FieldType := fun k => match k with
  | _ => .int
abbrev wsJ70 : List Cond := u_ws RJ7 TJ7 0
theorem nmJ7 : ∀ a, a < 0 → ∀ b, b < 0 → a ≠ b → (TJ7 a).2.1 ≠ (TJ7 b).2.1 := by decide +kernel
theorem tyJ7_ok : ∀ k, k < 0 → parseFieldDescriptor (TJ7 k).2.2.1 = some (tyJ7 k) := by decide +kernel
abbrev cJ7_fill_d0a16 : ByteArray := prog_27_method_101_code
def yJ7_fill_d0a16 : MethodName := ⟨RJ7, "fill", "([JJ)V"⟩
abbrev cJ7_fill_53178 : ByteArray := prog_27_method_103_code
def yJ7_fill_53178 : MethodName := ⟨RJ7, "fill", "([II)V"⟩
abbrev cJ7_copyOf_59c91 : ByteArray := prog_27_method_123_code
def yJ7_copyOf_59c91 : MethodName := ⟨RJ7, "copyOf", "([II)[I"⟩
def RJ3 : String := "jdk/internal/util/Preconditions"
def TJ3 : u_T := fun k => match k with
  | _ => ("", "", "", false)
def tyJ3 : Nat → FieldType := fun k => match k with
  | _ => .int
abbrev wsJ30 : List Cond := u_ws RJ3 TJ3 0
theorem nmJ3 : ∀ a, a < 0 → ∀ b, b < 0 → a ≠ b → (TJ3 a).2.1 ≠ (TJ3 b).2.1 := by decide +kernel
theorem tyJ3_ok : ∀ k, k < 0 → parseFieldDescriptor (TJ3 k).2.2.1 = some (tyJ3 k) := by decide +kernel
abbrev cJ3_checkIndex_8e157 : ByteArray := prog_28_method_11_code
def yJ3_checkIndex_8e157 : MethodName := ⟨RJ3, "checkIndex", "(IILjava/util/function/BiFunction;)I"⟩
def RL : String := "StoneDatesLaw"
abbrev cL_town : ByteArray := method_3_code
def yL_town : MethodName := ⟨RL, "town", "(LStoneDates;I[J)I"⟩
abbrev cL_of : ByteArray := method_4_code
def yL_of : MethodName := ⟨RL, "of", "(LStoneDates;II[J)I"⟩
abbrev cL_moon : ByteArray := method_5_code
def yL_moon : MethodName := ⟨RL, "moon", "(LStoneDates;II[J)I"⟩
abbrev cL_stone : ByteArray := method_6_code
def yL_stone : MethodName := ⟨RL, "stone", "(LStoneDates;II[J)I"⟩
abbrev cL_many : ByteArray := method_7_code
def yL_many : MethodName := ⟨RL, "many", "(LStoneDates;I[J)I"⟩
abbrev cL_day : ByteArray := method_8_code
def yL_day : MethodName := ⟨RL, "day", "(LStoneDates;II[J)I"⟩
abbrev cL_fits : ByteArray := method_9_code
def yL_fits : MethodName := ⟨RL, "fits", "(LStoneDates;II[J)I"⟩
abbrev cL_distance : ByteArray := method_10_code
def yL_distance : MethodName := ⟨RL, "distance", "(LStoneDates;III[J)I"⟩
abbrev cL_settled : ByteArray := method_11_code
def yL_settled : MethodName := ⟨RL, "settled", "(LStoneDates;I[J)I"⟩
abbrev cL_settledDay : ByteArray := method_12_code
def yL_settledDay : MethodName := ⟨RL, "settledDay", "(LStoneDates;II[J)I"⟩
abbrev cL_eclipse : ByteArray := method_13_code
def yL_eclipse : MethodName := ⟨RL, "eclipse", "(LStoneDates;I[J)I"⟩
abbrev cL_names : ByteArray := method_14_code
def yL_names : MethodName := ⟨RL, "names", "(LStoneDates;IZ[J)I"⟩
abbrev cL_start : ByteArray := method_15_code
def yL_start : MethodName := ⟨RL, "start", "(LStoneDates;I[J)I"⟩
abbrev cL_agrees : ByteArray := method_16_code
def yL_agrees : MethodName := ⟨RL, "agrees", "(LStoneDates;I[J)I"⟩
abbrev cL_law : ByteArray := code
def yL_law : MethodName := ⟨RL, "law", "([I)Z"⟩
def wsX0_has : List Cond := .code yX0_has cX0_has 1 (some .boolean) :: ([.constant RX0 11 (1152000), .constant RX0 12 (1583999)])
def wsX0_signOf : List Cond := .code yX0_signOf cX0_signOf 3 (some .int) :: ([.constant RX0 13 (144000)])
def wsX0_holds : List Cond := .code yX0_holds cX0_holds 2 (some .boolean) :: ([])
def wsX7_init : List Cond := .code yX7_init cX7_init 2 none :: ([.methodLink RX7 3 objectInit, .instanceMethod objectInit, .code objectInit ⟨#[0xb1]⟩ 1 none, .methodLink RX7 9 Lib.Math.max.name, .static Lib.Math.max.name, .initialized "java/lang/Math", .code Lib.Math.max.name Lib.Math.max.code 2 (some .int), .fieldLink RX7 15 "StoneDates$Wheel" "period" "I", .arrayClass .long, .fieldLink RX7 19 "StoneDates$Wheel" "bits" "[J"] ++ wsX70)
def wsX1_init : List Cond := .code yX1_init cX1_init 1 none :: ([.methodLink RX1 3 objectInit, .instanceMethod objectInit, .code objectInit ⟨#[0xb1]⟩ 1 none, .arrayClass .int, .fieldLink RX1 9 "StoneDates$Finder" "days" "[I", .classLink RX1 15 RX7, .instantiable RX7 3, .initialized RX7, .fieldLink RX1 20 "StoneDates$Finder" "inner" "LStoneDates$Wheel;", .fieldLink RX1 24 "StoneDates$Finder" "thirteen" "LStoneDates$Wheel;", .fieldLink RX1 27 "StoneDates$Finder" "year" "LStoneDates$Wheel;", .fieldLink RX1 30 "StoneDates$Finder" "lunar" "LStoneDates$Wheel;", .methodLink RX1 17 yX7_init, .instanceMethod yX7_init, .code yX7_init cX7_init 2 none, .methodLink RX7 3 objectInit, .methodLink RX7 9 Lib.Math.max.name, .static Lib.Math.max.name, .initialized "java/lang/Math", .code Lib.Math.max.name Lib.Math.max.code 2 (some .int), .fieldLink RX7 15 "StoneDates$Wheel" "period" "I", .arrayClass .long, .fieldLink RX7 19 "StoneDates$Wheel" "bits" "[J"] ++ wsX10 ++ wsX70)
def wsJ7_fill_d0a16 : List Cond := .code yJ7_fill_d0a16 cJ7_fill_d0a16 5 none :: ([])
def wsX7_reset : List Cond := .code yX7_reset cX7_reset 2 none :: ([.fieldLink RX7 23 "StoneDates$Wheel" "free" "Z", .fieldLink RX7 19 "StoneDates$Wheel" "bits" "[J", .methodLink RX7 27 yJ7_fill_d0a16, .static yJ7_fill_d0a16, .initialized RJ7, .code yJ7_fill_d0a16 cJ7_fill_d0a16 5 none] ++ wsX70)
def wsX7_mark : List Cond := .code yX7_mark cX7_mark 3 none :: ([.methodLink RX7 9 Lib.Math.max.name, .static Lib.Math.max.name, .initialized "java/lang/Math", .code Lib.Math.max.name Lib.Math.max.code 2 (some .int), .fieldLink RX7 15 "StoneDates$Wheel" "period" "I", .fieldLink RX7 19 "StoneDates$Wheel" "bits" "[J"] ++ wsX70)
def wsX1_turnInner_r1 : List Cond := [Cond.fieldLink RX1 20 "StoneDates$Finder" "inner" "LStoneDates$Wheel;", Cond.constant RX1 56 (1152000), Cond.methodLink RX1 69 yX7_reset, Cond.instanceMethod yX7_reset, Cond.selects RX7 yX7_reset yX7_reset, Cond.initialized RX7, Cond.code yX7_reset cX7_reset 2 none, Cond.fieldLink RX7 23 "StoneDates$Wheel" "free" "Z", Cond.fieldLink RX7 19 "StoneDates$Wheel" "bits" "[J", Cond.methodLink RX7 27 yJ7_fill_d0a16, Cond.static yJ7_fill_d0a16, Cond.initialized RJ7, Cond.code yJ7_fill_d0a16 cJ7_fill_d0a16 5 none, Cond.methodLink RX1 58 yX0_signOf, Cond.static yX0_signOf, Cond.initialized RX0, Cond.code yX0_signOf cX0_signOf 3 (some .int), Cond.constant RX0 13 (144000), Cond.methodLink RX1 62 yX0_holds, Cond.static yX0_holds, Cond.code yX0_holds cX0_holds 2 (some .boolean), Cond.methodLink RX1 73 yX7_mark, Cond.instanceMethod yX7_mark, Cond.selects RX7 yX7_mark yX7_mark]
def wsX1_turnInner_r2 : List Cond := [Cond.code yX7_mark cX7_mark 3 none, Cond.methodLink RX7 9 Lib.Math.max.name, Cond.static Lib.Math.max.name, Cond.initialized "java/lang/Math", Cond.code Lib.Math.max.name Lib.Math.max.code 2 (some .int), Cond.fieldLink RX7 15 "StoneDates$Wheel" "period" "I"]
def wsX1_turnInner : List Cond := .code yX1_turnInner cX1_turnInner 8 none :: ((wsX1_turnInner_r1 ++ wsX1_turnInner_r2) ++ wsX10 ++ wsX70)
def wsX1_turnThirteen_r1 : List Cond := [Cond.fieldLink RX1 24 "StoneDates$Finder" "thirteen" "LStoneDates$Wheel;", Cond.methodLink RX1 69 yX7_reset, Cond.instanceMethod yX7_reset, Cond.selects RX7 yX7_reset yX7_reset, Cond.initialized RX7, Cond.code yX7_reset cX7_reset 2 none, Cond.fieldLink RX7 23 "StoneDates$Wheel" "free" "Z", Cond.fieldLink RX7 19 "StoneDates$Wheel" "bits" "[J", Cond.methodLink RX7 27 yJ7_fill_d0a16, Cond.static yJ7_fill_d0a16, Cond.initialized RJ7, Cond.code yJ7_fill_d0a16 cJ7_fill_d0a16 5 none, Cond.methodLink RX1 62 yX0_holds, Cond.static yX0_holds, Cond.initialized RX0, Cond.code yX0_holds cX0_holds 2 (some .boolean), Cond.methodLink RX1 73 yX7_mark, Cond.instanceMethod yX7_mark, Cond.selects RX7 yX7_mark yX7_mark, Cond.code yX7_mark cX7_mark 3 none, Cond.methodLink RX7 9 Lib.Math.max.name, Cond.static Lib.Math.max.name, Cond.initialized "java/lang/Math", Cond.code Lib.Math.max.name Lib.Math.max.code 2 (some .int)]
def wsX1_turnThirteen_r2 : List Cond := [Cond.fieldLink RX7 15 "StoneDates$Wheel" "period" "I"]
def wsX1_turnThirteen : List Cond := .code yX1_turnThirteen cX1_turnThirteen 3 none :: ((wsX1_turnThirteen_r1 ++ wsX1_turnThirteen_r2) ++ wsX10 ++ wsX70)
def wsX1_turnYear_r1 : List Cond := [Cond.fieldLink RX1 27 "StoneDates$Finder" "year" "LStoneDates$Wheel;", Cond.methodLink RX1 69 yX7_reset, Cond.instanceMethod yX7_reset, Cond.selects RX7 yX7_reset yX7_reset, Cond.initialized RX7, Cond.code yX7_reset cX7_reset 2 none, Cond.fieldLink RX7 23 "StoneDates$Wheel" "free" "Z", Cond.fieldLink RX7 19 "StoneDates$Wheel" "bits" "[J", Cond.methodLink RX7 27 yJ7_fill_d0a16, Cond.static yJ7_fill_d0a16, Cond.initialized RJ7, Cond.code yJ7_fill_d0a16 cJ7_fill_d0a16 5 none, Cond.methodLink RX1 62 yX0_holds, Cond.static yX0_holds, Cond.initialized RX0, Cond.code yX0_holds cX0_holds 2 (some .boolean), Cond.methodLink RX1 73 yX7_mark, Cond.instanceMethod yX7_mark, Cond.selects RX7 yX7_mark yX7_mark, Cond.code yX7_mark cX7_mark 3 none, Cond.methodLink RX7 9 Lib.Math.max.name, Cond.static Lib.Math.max.name, Cond.initialized "java/lang/Math", Cond.code Lib.Math.max.name Lib.Math.max.code 2 (some .int)]
def wsX1_turnYear_r2 : List Cond := [Cond.fieldLink RX7 15 "StoneDates$Wheel" "period" "I"]
def wsX1_turnYear : List Cond := .code yX1_turnYear cX1_turnYear 5 none :: ((wsX1_turnYear_r1 ++ wsX1_turnYear_r2) ++ wsX10 ++ wsX70)
def wsX1_turnLunar_r1 : List Cond := [Cond.fieldLink RX1 30 "StoneDates$Finder" "lunar" "LStoneDates$Wheel;", Cond.methodLink RX1 69 yX7_reset, Cond.instanceMethod yX7_reset, Cond.selects RX7 yX7_reset yX7_reset, Cond.initialized RX7, Cond.code yX7_reset cX7_reset 2 none, Cond.fieldLink RX7 23 "StoneDates$Wheel" "free" "Z", Cond.fieldLink RX7 19 "StoneDates$Wheel" "bits" "[J", Cond.methodLink RX7 27 yJ7_fill_d0a16, Cond.static yJ7_fill_d0a16, Cond.initialized RJ7, Cond.code yJ7_fill_d0a16 cJ7_fill_d0a16 5 none, Cond.methodLink RX1 58 yX0_signOf, Cond.static yX0_signOf, Cond.initialized RX0, Cond.code yX0_signOf cX0_signOf 3 (some .int), Cond.constant RX0 13 (144000), Cond.methodLink RX1 62 yX0_holds, Cond.static yX0_holds, Cond.code yX0_holds cX0_holds 2 (some .boolean), Cond.methodLink RX1 73 yX7_mark, Cond.instanceMethod yX7_mark, Cond.selects RX7 yX7_mark yX7_mark, Cond.code yX7_mark cX7_mark 3 none]
def wsX1_turnLunar_r2 : List Cond := [Cond.methodLink RX7 9 Lib.Math.max.name, Cond.static Lib.Math.max.name, Cond.initialized "java/lang/Math", Cond.code Lib.Math.max.name Lib.Math.max.code 2 (some .int), Cond.fieldLink RX7 15 "StoneDates$Wheel" "period" "I"]
def wsX1_turnLunar : List Cond := .code yX1_turnLunar cX1_turnLunar 3 none :: ((wsX1_turnLunar_r1 ++ wsX1_turnLunar_r2) ++ wsX10 ++ wsX70)
def wsX7_window : List Cond := .code yX7_window cX7_window 5 (some .long) :: ([.fieldLink RX7 23 "StoneDates$Wheel" "free" "Z", .constantLong RX7 33 (1152921504606846975), .fieldLink RX7 15 "StoneDates$Wheel" "period" "I", .fieldLink RX7 19 "StoneDates$Wheel" "bits" "[J"] ++ wsX70)
def wsJ13_bitCount_95d88 : List Cond := .code yJ13_bitCount_95d88 cJ13_bitCount_95d88 2 (some .int) :: ([.constantLong RJ13 314 (6148914691236517205), .constantLong RJ13 316 (3689348814741910323), .constantLong RJ13 318 (1085102592571150095)])
def wsX1_keep : List Cond := .code yX1_keep cX1_keep 8 none :: ([.fieldLink RX1 33 "StoneDates$Finder" "kept" "I", .fieldLink RX1 9 "StoneDates$Finder" "days" "[I", .methodLink RX1 80 yJ13_bitCount_95d88, .static yJ13_bitCount_95d88, .initialized RJ13, .code yJ13_bitCount_95d88 cJ13_bitCount_95d88 2 (some .int), .constantLong RJ13 314 (6148914691236517205), .constantLong RJ13 316 (3689348814741910323), .constantLong RJ13 318 (1085102592571150095)] ++ wsX10)
def wsX1_scan_r1 : List Cond := [Cond.fieldLink RX1 20 "StoneDates$Finder" "inner" "LStoneDates$Wheel;", Cond.fieldLink RX1 24 "StoneDates$Finder" "thirteen" "LStoneDates$Wheel;", Cond.fieldLink RX1 27 "StoneDates$Finder" "year" "LStoneDates$Wheel;", Cond.fieldLink RX1 30 "StoneDates$Finder" "lunar" "LStoneDates$Wheel;", Cond.fieldLink RX1 37 "StoneDates$Finder" "many" "I", Cond.methodLink RX1 76 yX7_window, Cond.instanceMethod yX7_window, Cond.selects RX7 yX7_window yX7_window, Cond.initialized RX7, Cond.code yX7_window cX7_window 5 (some .long), Cond.fieldLink RX7 23 "StoneDates$Wheel" "free" "Z", Cond.constantLong RX7 33 (1152921504606846975), Cond.fieldLink RX7 15 "StoneDates$Wheel" "period" "I", Cond.fieldLink RX7 19 "StoneDates$Wheel" "bits" "[J", Cond.methodLink RX1 80 yJ13_bitCount_95d88, Cond.static yJ13_bitCount_95d88, Cond.initialized RJ13, Cond.code yJ13_bitCount_95d88 cJ13_bitCount_95d88 2 (some .int), Cond.constantLong RJ13 314 (6148914691236517205), Cond.constantLong RJ13 316 (3689348814741910323), Cond.constantLong RJ13 318 (1085102592571150095), Cond.methodLink RX1 86 yX1_keep, Cond.instanceMethod yX1_keep, Cond.selects RX1 yX1_keep yX1_keep]
def wsX1_scan_r2 : List Cond := [Cond.initialized RX1, Cond.code yX1_keep cX1_keep 8 none, Cond.fieldLink RX1 33 "StoneDates$Finder" "kept" "I", Cond.fieldLink RX1 9 "StoneDates$Finder" "days" "[I"]
def wsX1_scan : List Cond := .code yX1_scan cX1_scan 9 none :: ((wsX1_scan_r1 ++ wsX1_scan_r2) ++ wsX10 ++ wsX70)
def wsX1_seek_r1 : List Cond := [Cond.fieldLink RX1 33 "StoneDates$Finder" "kept" "I", Cond.fieldLink RX1 37 "StoneDates$Finder" "many" "I", Cond.constant RX1 56 (1152000), Cond.constant RX1 57 (1583999), Cond.methodLink RX1 40 yX1_turnInner, Cond.instanceMethod yX1_turnInner, Cond.selects RX1 yX1_turnInner yX1_turnInner, Cond.initialized RX1, Cond.code yX1_turnInner cX1_turnInner 8 none, Cond.fieldLink RX1 20 "StoneDates$Finder" "inner" "LStoneDates$Wheel;", Cond.methodLink RX1 69 yX7_reset, Cond.instanceMethod yX7_reset, Cond.selects RX7 yX7_reset yX7_reset, Cond.initialized RX7, Cond.code yX7_reset cX7_reset 2 none, Cond.fieldLink RX7 23 "StoneDates$Wheel" "free" "Z", Cond.fieldLink RX7 19 "StoneDates$Wheel" "bits" "[J", Cond.methodLink RX7 27 yJ7_fill_d0a16, Cond.static yJ7_fill_d0a16, Cond.initialized RJ7, Cond.code yJ7_fill_d0a16 cJ7_fill_d0a16 5 none, Cond.methodLink RX1 58 yX0_signOf, Cond.static yX0_signOf, Cond.initialized RX0]
def wsX1_seek_r2 : List Cond := [Cond.code yX0_signOf cX0_signOf 3 (some .int), Cond.constant RX0 13 (144000), Cond.methodLink RX1 62 yX0_holds, Cond.static yX0_holds, Cond.code yX0_holds cX0_holds 2 (some .boolean), Cond.methodLink RX1 73 yX7_mark, Cond.instanceMethod yX7_mark, Cond.selects RX7 yX7_mark yX7_mark, Cond.code yX7_mark cX7_mark 3 none, Cond.methodLink RX7 9 Lib.Math.max.name, Cond.static Lib.Math.max.name, Cond.initialized "java/lang/Math", Cond.code Lib.Math.max.name Lib.Math.max.code 2 (some .int), Cond.fieldLink RX7 15 "StoneDates$Wheel" "period" "I", Cond.methodLink RX1 44 yX1_turnThirteen, Cond.instanceMethod yX1_turnThirteen, Cond.selects RX1 yX1_turnThirteen yX1_turnThirteen, Cond.code yX1_turnThirteen cX1_turnThirteen 3 none, Cond.fieldLink RX1 24 "StoneDates$Finder" "thirteen" "LStoneDates$Wheel;", Cond.methodLink RX1 47 yX1_turnYear, Cond.instanceMethod yX1_turnYear, Cond.selects RX1 yX1_turnYear yX1_turnYear, Cond.code yX1_turnYear cX1_turnYear 5 none, Cond.fieldLink RX1 27 "StoneDates$Finder" "year" "LStoneDates$Wheel;"]
def wsX1_seek_r3 : List Cond := [Cond.methodLink RX1 51 yX1_turnLunar, Cond.instanceMethod yX1_turnLunar, Cond.selects RX1 yX1_turnLunar yX1_turnLunar, Cond.code yX1_turnLunar cX1_turnLunar 3 none, Cond.fieldLink RX1 30 "StoneDates$Finder" "lunar" "LStoneDates$Wheel;", Cond.methodLink RX1 66 yX1_scan, Cond.instanceMethod yX1_scan, Cond.selects RX1 yX1_scan yX1_scan, Cond.code yX1_scan cX1_scan 9 none, Cond.methodLink RX1 76 yX7_window, Cond.instanceMethod yX7_window, Cond.selects RX7 yX7_window yX7_window, Cond.code yX7_window cX7_window 5 (some .long), Cond.constantLong RX7 33 (1152921504606846975), Cond.methodLink RX1 80 yJ13_bitCount_95d88, Cond.static yJ13_bitCount_95d88, Cond.initialized RJ13, Cond.code yJ13_bitCount_95d88 cJ13_bitCount_95d88 2 (some .int), Cond.constantLong RJ13 314 (6148914691236517205), Cond.constantLong RJ13 316 (3689348814741910323), Cond.constantLong RJ13 318 (1085102592571150095), Cond.methodLink RX1 86 yX1_keep, Cond.instanceMethod yX1_keep, Cond.selects RX1 yX1_keep yX1_keep]
def wsX1_seek_r4 : List Cond := [Cond.code yX1_keep cX1_keep 8 none, Cond.fieldLink RX1 9 "StoneDates$Finder" "days" "[I"]
def wsX1_seek : List Cond := .code yX1_seek cX1_seek 4 none :: ((wsX1_seek_r1 ++ (wsX1_seek_r2 ++ (wsX1_seek_r3 ++ wsX1_seek_r4))) ++ wsX10 ++ wsX70)
def wsX3_init : List Cond := .code yX3_init cX3_init 2 none :: ([.methodLink RX3 3 objectInit, .instanceMethod objectInit, .code objectInit ⟨#[0xb1]⟩ 1 none, .classLink RX3 9 RX6, .fieldLink RX3 11 "StoneDates$Net" "members" "[LStoneDates$Stone;", .arrayClass .int, .fieldLink RX3 17 "StoneDates$Net" "from" "[I", .fieldLink RX3 21 "StoneDates$Net" "to" "[I", .fieldLink RX3 24 "StoneDates$Net" "days" "[I", .classLink RX3 27 "[[I", .fieldLink RX3 29 "StoneDates$Net" "group" "[[I", .fieldLink RX3 32 "StoneDates$Net" "offset" "[[I", .fieldLink RX3 35 "StoneDates$Net" "joined" "[[I", .fieldLink RX3 38 "StoneDates$Net" "joinedSize" "[I"] ++ wsX30)
def wsX3_take : List Cond := .code yX3_take cX3_take 3 none :: ([.fieldLink RX3 41 "StoneDates$Stone" "many" "I", .fieldLink RX3 11 "StoneDates$Net" "members" "[LStoneDates$Stone;", .fieldLink RX3 45 "StoneDates$Net" "memberCount" "I"] ++ wsX60 ++ wsX30)
def wsX3_add : List Cond := .code yX3_add cX3_add 4 (some .int) :: ([.fieldLink RX3 48 "StoneDates$Net" "size" "I", .fieldLink RX3 17 "StoneDates$Net" "from" "[I", .fieldLink RX3 21 "StoneDates$Net" "to" "[I", .fieldLink RX3 24 "StoneDates$Net" "days" "[I"] ++ wsX30)
def wsJ6_bitCount_0f7a4 : List Cond := .code yJ6_bitCount_0f7a4 cJ6_bitCount_0f7a4 1 (some .int) :: ([.constant RJ6 265 (1431655765), .constant RJ6 266 (858993459), .constant RJ6 267 (252645135)])
def wsX3_isAsked : List Cond := .code yX3_isAsked cX3_isAsked 2 (some .boolean) :: ([.fieldLink RX3 11 "StoneDates$Net" "members" "[LStoneDates$Stone;", .fieldLink RX3 17 "StoneDates$Net" "from" "[I", .fieldLink RX3 21 "StoneDates$Net" "to" "[I"] ++ wsX30)
def wsX3_pass : List Cond := .code yX3_pass cX3_pass 2 none :: ([.fieldLink RX3 29 "StoneDates$Net" "group" "[[I", .methodLink RX3 81 arraycopyName, .native arraycopyName, .static arraycopyName, .initialized "java/lang/System", .fieldLink RX3 32 "StoneDates$Net" "offset" "[[I"] ++ wsX30)
def wsX3_daysOf : List Cond := .code yX3_daysOf cX3_daysOf 3 (some (.array .int)) :: ([.fieldLink RX3 35 "StoneDates$Net" "joined" "[[I", .fieldLink RX3 11 "StoneDates$Net" "members" "[LStoneDates$Stone;", .fieldLink RX3 98 "StoneDates$Stone" "days" "[I"] ++ wsX30 ++ wsX60)
def wsX3_sizeOf : List Cond := .code yX3_sizeOf cX3_sizeOf 3 (some .int) :: ([.fieldLink RX3 38 "StoneDates$Net" "joinedSize" "[I", .fieldLink RX3 11 "StoneDates$Net" "members" "[LStoneDates$Stone;", .fieldLink RX3 98 "StoneDates$Stone" "days" "[I"] ++ wsX30 ++ wsX60)
def wsX3_meet : List Cond := .code yX3_meet cX3_meet 13 (some .boolean) :: ([.fieldLink RX3 35 "StoneDates$Net" "joined" "[[I", .fieldLink RX3 38 "StoneDates$Net" "joinedSize" "[I", .methodLink RX3 91 yX3_daysOf, .instanceMethod yX3_daysOf, .selects RX3 yX3_daysOf yX3_daysOf, .initialized RX3, .code yX3_daysOf cX3_daysOf 3 (some (.array .int)), .fieldLink RX3 11 "StoneDates$Net" "members" "[LStoneDates$Stone;", .fieldLink RX3 98 "StoneDates$Stone" "days" "[I", .methodLink RX3 95 yX3_sizeOf, .instanceMethod yX3_sizeOf, .selects RX3 yX3_sizeOf yX3_sizeOf, .code yX3_sizeOf cX3_sizeOf 3 (some .int)] ++ wsX30 ++ wsX60)
def wsX3_join_r1 : List Cond := [Cond.fieldLink RX3 29 "StoneDates$Net" "group" "[[I", Cond.fieldLink RX3 17 "StoneDates$Net" "from" "[I", Cond.fieldLink RX3 21 "StoneDates$Net" "to" "[I", Cond.fieldLink RX3 24 "StoneDates$Net" "days" "[I", Cond.fieldLink RX3 32 "StoneDates$Net" "offset" "[[I", Cond.methodLink RX3 72 yX3_pass, Cond.instanceMethod yX3_pass, Cond.selects RX3 yX3_pass yX3_pass, Cond.initialized RX3, Cond.code yX3_pass cX3_pass 2 none, Cond.methodLink RX3 81 arraycopyName, Cond.native arraycopyName, Cond.static arraycopyName, Cond.initialized "java/lang/System", Cond.methodLink RX3 87 yX3_meet, Cond.instanceMethod yX3_meet, Cond.selects RX3 yX3_meet yX3_meet, Cond.code yX3_meet cX3_meet 13 (some .boolean), Cond.fieldLink RX3 35 "StoneDates$Net" "joined" "[[I", Cond.fieldLink RX3 38 "StoneDates$Net" "joinedSize" "[I", Cond.methodLink RX3 91 yX3_daysOf, Cond.instanceMethod yX3_daysOf, Cond.selects RX3 yX3_daysOf yX3_daysOf, Cond.code yX3_daysOf cX3_daysOf 3 (some (.array .int))]
def wsX3_join_r2 : List Cond := [Cond.fieldLink RX3 11 "StoneDates$Net" "members" "[LStoneDates$Stone;", Cond.fieldLink RX3 98 "StoneDates$Stone" "days" "[I", Cond.methodLink RX3 95 yX3_sizeOf, Cond.instanceMethod yX3_sizeOf, Cond.selects RX3 yX3_sizeOf yX3_sizeOf, Cond.code yX3_sizeOf cX3_sizeOf 3 (some .int)]
def wsX3_join : List Cond := .code yX3_join cX3_join 6 (some .int) :: ((wsX3_join_r1 ++ wsX3_join_r2) ++ wsX30 ++ wsX60)
def wsX3_search_r1 : List Cond := [Cond.fieldLink RX3 54 "StoneDates$Net" "fewest" "I", Cond.fieldLink RX3 48 "StoneDates$Net" "size" "I", Cond.fieldLink RX3 65 "StoneDates$Net" "wrongs" "I", Cond.methodLink RX3 76 yJ6_bitCount_0f7a4, Cond.static yJ6_bitCount_0f7a4, Cond.initialized RJ6, Cond.code yJ6_bitCount_0f7a4 cJ6_bitCount_0f7a4 1 (some .int), Cond.constant RJ6 265 (1431655765), Cond.constant RJ6 266 (858993459), Cond.constant RJ6 267 (252645135), Cond.methodLink RX3 61 yX3_isAsked, Cond.instanceMethod yX3_isAsked, Cond.selects RX3 yX3_isAsked yX3_isAsked, Cond.initialized RX3, Cond.code yX3_isAsked cX3_isAsked 2 (some .boolean), Cond.fieldLink RX3 11 "StoneDates$Net" "members" "[LStoneDates$Stone;", Cond.fieldLink RX3 17 "StoneDates$Net" "from" "[I", Cond.fieldLink RX3 21 "StoneDates$Net" "to" "[I", Cond.methodLink RX3 72 yX3_pass, Cond.instanceMethod yX3_pass, Cond.selects RX3 yX3_pass yX3_pass, Cond.code yX3_pass cX3_pass 2 none, Cond.fieldLink RX3 29 "StoneDates$Net" "group" "[[I", Cond.methodLink RX3 81 arraycopyName]
def wsX3_search_r2 : List Cond := [Cond.native arraycopyName, Cond.static arraycopyName, Cond.initialized "java/lang/System", Cond.fieldLink RX3 32 "StoneDates$Net" "offset" "[[I", Cond.methodLink RX3 57 yX3_search, Cond.instanceMethod yX3_search, Cond.selects RX3 yX3_search yX3_search, Cond.methodLink RX3 68 yX3_join, Cond.instanceMethod yX3_join, Cond.selects RX3 yX3_join yX3_join, Cond.code yX3_join cX3_join 6 (some .int), Cond.fieldLink RX3 24 "StoneDates$Net" "days" "[I", Cond.methodLink RX3 87 yX3_meet, Cond.instanceMethod yX3_meet, Cond.selects RX3 yX3_meet yX3_meet, Cond.code yX3_meet cX3_meet 13 (some .boolean), Cond.fieldLink RX3 35 "StoneDates$Net" "joined" "[[I", Cond.fieldLink RX3 38 "StoneDates$Net" "joinedSize" "[I", Cond.methodLink RX3 91 yX3_daysOf, Cond.instanceMethod yX3_daysOf, Cond.selects RX3 yX3_daysOf yX3_daysOf, Cond.code yX3_daysOf cX3_daysOf 3 (some (.array .int)), Cond.fieldLink RX3 98 "StoneDates$Stone" "days" "[I", Cond.methodLink RX3 95 yX3_sizeOf]
def wsX3_search_r3 : List Cond := [Cond.instanceMethod yX3_sizeOf, Cond.selects RX3 yX3_sizeOf yX3_sizeOf, Cond.code yX3_sizeOf cX3_sizeOf 3 (some .int)]
def wsX3_search : List Cond := .code yX3_search cX3_search 5 none :: ((wsX3_search_r1 ++ (wsX3_search_r2 ++ wsX3_search_r3)) ++ wsX30 ++ wsX60)
def wsX3_solve_r1 : List Cond := [Cond.fieldLink RX3 51 "StoneDates$Net" "solvedSize" "I", Cond.fieldLink RX3 48 "StoneDates$Net" "size" "I", Cond.fieldLink RX3 54 "StoneDates$Net" "fewest" "I", Cond.fieldLink RX3 65 "StoneDates$Net" "wrongs" "I", Cond.methodLink RX3 57 yX3_search, Cond.instanceMethod yX3_search, Cond.selects RX3 yX3_search yX3_search, Cond.initialized RX3, Cond.code yX3_search cX3_search 5 none, Cond.methodLink RX3 76 yJ6_bitCount_0f7a4, Cond.static yJ6_bitCount_0f7a4, Cond.initialized RJ6, Cond.code yJ6_bitCount_0f7a4 cJ6_bitCount_0f7a4 1 (some .int), Cond.constant RJ6 265 (1431655765), Cond.constant RJ6 266 (858993459), Cond.constant RJ6 267 (252645135), Cond.methodLink RX3 61 yX3_isAsked, Cond.instanceMethod yX3_isAsked, Cond.selects RX3 yX3_isAsked yX3_isAsked, Cond.code yX3_isAsked cX3_isAsked 2 (some .boolean), Cond.fieldLink RX3 11 "StoneDates$Net" "members" "[LStoneDates$Stone;", Cond.fieldLink RX3 17 "StoneDates$Net" "from" "[I", Cond.fieldLink RX3 21 "StoneDates$Net" "to" "[I", Cond.methodLink RX3 72 yX3_pass]
def wsX3_solve_r2 : List Cond := [Cond.instanceMethod yX3_pass, Cond.selects RX3 yX3_pass yX3_pass, Cond.code yX3_pass cX3_pass 2 none, Cond.fieldLink RX3 29 "StoneDates$Net" "group" "[[I", Cond.methodLink RX3 81 arraycopyName, Cond.native arraycopyName, Cond.static arraycopyName, Cond.initialized "java/lang/System", Cond.fieldLink RX3 32 "StoneDates$Net" "offset" "[[I", Cond.methodLink RX3 68 yX3_join, Cond.instanceMethod yX3_join, Cond.selects RX3 yX3_join yX3_join, Cond.code yX3_join cX3_join 6 (some .int), Cond.fieldLink RX3 24 "StoneDates$Net" "days" "[I", Cond.methodLink RX3 87 yX3_meet, Cond.instanceMethod yX3_meet, Cond.selects RX3 yX3_meet yX3_meet, Cond.code yX3_meet cX3_meet 13 (some .boolean), Cond.fieldLink RX3 35 "StoneDates$Net" "joined" "[[I", Cond.fieldLink RX3 38 "StoneDates$Net" "joinedSize" "[I", Cond.methodLink RX3 91 yX3_daysOf, Cond.instanceMethod yX3_daysOf, Cond.selects RX3 yX3_daysOf yX3_daysOf, Cond.code yX3_daysOf cX3_daysOf 3 (some (.array .int))]
def wsX3_solve_r3 : List Cond := [Cond.fieldLink RX3 98 "StoneDates$Stone" "days" "[I", Cond.methodLink RX3 95 yX3_sizeOf, Cond.instanceMethod yX3_sizeOf, Cond.selects RX3 yX3_sizeOf yX3_sizeOf, Cond.code yX3_sizeOf cX3_sizeOf 3 (some .int)]
def wsX3_solve : List Cond := .code yX3_solve cX3_solve 2 none :: ((wsX3_solve_r1 ++ (wsX3_solve_r2 ++ wsX3_solve_r3)) ++ wsX30 ++ wsX60)
def wsX3_wrongAt : List Cond := .code yX3_wrongAt cX3_wrongAt 4 (some .int) :: ([.fieldLink RX3 48 "StoneDates$Net" "size" "I", .fieldLink RX3 65 "StoneDates$Net" "wrongs" "I"] ++ wsX30)
def wsX3_settledSize : List Cond := .code yX3_settledSize cX3_settledSize 2 (some .int) :: ([.fieldLink RX3 11 "StoneDates$Net" "members" "[LStoneDates$Stone;", .fieldLink RX3 29 "StoneDates$Net" "group" "[[I", .fieldLink RX3 48 "StoneDates$Net" "size" "I", .methodLink RX3 95 yX3_sizeOf, .instanceMethod yX3_sizeOf, .selects RX3 yX3_sizeOf yX3_sizeOf, .initialized RX3, .code yX3_sizeOf cX3_sizeOf 3 (some .int), .fieldLink RX3 38 "StoneDates$Net" "joinedSize" "[I", .fieldLink RX3 98 "StoneDates$Stone" "days" "[I"] ++ wsX30 ++ wsX60)
def wsX3_settledAt : List Cond := .code yX3_settledAt cX3_settledAt 3 (some .int) :: ([.fieldLink RX3 29 "StoneDates$Net" "group" "[[I", .fieldLink RX3 48 "StoneDates$Net" "size" "I", .fieldLink RX3 32 "StoneDates$Net" "offset" "[[I", .methodLink RX3 99 yX3_settledSize, .instanceMethod yX3_settledSize, .selects RX3 yX3_settledSize yX3_settledSize, .initialized RX3, .code yX3_settledSize cX3_settledSize 2 (some .int), .fieldLink RX3 11 "StoneDates$Net" "members" "[LStoneDates$Stone;", .methodLink RX3 95 yX3_sizeOf, .instanceMethod yX3_sizeOf, .selects RX3 yX3_sizeOf yX3_sizeOf, .code yX3_sizeOf cX3_sizeOf 3 (some .int), .fieldLink RX3 38 "StoneDates$Net" "joinedSize" "[I", .fieldLink RX3 98 "StoneDates$Stone" "days" "[I", .methodLink RX3 91 yX3_daysOf, .instanceMethod yX3_daysOf, .selects RX3 yX3_daysOf yX3_daysOf, .code yX3_daysOf cX3_daysOf 3 (some (.array .int)), .fieldLink RX3 35 "StoneDates$Net" "joined" "[[I"] ++ wsX30 ++ wsX60)
def wsX4_init : List Cond := .code yX4_init cX4_init 1 none :: ([.methodLink RX4 3 objectInit, .instanceMethod objectInit, .code objectInit ⟨#[0xb1]⟩ 1 none, .arrayClass .int, .fieldLink RX4 9 "StoneDates$Reader" "sets" "[I", .fieldLink RX4 15 "StoneDates$Reader" "bytes" "[I"] ++ wsX40)
def wsX4_hasRoom : List Cond := .code yX4_hasRoom cX4_hasRoom 1 (some .boolean) :: ([.fieldLink RX4 18 "StoneDates$Reader" "size" "I"] ++ wsX40)
def wsX4_put : List Cond := .code yX4_put cX4_put 3 none :: ([.fieldLink RX4 18 "StoneDates$Reader" "size" "I", .fieldLink RX4 15 "StoneDates$Reader" "bytes" "[I"] ++ wsX40)
def wsJ7_fill_53178 : List Cond := .code yJ7_fill_53178 cJ7_fill_53178 4 none :: ([])
def wsX4_skipBlanks : List Cond := .code yX4_skipBlanks cX4_skipBlanks 1 none :: ([.fieldLink RX4 34 "StoneDates$Reader" "at" "I", .fieldLink RX4 31 "StoneDates$Reader" "length" "I", .fieldLink RX4 15 "StoneDates$Reader" "bytes" "[I"] ++ wsX40)
def wsJ0_coder_7d493 : List Cond := .code yJ0_coder_7d493 cJ0_coder_7d493 1 (some .byte) :: ([.fieldLink RJ0 38 "java/lang/String" "COMPACT_STRINGS" "Z", .fieldLink RJ0 15 "java/lang/String" "coder" "B"])
def wsJ0_length_8abf5 : List Cond := .code yJ0_length_8abf5 cJ0_length_8abf5 1 (some .int) :: ([.fieldLink RJ0 9 "java/lang/String" "value" "[B", .methodLink RJ0 335 yJ0_coder_7d493, .instanceMethod yJ0_coder_7d493, .selects RJ0 yJ0_coder_7d493 yJ0_coder_7d493, .initialized RJ0, .code yJ0_coder_7d493 cJ0_coder_7d493 1 (some .byte), .fieldLink RJ0 38 "java/lang/String" "COMPACT_STRINGS" "Z", .fieldLink RJ0 15 "java/lang/String" "coder" "B"])
def wsJ0_isLatin1_aae02 : List Cond := .code yJ0_isLatin1_aae02 cJ0_isLatin1_aae02 1 (some .boolean) :: ([.fieldLink RJ0 38 "java/lang/String" "COMPACT_STRINGS" "Z", .fieldLink RJ0 15 "java/lang/String" "coder" "B"])
def wsJ3_checkIndex_8e157 : List Cond := .code yJ3_checkIndex_8e157 cJ3_checkIndex_8e157 3 (some .int) :: ([])
def wsJ0_checkIndex_df160 : List Cond := .code yJ0_checkIndex_df160 cJ0_checkIndex_df160 2 none :: ([.fieldLink RJ0 1053 "jdk/internal/util/Preconditions" "SIOOBE_FORMATTER" "Ljava/util/function/BiFunction;", .methodLink RJ0 1059 yJ3_checkIndex_8e157, .static yJ3_checkIndex_8e157, .initialized RJ3, .code yJ3_checkIndex_8e157 cJ3_checkIndex_8e157 3 (some .int)])
def wsJ1_charAt_3b067 : List Cond := .code yJ1_charAt_3b067 cJ1_charAt_3b067 2 (some .char) :: ([.methodLink RJ1 9 yJ0_checkIndex_df160, .static yJ0_checkIndex_df160, .initialized RJ0, .code yJ0_checkIndex_df160 cJ0_checkIndex_df160 2 none, .fieldLink RJ0 1053 "jdk/internal/util/Preconditions" "SIOOBE_FORMATTER" "Ljava/util/function/BiFunction;", .methodLink RJ0 1059 yJ3_checkIndex_8e157, .static yJ3_checkIndex_8e157, .initialized RJ3, .code yJ3_checkIndex_8e157 cJ3_checkIndex_8e157 3 (some .int)])
def wsJ2_length_9d52b : List Cond := .code yJ2_length_9d52b cJ2_length_9d52b 1 (some .int) :: ([])
def wsJ2_checkIndex_2214a : List Cond := .code yJ2_checkIndex_2214a cJ2_checkIndex_2214a 2 none :: ([.methodLink RJ2 48 yJ2_length_9d52b, .static yJ2_length_9d52b, .initialized RJ2, .code yJ2_length_9d52b cJ2_length_9d52b 1 (some .int), .methodLink RJ2 414 yJ0_checkIndex_df160, .static yJ0_checkIndex_df160, .initialized RJ0, .code yJ0_checkIndex_df160 cJ0_checkIndex_df160 2 none, .fieldLink RJ0 1053 "jdk/internal/util/Preconditions" "SIOOBE_FORMATTER" "Ljava/util/function/BiFunction;", .methodLink RJ0 1059 yJ3_checkIndex_8e157, .static yJ3_checkIndex_8e157, .initialized RJ3, .code yJ3_checkIndex_8e157 cJ3_checkIndex_8e157 3 (some .int)])
def wsJ2_getChar_3b067 : List Cond := .code yJ2_getChar_3b067 cJ2_getChar_3b067 2 (some .char) :: ([.fieldLink RJ2 44 "java/lang/StringUTF16" "$assertionsDisabled" "Z", .fieldLink RJ2 59 "java/lang/StringUTF16" "HI_BYTE_SHIFT" "I", .fieldLink RJ2 63 "java/lang/StringUTF16" "LO_BYTE_SHIFT" "I", .methodLink RJ2 48 yJ2_length_9d52b, .static yJ2_length_9d52b, .initialized RJ2, .code yJ2_length_9d52b cJ2_length_9d52b 1 (some .int)])
def wsJ2_charAt_3b067 : List Cond := .code yJ2_charAt_3b067 cJ2_charAt_3b067 2 (some .char) :: ([.methodLink RJ2 67 yJ2_checkIndex_2214a, .static yJ2_checkIndex_2214a, .initialized RJ2, .code yJ2_checkIndex_2214a cJ2_checkIndex_2214a 2 none, .methodLink RJ2 48 yJ2_length_9d52b, .static yJ2_length_9d52b, .code yJ2_length_9d52b cJ2_length_9d52b 1 (some .int), .methodLink RJ2 414 yJ0_checkIndex_df160, .static yJ0_checkIndex_df160, .initialized RJ0, .code yJ0_checkIndex_df160 cJ0_checkIndex_df160 2 none, .fieldLink RJ0 1053 "jdk/internal/util/Preconditions" "SIOOBE_FORMATTER" "Ljava/util/function/BiFunction;", .methodLink RJ0 1059 yJ3_checkIndex_8e157, .static yJ3_checkIndex_8e157, .initialized RJ3, .code yJ3_checkIndex_8e157 cJ3_checkIndex_8e157 3 (some .int), .methodLink RJ2 71 yJ2_getChar_3b067, .static yJ2_getChar_3b067, .code yJ2_getChar_3b067 cJ2_getChar_3b067 2 (some .char), .fieldLink RJ2 44 "java/lang/StringUTF16" "$assertionsDisabled" "Z", .fieldLink RJ2 59 "java/lang/StringUTF16" "HI_BYTE_SHIFT" "I", .fieldLink RJ2 63 "java/lang/StringUTF16" "LO_BYTE_SHIFT" "I"])
def wsJ0_charAt_5068e_r1 : List Cond := [Cond.fieldLink RJ0 9 "java/lang/String" "value" "[B", Cond.methodLink RJ0 492 yJ0_isLatin1_aae02, Cond.instanceMethod yJ0_isLatin1_aae02, Cond.selects RJ0 yJ0_isLatin1_aae02 yJ0_isLatin1_aae02, Cond.initialized RJ0, Cond.code yJ0_isLatin1_aae02 cJ0_isLatin1_aae02 1 (some .boolean), Cond.fieldLink RJ0 38 "java/lang/String" "COMPACT_STRINGS" "Z", Cond.fieldLink RJ0 15 "java/lang/String" "coder" "B", Cond.methodLink RJ0 495 yJ1_charAt_3b067, Cond.static yJ1_charAt_3b067, Cond.initialized RJ1, Cond.code yJ1_charAt_3b067 cJ1_charAt_3b067 2 (some .char), Cond.methodLink RJ1 9 yJ0_checkIndex_df160, Cond.static yJ0_checkIndex_df160, Cond.code yJ0_checkIndex_df160 cJ0_checkIndex_df160 2 none, Cond.fieldLink RJ0 1053 "jdk/internal/util/Preconditions" "SIOOBE_FORMATTER" "Ljava/util/function/BiFunction;", Cond.methodLink RJ0 1059 yJ3_checkIndex_8e157, Cond.static yJ3_checkIndex_8e157, Cond.initialized RJ3, Cond.code yJ3_checkIndex_8e157 cJ3_checkIndex_8e157 3 (some .int), Cond.methodLink RJ0 498 yJ2_charAt_3b067, Cond.static yJ2_charAt_3b067, Cond.initialized RJ2, Cond.code yJ2_charAt_3b067 cJ2_charAt_3b067 2 (some .char)]
def wsJ0_charAt_5068e_r2 : List Cond := [Cond.methodLink RJ2 67 yJ2_checkIndex_2214a, Cond.static yJ2_checkIndex_2214a, Cond.code yJ2_checkIndex_2214a cJ2_checkIndex_2214a 2 none, Cond.methodLink RJ2 48 yJ2_length_9d52b, Cond.static yJ2_length_9d52b, Cond.code yJ2_length_9d52b cJ2_length_9d52b 1 (some .int), Cond.methodLink RJ2 414 yJ0_checkIndex_df160, Cond.methodLink RJ2 71 yJ2_getChar_3b067, Cond.static yJ2_getChar_3b067, Cond.code yJ2_getChar_3b067 cJ2_getChar_3b067 2 (some .char), Cond.fieldLink RJ2 44 "java/lang/StringUTF16" "$assertionsDisabled" "Z", Cond.fieldLink RJ2 59 "java/lang/StringUTF16" "HI_BYTE_SHIFT" "I", Cond.fieldLink RJ2 63 "java/lang/StringUTF16" "LO_BYTE_SHIFT" "I"]
def wsJ0_charAt_5068e : List Cond := .code yJ0_charAt_5068e cJ0_charAt_5068e 2 (some .char) :: ((wsJ0_charAt_5068e_r1 ++ wsJ0_charAt_5068e_r2))
def wsX4_isWord_r1 : List Cond := [Cond.fieldLink RX4 15 "StoneDates$Reader" "bytes" "[I", Cond.methodLink RX4 89 yJ0_length_8abf5, Cond.instanceMethod yJ0_length_8abf5, Cond.selects RJ0 yJ0_length_8abf5 yJ0_length_8abf5, Cond.initialized RJ0, Cond.code yJ0_length_8abf5 cJ0_length_8abf5 1 (some .int), Cond.fieldLink RJ0 9 "java/lang/String" "value" "[B", Cond.methodLink RJ0 335 yJ0_coder_7d493, Cond.instanceMethod yJ0_coder_7d493, Cond.selects RJ0 yJ0_coder_7d493 yJ0_coder_7d493, Cond.code yJ0_coder_7d493 cJ0_coder_7d493 1 (some .byte), Cond.fieldLink RJ0 38 "java/lang/String" "COMPACT_STRINGS" "Z", Cond.fieldLink RJ0 15 "java/lang/String" "coder" "B", Cond.methodLink RX4 94 yJ0_charAt_5068e, Cond.instanceMethod yJ0_charAt_5068e, Cond.selects RJ0 yJ0_charAt_5068e yJ0_charAt_5068e, Cond.code yJ0_charAt_5068e cJ0_charAt_5068e 2 (some .char), Cond.methodLink RJ0 492 yJ0_isLatin1_aae02, Cond.instanceMethod yJ0_isLatin1_aae02, Cond.selects RJ0 yJ0_isLatin1_aae02 yJ0_isLatin1_aae02, Cond.code yJ0_isLatin1_aae02 cJ0_isLatin1_aae02 1 (some .boolean), Cond.methodLink RJ0 495 yJ1_charAt_3b067, Cond.static yJ1_charAt_3b067, Cond.initialized RJ1]
def wsX4_isWord_r2 : List Cond := [Cond.code yJ1_charAt_3b067 cJ1_charAt_3b067 2 (some .char), Cond.methodLink RJ1 9 yJ0_checkIndex_df160, Cond.static yJ0_checkIndex_df160, Cond.code yJ0_checkIndex_df160 cJ0_checkIndex_df160 2 none, Cond.fieldLink RJ0 1053 "jdk/internal/util/Preconditions" "SIOOBE_FORMATTER" "Ljava/util/function/BiFunction;", Cond.methodLink RJ0 1059 yJ3_checkIndex_8e157, Cond.static yJ3_checkIndex_8e157, Cond.initialized RJ3, Cond.code yJ3_checkIndex_8e157 cJ3_checkIndex_8e157 3 (some .int), Cond.methodLink RJ0 498 yJ2_charAt_3b067, Cond.static yJ2_charAt_3b067, Cond.initialized RJ2, Cond.code yJ2_charAt_3b067 cJ2_charAt_3b067 2 (some .char), Cond.methodLink RJ2 67 yJ2_checkIndex_2214a, Cond.static yJ2_checkIndex_2214a, Cond.code yJ2_checkIndex_2214a cJ2_checkIndex_2214a 2 none, Cond.methodLink RJ2 48 yJ2_length_9d52b, Cond.static yJ2_length_9d52b, Cond.code yJ2_length_9d52b cJ2_length_9d52b 1 (some .int), Cond.methodLink RJ2 414 yJ0_checkIndex_df160, Cond.methodLink RJ2 71 yJ2_getChar_3b067, Cond.static yJ2_getChar_3b067, Cond.code yJ2_getChar_3b067 cJ2_getChar_3b067 2 (some .char), Cond.fieldLink RJ2 44 "java/lang/StringUTF16" "$assertionsDisabled" "Z"]
def wsX4_isWord_r3 : List Cond := [Cond.fieldLink RJ2 59 "java/lang/StringUTF16" "HI_BYTE_SHIFT" "I", Cond.fieldLink RJ2 63 "java/lang/StringUTF16" "LO_BYTE_SHIFT" "I"]
def wsX4_isWord : List Cond := .code yX4_isWord cX4_isWord 5 (some .boolean) :: ((wsX4_isWord_r1 ++ (wsX4_isWord_r2 ++ wsX4_isWord_r3)) ++ wsX40)
def wsX4_readWord_r1 : List Cond := [Cond.fieldLink RX4 34 "StoneDates$Reader" "at" "I", Cond.fieldLink RX4 31 "StoneDates$Reader" "length" "I", Cond.fieldLink RX4 15 "StoneDates$Reader" "bytes" "[I", Cond.fieldLink RX4 77 "StoneDates$Reader" "KINDS" "[LStoneDates$Kind;", Cond.fieldLink RX4 81 "StoneDates$Kind" "word" "Ljava/lang/String;", Cond.methodLink RX4 85 yX4_isWord, Cond.instanceMethod yX4_isWord, Cond.selects RX4 yX4_isWord yX4_isWord, Cond.initialized RX4, Cond.code yX4_isWord cX4_isWord 5 (some .boolean), Cond.methodLink RX4 89 yJ0_length_8abf5, Cond.instanceMethod yJ0_length_8abf5, Cond.selects RJ0 yJ0_length_8abf5 yJ0_length_8abf5, Cond.initialized RJ0, Cond.code yJ0_length_8abf5 cJ0_length_8abf5 1 (some .int), Cond.fieldLink RJ0 9 "java/lang/String" "value" "[B", Cond.methodLink RJ0 335 yJ0_coder_7d493, Cond.instanceMethod yJ0_coder_7d493, Cond.selects RJ0 yJ0_coder_7d493 yJ0_coder_7d493, Cond.code yJ0_coder_7d493 cJ0_coder_7d493 1 (some .byte), Cond.fieldLink RJ0 38 "java/lang/String" "COMPACT_STRINGS" "Z", Cond.fieldLink RJ0 15 "java/lang/String" "coder" "B", Cond.methodLink RX4 94 yJ0_charAt_5068e, Cond.instanceMethod yJ0_charAt_5068e]
def wsX4_readWord_r2 : List Cond := [Cond.selects RJ0 yJ0_charAt_5068e yJ0_charAt_5068e, Cond.code yJ0_charAt_5068e cJ0_charAt_5068e 2 (some .char), Cond.methodLink RJ0 492 yJ0_isLatin1_aae02, Cond.instanceMethod yJ0_isLatin1_aae02, Cond.selects RJ0 yJ0_isLatin1_aae02 yJ0_isLatin1_aae02, Cond.code yJ0_isLatin1_aae02 cJ0_isLatin1_aae02 1 (some .boolean), Cond.methodLink RJ0 495 yJ1_charAt_3b067, Cond.static yJ1_charAt_3b067, Cond.initialized RJ1, Cond.code yJ1_charAt_3b067 cJ1_charAt_3b067 2 (some .char), Cond.methodLink RJ1 9 yJ0_checkIndex_df160, Cond.static yJ0_checkIndex_df160, Cond.code yJ0_checkIndex_df160 cJ0_checkIndex_df160 2 none, Cond.fieldLink RJ0 1053 "jdk/internal/util/Preconditions" "SIOOBE_FORMATTER" "Ljava/util/function/BiFunction;", Cond.methodLink RJ0 1059 yJ3_checkIndex_8e157, Cond.static yJ3_checkIndex_8e157, Cond.initialized RJ3, Cond.code yJ3_checkIndex_8e157 cJ3_checkIndex_8e157 3 (some .int), Cond.methodLink RJ0 498 yJ2_charAt_3b067, Cond.static yJ2_charAt_3b067, Cond.initialized RJ2, Cond.code yJ2_charAt_3b067 cJ2_charAt_3b067 2 (some .char), Cond.methodLink RJ2 67 yJ2_checkIndex_2214a, Cond.static yJ2_checkIndex_2214a]
def wsX4_readWord_r3 : List Cond := [Cond.code yJ2_checkIndex_2214a cJ2_checkIndex_2214a 2 none, Cond.methodLink RJ2 48 yJ2_length_9d52b, Cond.static yJ2_length_9d52b, Cond.code yJ2_length_9d52b cJ2_length_9d52b 1 (some .int), Cond.methodLink RJ2 414 yJ0_checkIndex_df160, Cond.methodLink RJ2 71 yJ2_getChar_3b067, Cond.static yJ2_getChar_3b067, Cond.code yJ2_getChar_3b067 cJ2_getChar_3b067 2 (some .char), Cond.fieldLink RJ2 44 "java/lang/StringUTF16" "$assertionsDisabled" "Z", Cond.fieldLink RJ2 59 "java/lang/StringUTF16" "HI_BYTE_SHIFT" "I", Cond.fieldLink RJ2 63 "java/lang/StringUTF16" "LO_BYTE_SHIFT" "I"]
def wsX4_readWord : List Cond := .code yX4_readWord cX4_readWord 6 (some (.object "StoneDates$Kind")) :: ((wsX4_readWord_r1 ++ (wsX4_readWord_r2 ++ wsX4_readWord_r3)) ++ wsX40)
def wsX4_refuse : List Cond := .code yX4_refuse cX4_refuse 2 (some .boolean) :: ([.fieldLink RX4 113 "StoneDates$Reader" "fault" "I"] ++ wsX40)
def wsX4_takes : List Cond := .code yX4_takes cX4_takes 2 (some .boolean) :: ([.fieldLink RX4 34 "StoneDates$Reader" "at" "I", .fieldLink RX4 31 "StoneDates$Reader" "length" "I", .fieldLink RX4 15 "StoneDates$Reader" "bytes" "[I", .methodLink RX4 43 yX4_skipBlanks, .instanceMethod yX4_skipBlanks, .selects RX4 yX4_skipBlanks yX4_skipBlanks, .initialized RX4, .code yX4_skipBlanks cX4_skipBlanks 1 none] ++ wsX40)
def wsX4_demand : List Cond := .code yX4_demand cX4_demand 2 (some .boolean) :: ([.fieldLink RX4 34 "StoneDates$Reader" "at" "I", .methodLink RX4 98 yX4_takes, .instanceMethod yX4_takes, .selects RX4 yX4_takes yX4_takes, .initialized RX4, .code yX4_takes cX4_takes 2 (some .boolean), .fieldLink RX4 31 "StoneDates$Reader" "length" "I", .fieldLink RX4 15 "StoneDates$Reader" "bytes" "[I", .methodLink RX4 43 yX4_skipBlanks, .instanceMethod yX4_skipBlanks, .selects RX4 yX4_skipBlanks yX4_skipBlanks, .code yX4_skipBlanks cX4_skipBlanks 1 none, .methodLink RX4 50 yX4_refuse, .instanceMethod yX4_refuse, .selects RX4 yX4_refuse yX4_refuse, .code yX4_refuse cX4_refuse 2 (some .boolean), .fieldLink RX4 113 "StoneDates$Reader" "fault" "I"] ++ wsX40)
def wsX4_isDigitAt : List Cond := .code yX4_isDigitAt cX4_isDigitAt 2 (some .boolean) :: ([.fieldLink RX4 31 "StoneDates$Reader" "length" "I", .fieldLink RX4 15 "StoneDates$Reader" "bytes" "[I"] ++ wsX40)
def wsX4_readNumber : List Cond := .code yX4_readNumber cX4_readNumber 3 (some .int) :: ([.fieldLink RX4 34 "StoneDates$Reader" "at" "I", .fieldLink RX4 15 "StoneDates$Reader" "bytes" "[I", .methodLink RX4 43 yX4_skipBlanks, .instanceMethod yX4_skipBlanks, .selects RX4 yX4_skipBlanks yX4_skipBlanks, .initialized RX4, .code yX4_skipBlanks cX4_skipBlanks 1 none, .fieldLink RX4 31 "StoneDates$Reader" "length" "I", .methodLink RX4 110 yX4_isDigitAt, .instanceMethod yX4_isDigitAt, .selects RX4 yX4_isDigitAt yX4_isDigitAt, .code yX4_isDigitAt cX4_isDigitAt 2 (some .boolean), .methodLink RX4 50 yX4_refuse, .instanceMethod yX4_refuse, .selects RX4 yX4_refuse yX4_refuse, .code yX4_refuse cX4_refuse 2 (some .boolean), .fieldLink RX4 113 "StoneDates$Reader" "fault" "I"] ++ wsX40)
def wsX4_readRange_r1 : List Cond := [Cond.fieldLink RX4 34 "StoneDates$Reader" "at" "I", Cond.fieldLink RX4 101 "StoneDates$Reader" "heard" "I", Cond.methodLink RX4 107 yX4_readNumber, Cond.instanceMethod yX4_readNumber, Cond.selects RX4 yX4_readNumber yX4_readNumber, Cond.initialized RX4, Cond.code yX4_readNumber cX4_readNumber 3 (some .int), Cond.fieldLink RX4 15 "StoneDates$Reader" "bytes" "[I", Cond.methodLink RX4 43 yX4_skipBlanks, Cond.instanceMethod yX4_skipBlanks, Cond.selects RX4 yX4_skipBlanks yX4_skipBlanks, Cond.code yX4_skipBlanks cX4_skipBlanks 1 none, Cond.fieldLink RX4 31 "StoneDates$Reader" "length" "I", Cond.methodLink RX4 110 yX4_isDigitAt, Cond.instanceMethod yX4_isDigitAt, Cond.selects RX4 yX4_isDigitAt yX4_isDigitAt, Cond.code yX4_isDigitAt cX4_isDigitAt 2 (some .boolean), Cond.methodLink RX4 50 yX4_refuse, Cond.instanceMethod yX4_refuse, Cond.selects RX4 yX4_refuse yX4_refuse, Cond.code yX4_refuse cX4_refuse 2 (some .boolean), Cond.fieldLink RX4 113 "StoneDates$Reader" "fault" "I", Cond.methodLink RX4 98 yX4_takes, Cond.instanceMethod yX4_takes]
def wsX4_readRange_r2 : List Cond := [Cond.selects RX4 yX4_takes yX4_takes, Cond.code yX4_takes cX4_takes 2 (some .boolean)]
def wsX4_readRange : List Cond := .code yX4_readRange cX4_readRange 4 (some .boolean) :: ((wsX4_readRange_r1 ++ wsX4_readRange_r2) ++ wsX40)
def wsX4_readPart_r1 : List Cond := [Cond.fieldLink RX4 101 "StoneDates$Reader" "heard" "I", Cond.methodLink RX4 98 yX4_takes, Cond.instanceMethod yX4_takes, Cond.selects RX4 yX4_takes yX4_takes, Cond.initialized RX4, Cond.code yX4_takes cX4_takes 2 (some .boolean), Cond.fieldLink RX4 34 "StoneDates$Reader" "at" "I", Cond.fieldLink RX4 31 "StoneDates$Reader" "length" "I", Cond.fieldLink RX4 15 "StoneDates$Reader" "bytes" "[I", Cond.methodLink RX4 43 yX4_skipBlanks, Cond.instanceMethod yX4_skipBlanks, Cond.selects RX4 yX4_skipBlanks yX4_skipBlanks, Cond.code yX4_skipBlanks cX4_skipBlanks 1 none, Cond.methodLink RX4 104 yX4_readRange, Cond.instanceMethod yX4_readRange, Cond.selects RX4 yX4_readRange yX4_readRange, Cond.code yX4_readRange cX4_readRange 4 (some .boolean), Cond.methodLink RX4 107 yX4_readNumber, Cond.instanceMethod yX4_readNumber, Cond.selects RX4 yX4_readNumber yX4_readNumber, Cond.code yX4_readNumber cX4_readNumber 3 (some .int), Cond.methodLink RX4 110 yX4_isDigitAt, Cond.instanceMethod yX4_isDigitAt, Cond.selects RX4 yX4_isDigitAt yX4_isDigitAt]
def wsX4_readPart_r2 : List Cond := [Cond.code yX4_isDigitAt cX4_isDigitAt 2 (some .boolean), Cond.methodLink RX4 50 yX4_refuse, Cond.instanceMethod yX4_refuse, Cond.selects RX4 yX4_refuse yX4_refuse, Cond.code yX4_refuse cX4_refuse 2 (some .boolean), Cond.fieldLink RX4 113 "StoneDates$Reader" "fault" "I"]
def wsX4_readPart : List Cond := .code yX4_readPart cX4_readPart 2 (some .boolean) :: ((wsX4_readPart_r1 ++ wsX4_readPart_r2) ++ wsX40)
def wsX4_narrow : List Cond := .code yX4_narrow cX4_narrow 2 none :: ([.fieldLink RX4 9 "StoneDates$Reader" "sets" "[I", .fieldLink RX4 101 "StoneDates$Reader" "heard" "I"] ++ wsX40)
def wsX4_readClause_r1 : List Cond := [Cond.fieldLink RX4 34 "StoneDates$Reader" "at" "I", Cond.fieldLink RX4 58 "StoneDates$Kind" "width" "I", Cond.fieldLink RX4 70 "StoneDates$Kind" "first" "I", Cond.methodLink RX4 54 yX4_readWord, Cond.instanceMethod yX4_readWord, Cond.selects RX4 yX4_readWord yX4_readWord, Cond.initialized RX4, Cond.code yX4_readWord cX4_readWord 6 (some (.object "StoneDates$Kind")), Cond.fieldLink RX4 31 "StoneDates$Reader" "length" "I", Cond.fieldLink RX4 15 "StoneDates$Reader" "bytes" "[I", Cond.fieldLink RX4 77 "StoneDates$Reader" "KINDS" "[LStoneDates$Kind;", Cond.fieldLink RX4 81 "StoneDates$Kind" "word" "Ljava/lang/String;", Cond.methodLink RX4 85 yX4_isWord, Cond.instanceMethod yX4_isWord, Cond.selects RX4 yX4_isWord yX4_isWord, Cond.code yX4_isWord cX4_isWord 5 (some .boolean), Cond.methodLink RX4 89 yJ0_length_8abf5, Cond.instanceMethod yJ0_length_8abf5, Cond.selects RJ0 yJ0_length_8abf5 yJ0_length_8abf5, Cond.initialized RJ0, Cond.code yJ0_length_8abf5 cJ0_length_8abf5 1 (some .int), Cond.fieldLink RJ0 9 "java/lang/String" "value" "[B", Cond.methodLink RJ0 335 yJ0_coder_7d493, Cond.instanceMethod yJ0_coder_7d493]
def wsX4_readClause_r2 : List Cond := [Cond.selects RJ0 yJ0_coder_7d493 yJ0_coder_7d493, Cond.code yJ0_coder_7d493 cJ0_coder_7d493 1 (some .byte), Cond.fieldLink RJ0 38 "java/lang/String" "COMPACT_STRINGS" "Z", Cond.fieldLink RJ0 15 "java/lang/String" "coder" "B", Cond.methodLink RX4 94 yJ0_charAt_5068e, Cond.instanceMethod yJ0_charAt_5068e, Cond.selects RJ0 yJ0_charAt_5068e yJ0_charAt_5068e, Cond.code yJ0_charAt_5068e cJ0_charAt_5068e 2 (some .char), Cond.methodLink RJ0 492 yJ0_isLatin1_aae02, Cond.instanceMethod yJ0_isLatin1_aae02, Cond.selects RJ0 yJ0_isLatin1_aae02 yJ0_isLatin1_aae02, Cond.code yJ0_isLatin1_aae02 cJ0_isLatin1_aae02 1 (some .boolean), Cond.methodLink RJ0 495 yJ1_charAt_3b067, Cond.static yJ1_charAt_3b067, Cond.initialized RJ1, Cond.code yJ1_charAt_3b067 cJ1_charAt_3b067 2 (some .char), Cond.methodLink RJ1 9 yJ0_checkIndex_df160, Cond.static yJ0_checkIndex_df160, Cond.code yJ0_checkIndex_df160 cJ0_checkIndex_df160 2 none, Cond.fieldLink RJ0 1053 "jdk/internal/util/Preconditions" "SIOOBE_FORMATTER" "Ljava/util/function/BiFunction;", Cond.methodLink RJ0 1059 yJ3_checkIndex_8e157, Cond.static yJ3_checkIndex_8e157, Cond.initialized RJ3, Cond.code yJ3_checkIndex_8e157 cJ3_checkIndex_8e157 3 (some .int)]
def wsX4_readClause_r3 : List Cond := [Cond.methodLink RJ0 498 yJ2_charAt_3b067, Cond.static yJ2_charAt_3b067, Cond.initialized RJ2, Cond.code yJ2_charAt_3b067 cJ2_charAt_3b067 2 (some .char), Cond.methodLink RJ2 67 yJ2_checkIndex_2214a, Cond.static yJ2_checkIndex_2214a, Cond.code yJ2_checkIndex_2214a cJ2_checkIndex_2214a 2 none, Cond.methodLink RJ2 48 yJ2_length_9d52b, Cond.static yJ2_length_9d52b, Cond.code yJ2_length_9d52b cJ2_length_9d52b 1 (some .int), Cond.methodLink RJ2 414 yJ0_checkIndex_df160, Cond.methodLink RJ2 71 yJ2_getChar_3b067, Cond.static yJ2_getChar_3b067, Cond.code yJ2_getChar_3b067 cJ2_getChar_3b067 2 (some .char), Cond.fieldLink RJ2 44 "java/lang/StringUTF16" "$assertionsDisabled" "Z", Cond.fieldLink RJ2 59 "java/lang/StringUTF16" "HI_BYTE_SHIFT" "I", Cond.fieldLink RJ2 63 "java/lang/StringUTF16" "LO_BYTE_SHIFT" "I", Cond.methodLink RX4 50 yX4_refuse, Cond.instanceMethod yX4_refuse, Cond.selects RX4 yX4_refuse yX4_refuse, Cond.code yX4_refuse cX4_refuse 2 (some .boolean), Cond.fieldLink RX4 113 "StoneDates$Reader" "fault" "I", Cond.methodLink RX4 63 yX4_demand, Cond.instanceMethod yX4_demand]
def wsX4_readClause_r4 : List Cond := [Cond.selects RX4 yX4_demand yX4_demand, Cond.code yX4_demand cX4_demand 2 (some .boolean), Cond.methodLink RX4 98 yX4_takes, Cond.instanceMethod yX4_takes, Cond.selects RX4 yX4_takes yX4_takes, Cond.code yX4_takes cX4_takes 2 (some .boolean), Cond.methodLink RX4 43 yX4_skipBlanks, Cond.instanceMethod yX4_skipBlanks, Cond.selects RX4 yX4_skipBlanks yX4_skipBlanks, Cond.code yX4_skipBlanks cX4_skipBlanks 1 none, Cond.methodLink RX4 67 yX4_readPart, Cond.instanceMethod yX4_readPart, Cond.selects RX4 yX4_readPart yX4_readPart, Cond.code yX4_readPart cX4_readPart 2 (some .boolean), Cond.fieldLink RX4 101 "StoneDates$Reader" "heard" "I", Cond.methodLink RX4 104 yX4_readRange, Cond.instanceMethod yX4_readRange, Cond.selects RX4 yX4_readRange yX4_readRange, Cond.code yX4_readRange cX4_readRange 4 (some .boolean), Cond.methodLink RX4 107 yX4_readNumber, Cond.instanceMethod yX4_readNumber, Cond.selects RX4 yX4_readNumber yX4_readNumber, Cond.code yX4_readNumber cX4_readNumber 3 (some .int), Cond.methodLink RX4 110 yX4_isDigitAt]
def wsX4_readClause_r5 : List Cond := [Cond.instanceMethod yX4_isDigitAt, Cond.selects RX4 yX4_isDigitAt yX4_isDigitAt, Cond.code yX4_isDigitAt cX4_isDigitAt 2 (some .boolean), Cond.methodLink RX4 73 yX4_narrow, Cond.instanceMethod yX4_narrow, Cond.selects RX4 yX4_narrow yX4_narrow, Cond.code yX4_narrow cX4_narrow 2 none, Cond.fieldLink RX4 9 "StoneDates$Reader" "sets" "[I"]
def wsX4_readClause : List Cond := .code yX4_readClause cX4_readClause 4 (some .boolean) :: ((wsX4_readClause_r1 ++ (wsX4_readClause_r2 ++ (wsX4_readClause_r3 ++ (wsX4_readClause_r4 ++ wsX4_readClause_r5)))) ++ wsX40)
def wsX4_read_r1 : List Cond := [Cond.methodLink RX4 22 Lib.Math.min.name, Cond.static Lib.Math.min.name, Cond.initialized "java/lang/Math", Cond.code Lib.Math.min.name Lib.Math.min.code 2 (some .int), Cond.methodLink RX4 28 Lib.Math.max.name, Cond.static Lib.Math.max.name, Cond.code Lib.Math.max.name Lib.Math.max.code 2 (some .int), Cond.fieldLink RX4 31 "StoneDates$Reader" "length" "I", Cond.fieldLink RX4 34 "StoneDates$Reader" "at" "I", Cond.fieldLink RX4 9 "StoneDates$Reader" "sets" "[I", Cond.methodLink RX4 37 yJ7_fill_53178, Cond.static yJ7_fill_53178, Cond.initialized RJ7, Cond.code yJ7_fill_53178 cJ7_fill_53178 4 none, Cond.methodLink RX4 43 yX4_skipBlanks, Cond.instanceMethod yX4_skipBlanks, Cond.selects RX4 yX4_skipBlanks yX4_skipBlanks, Cond.initialized RX4, Cond.code yX4_skipBlanks cX4_skipBlanks 1 none, Cond.fieldLink RX4 15 "StoneDates$Reader" "bytes" "[I", Cond.methodLink RX4 46 yX4_readClause, Cond.instanceMethod yX4_readClause, Cond.selects RX4 yX4_readClause yX4_readClause, Cond.code yX4_readClause cX4_readClause 4 (some .boolean)]
def wsX4_read_r2 : List Cond := [Cond.fieldLink RX4 58 "StoneDates$Kind" "width" "I", Cond.fieldLink RX4 70 "StoneDates$Kind" "first" "I", Cond.methodLink RX4 54 yX4_readWord, Cond.instanceMethod yX4_readWord, Cond.selects RX4 yX4_readWord yX4_readWord, Cond.code yX4_readWord cX4_readWord 6 (some (.object "StoneDates$Kind")), Cond.fieldLink RX4 77 "StoneDates$Reader" "KINDS" "[LStoneDates$Kind;", Cond.fieldLink RX4 81 "StoneDates$Kind" "word" "Ljava/lang/String;", Cond.methodLink RX4 85 yX4_isWord, Cond.instanceMethod yX4_isWord, Cond.selects RX4 yX4_isWord yX4_isWord, Cond.code yX4_isWord cX4_isWord 5 (some .boolean), Cond.methodLink RX4 89 yJ0_length_8abf5, Cond.instanceMethod yJ0_length_8abf5, Cond.selects RJ0 yJ0_length_8abf5 yJ0_length_8abf5, Cond.initialized RJ0, Cond.code yJ0_length_8abf5 cJ0_length_8abf5 1 (some .int), Cond.fieldLink RJ0 9 "java/lang/String" "value" "[B", Cond.methodLink RJ0 335 yJ0_coder_7d493, Cond.instanceMethod yJ0_coder_7d493, Cond.selects RJ0 yJ0_coder_7d493 yJ0_coder_7d493, Cond.code yJ0_coder_7d493 cJ0_coder_7d493 1 (some .byte), Cond.fieldLink RJ0 38 "java/lang/String" "COMPACT_STRINGS" "Z", Cond.fieldLink RJ0 15 "java/lang/String" "coder" "B"]
def wsX4_read_r3 : List Cond := [Cond.methodLink RX4 94 yJ0_charAt_5068e, Cond.instanceMethod yJ0_charAt_5068e, Cond.selects RJ0 yJ0_charAt_5068e yJ0_charAt_5068e, Cond.code yJ0_charAt_5068e cJ0_charAt_5068e 2 (some .char), Cond.methodLink RJ0 492 yJ0_isLatin1_aae02, Cond.instanceMethod yJ0_isLatin1_aae02, Cond.selects RJ0 yJ0_isLatin1_aae02 yJ0_isLatin1_aae02, Cond.code yJ0_isLatin1_aae02 cJ0_isLatin1_aae02 1 (some .boolean), Cond.methodLink RJ0 495 yJ1_charAt_3b067, Cond.static yJ1_charAt_3b067, Cond.initialized RJ1, Cond.code yJ1_charAt_3b067 cJ1_charAt_3b067 2 (some .char), Cond.methodLink RJ1 9 yJ0_checkIndex_df160, Cond.static yJ0_checkIndex_df160, Cond.code yJ0_checkIndex_df160 cJ0_checkIndex_df160 2 none, Cond.fieldLink RJ0 1053 "jdk/internal/util/Preconditions" "SIOOBE_FORMATTER" "Ljava/util/function/BiFunction;", Cond.methodLink RJ0 1059 yJ3_checkIndex_8e157, Cond.static yJ3_checkIndex_8e157, Cond.initialized RJ3, Cond.code yJ3_checkIndex_8e157 cJ3_checkIndex_8e157 3 (some .int), Cond.methodLink RJ0 498 yJ2_charAt_3b067, Cond.static yJ2_charAt_3b067, Cond.initialized RJ2, Cond.code yJ2_charAt_3b067 cJ2_charAt_3b067 2 (some .char)]
def wsX4_read_r4 : List Cond := [Cond.methodLink RJ2 67 yJ2_checkIndex_2214a, Cond.static yJ2_checkIndex_2214a, Cond.code yJ2_checkIndex_2214a cJ2_checkIndex_2214a 2 none, Cond.methodLink RJ2 48 yJ2_length_9d52b, Cond.static yJ2_length_9d52b, Cond.code yJ2_length_9d52b cJ2_length_9d52b 1 (some .int), Cond.methodLink RJ2 414 yJ0_checkIndex_df160, Cond.methodLink RJ2 71 yJ2_getChar_3b067, Cond.static yJ2_getChar_3b067, Cond.code yJ2_getChar_3b067 cJ2_getChar_3b067 2 (some .char), Cond.fieldLink RJ2 44 "java/lang/StringUTF16" "$assertionsDisabled" "Z", Cond.fieldLink RJ2 59 "java/lang/StringUTF16" "HI_BYTE_SHIFT" "I", Cond.fieldLink RJ2 63 "java/lang/StringUTF16" "LO_BYTE_SHIFT" "I", Cond.methodLink RX4 50 yX4_refuse, Cond.instanceMethod yX4_refuse, Cond.selects RX4 yX4_refuse yX4_refuse, Cond.code yX4_refuse cX4_refuse 2 (some .boolean), Cond.fieldLink RX4 113 "StoneDates$Reader" "fault" "I", Cond.methodLink RX4 63 yX4_demand, Cond.instanceMethod yX4_demand, Cond.selects RX4 yX4_demand yX4_demand, Cond.code yX4_demand cX4_demand 2 (some .boolean), Cond.methodLink RX4 98 yX4_takes, Cond.instanceMethod yX4_takes]
def wsX4_read_r5 : List Cond := [Cond.selects RX4 yX4_takes yX4_takes, Cond.code yX4_takes cX4_takes 2 (some .boolean), Cond.methodLink RX4 67 yX4_readPart, Cond.instanceMethod yX4_readPart, Cond.selects RX4 yX4_readPart yX4_readPart, Cond.code yX4_readPart cX4_readPart 2 (some .boolean), Cond.fieldLink RX4 101 "StoneDates$Reader" "heard" "I", Cond.methodLink RX4 104 yX4_readRange, Cond.instanceMethod yX4_readRange, Cond.selects RX4 yX4_readRange yX4_readRange, Cond.code yX4_readRange cX4_readRange 4 (some .boolean), Cond.methodLink RX4 107 yX4_readNumber, Cond.instanceMethod yX4_readNumber, Cond.selects RX4 yX4_readNumber yX4_readNumber, Cond.code yX4_readNumber cX4_readNumber 3 (some .int), Cond.methodLink RX4 110 yX4_isDigitAt, Cond.instanceMethod yX4_isDigitAt, Cond.selects RX4 yX4_isDigitAt yX4_isDigitAt, Cond.code yX4_isDigitAt cX4_isDigitAt 2 (some .boolean), Cond.methodLink RX4 73 yX4_narrow, Cond.instanceMethod yX4_narrow, Cond.selects RX4 yX4_narrow yX4_narrow, Cond.code yX4_narrow cX4_narrow 2 none]
def wsX4_read : List Cond := .code yX4_read cX4_read 3 (some .boolean) :: ((wsX4_read_r1 ++ (wsX4_read_r2 ++ (wsX4_read_r3 ++ (wsX4_read_r4 ++ wsX4_read_r5)))) ++ wsX40)
def wsX5_init : List Cond := .code yX5_init cX5_init 1 none :: ([.methodLink RX5 3 objectInit, .instanceMethod objectInit, .code objectInit ⟨#[0xb1]⟩ 1 none, .arrayClass .int, .fieldLink RX5 9 "StoneDates$Sky" "eclipses" "[I", .arrayClass .boolean, .fieldLink RX5 15 "StoneDates$Sky" "isNaming" "[Z", .fieldLink RX5 19 "StoneDates$Sky" "dayOf" "[I", .fieldLink RX5 22 "StoneDates$Sky" "turns" "[I", .fieldLink RX5 25 "StoneDates$Sky" "dates" "[I", .fieldLink RX5 28 "StoneDates$Sky" "next" "[I", .fieldLink RX5 31 "StoneDates$Sky" "solvedNear" "I"] ++ wsX50)
def wsX5_add : List Cond := .code yX5_add cX5_add 4 (some .int) :: ([.fieldLink RX5 35 "StoneDates$Sky" "size" "I", .fieldLink RX5 9 "StoneDates$Sky" "eclipses" "[I", .methodLink RX5 38 arraycopyName, .native arraycopyName, .static arraycopyName, .initialized "java/lang/System", .fieldLink RX5 31 "StoneDates$Sky" "solvedNear" "I"] ++ wsX50)
def wsX5_tell : List Cond := .code yX5_tell cX5_tell 5 (some .boolean) :: ([.fieldLink RX5 15 "StoneDates$Sky" "isNaming" "[Z", .fieldLink RX5 19 "StoneDates$Sky" "dayOf" "[I", .fieldLink RX5 44 "StoneDates$Sky" "naming" "I", .fieldLink RX5 31 "StoneDates$Sky" "solvedNear" "I"] ++ wsX50)
def wsX5_placeTurns : List Cond := .code yX5_placeTurns cX5_placeTurns 5 none :: ([.fieldLink RX5 35 "StoneDates$Sky" "size" "I", .fieldLink RX5 9 "StoneDates$Sky" "eclipses" "[I", .methodLink RX5 78 Lib.Math.max.name, .static Lib.Math.max.name, .initialized "java/lang/Math", .code Lib.Math.max.name Lib.Math.max.code 2 (some .int), .methodLink RX5 84 Lib.Math.min.name, .static Lib.Math.min.name, .code Lib.Math.min.name Lib.Math.min.code 2 (some .int), .fieldLink RX5 22 "StoneDates$Sky" "turns" "[I"] ++ wsX50)
def wsX5_gatherDates : List Cond := .code yX5_gatherDates cX5_gatherDates 3 (some .int) :: ([.fieldLink RX5 15 "StoneDates$Sky" "isNaming" "[Z", .fieldLink RX5 25 "StoneDates$Sky" "dates" "[I", .fieldLink RX5 19 "StoneDates$Sky" "dayOf" "[I", .fieldLink RX5 28 "StoneDates$Sky" "next" "[I"] ++ wsX50)
def wsX5_firstToTurn : List Cond := .code yX5_firstToTurn cX5_firstToTurn 6 (some .int) :: ([.fieldLink RX5 28 "StoneDates$Sky" "next" "[I", .fieldLink RX5 35 "StoneDates$Sky" "size" "I", .fieldLink RX5 22 "StoneDates$Sky" "turns" "[I", .fieldLink RX5 25 "StoneDates$Sky" "dates" "[I"] ++ wsX50)
def wsX5_consider : List Cond := .code yX5_consider cX5_consider 4 none :: ([.fieldLink RX5 61 "StoneDates$Sky" "height" "J", .fieldLink RX5 58 "StoneDates$Sky" "slope" "I", .fieldLink RX5 55 "StoneDates$Sky" "agreeing" "I", .fieldLink RX5 65 "StoneDates$Sky" "bestAgreeing" "I", .fieldLink RX5 89 "StoneDates$Sky" "bestSum" "J", .fieldLink RX5 92 "StoneDates$Sky" "bestStart" "I"] ++ wsX50)
def wsX5_turn : List Cond := .code yX5_turn cX5_turn 4 none :: ([.fieldLink RX5 28 "StoneDates$Sky" "next" "[I", .fieldLink RX5 22 "StoneDates$Sky" "turns" "[I", .fieldLink RX5 25 "StoneDates$Sky" "dates" "[I", .fieldLink RX5 61 "StoneDates$Sky" "height" "J", .constantLong RX5 87 (2), .fieldLink RX5 58 "StoneDates$Sky" "slope" "I", .fieldLink RX5 55 "StoneDates$Sky" "agreeing" "I"] ++ wsX50)
def wsX5_solve_r1 : List Cond := [Cond.fieldLink RX5 31 "StoneDates$Sky" "solvedNear" "I", Cond.fieldLink RX5 55 "StoneDates$Sky" "agreeing" "I", Cond.fieldLink RX5 58 "StoneDates$Sky" "slope" "I", Cond.fieldLink RX5 61 "StoneDates$Sky" "height" "J", Cond.fieldLink RX5 65 "StoneDates$Sky" "bestAgreeing" "I", Cond.fieldLink RX5 35 "StoneDates$Sky" "size" "I", Cond.fieldLink RX5 22 "StoneDates$Sky" "turns" "[I", Cond.fieldLink RX5 28 "StoneDates$Sky" "next" "[I", Cond.fieldLink RX5 25 "StoneDates$Sky" "dates" "[I", Cond.methodLink RX5 47 yX5_placeTurns, Cond.instanceMethod yX5_placeTurns, Cond.selects RX5 yX5_placeTurns yX5_placeTurns, Cond.initialized RX5, Cond.code yX5_placeTurns cX5_placeTurns 5 none, Cond.fieldLink RX5 9 "StoneDates$Sky" "eclipses" "[I", Cond.methodLink RX5 78 Lib.Math.max.name, Cond.static Lib.Math.max.name, Cond.initialized "java/lang/Math", Cond.code Lib.Math.max.name Lib.Math.max.code 2 (some .int), Cond.methodLink RX5 84 Lib.Math.min.name, Cond.static Lib.Math.min.name, Cond.code Lib.Math.min.name Lib.Math.min.code 2 (some .int), Cond.methodLink RX5 51 yX5_gatherDates, Cond.instanceMethod yX5_gatherDates]
def wsX5_solve_r2 : List Cond := [Cond.selects RX5 yX5_gatherDates yX5_gatherDates, Cond.code yX5_gatherDates cX5_gatherDates 3 (some .int), Cond.fieldLink RX5 15 "StoneDates$Sky" "isNaming" "[Z", Cond.fieldLink RX5 19 "StoneDates$Sky" "dayOf" "[I", Cond.methodLink RX5 68 yX5_firstToTurn, Cond.instanceMethod yX5_firstToTurn, Cond.selects RX5 yX5_firstToTurn yX5_firstToTurn, Cond.code yX5_firstToTurn cX5_firstToTurn 6 (some .int), Cond.methodLink RX5 72 yX5_consider, Cond.instanceMethod yX5_consider, Cond.selects RX5 yX5_consider yX5_consider, Cond.code yX5_consider cX5_consider 4 none, Cond.fieldLink RX5 89 "StoneDates$Sky" "bestSum" "J", Cond.fieldLink RX5 92 "StoneDates$Sky" "bestStart" "I", Cond.methodLink RX5 75 yX5_turn, Cond.instanceMethod yX5_turn, Cond.selects RX5 yX5_turn yX5_turn, Cond.code yX5_turn cX5_turn 4 none, Cond.constantLong RX5 87 (2)]
def wsX5_solve : List Cond := .code yX5_solve cX5_solve 8 none :: ((wsX5_solve_r1 ++ wsX5_solve_r2) ++ wsX50)
def wsX6_init : List Cond := .code yX6_init cX6_init 5 none :: ([.methodLink RX6 1 objectInit, .instanceMethod objectInit, .code objectInit ⟨#[0xb1]⟩ 1 none, .fieldLink RX6 7 "StoneDates$Stone" "base" "I", .fieldLink RX6 13 "StoneDates$Stone" "sets" "[I", .fieldLink RX6 17 "StoneDates$Stone" "days" "[I", .fieldLink RX6 20 "StoneDates$Stone" "many" "I"] ++ wsX60)
def wsX6_allows : List Cond := .code yX6_allows cX6_allows 3 (some .boolean) :: ([.fieldLink RX6 13 "StoneDates$Stone" "sets" "[I", .fieldLink RX6 7 "StoneDates$Stone" "base" "I", .methodLink RX6 23 yX0_signOf, .static yX0_signOf, .initialized RX0, .code yX0_signOf cX0_signOf 3 (some .int), .constant RX0 13 (144000), .methodLink RX6 29 yX0_holds, .static yX0_holds, .code yX0_holds cX0_holds 2 (some .boolean)] ++ wsX60)
def wsX8_init_r1 : List Cond := [Cond.methodLink RX8 1 objectInit, Cond.instanceMethod objectInit, Cond.code objectInit ⟨#[0xb1]⟩ 1 none, Cond.arrayClass .int, Cond.fieldLink RX8 9 "StoneDates" "bases" "[I", Cond.classLink RX8 13 RX6, Cond.fieldLink RX8 15 "StoneDates" "stones" "[LStoneDates$Stone;", Cond.classLink RX8 19 RX4, Cond.instantiable RX4 7, Cond.initialized RX4, Cond.fieldLink RX8 22 "StoneDates" "reader" "LStoneDates$Reader;", Cond.classLink RX8 26 RX1, Cond.instantiable RX1 7, Cond.initialized RX1, Cond.fieldLink RX8 29 "StoneDates" "finder" "LStoneDates$Finder;", Cond.classLink RX8 33 RX3, Cond.instantiable RX3 13, Cond.initialized RX3, Cond.fieldLink RX8 36 "StoneDates" "net" "LStoneDates$Net;", Cond.classLink RX8 40 RX5, Cond.instantiable RX5 15, Cond.initialized RX5, Cond.fieldLink RX8 43 "StoneDates" "sky" "LStoneDates$Sky;", Cond.fieldLink RX8 47 "StoneDates" "townCount" "I"]
def wsX8_init_r2 : List Cond := [Cond.fieldLink RX8 51 "StoneDates" "stoneCount" "I", Cond.instanceMethod yX4_init, Cond.code yX4_init cX4_init 1 none, Cond.methodLink RX4 3 objectInit, Cond.fieldLink RX4 9 "StoneDates$Reader" "sets" "[I", Cond.fieldLink RX4 15 "StoneDates$Reader" "bytes" "[I", Cond.instanceMethod yX1_init, Cond.code yX1_init cX1_init 1 none, Cond.methodLink RX1 3 objectInit, Cond.fieldLink RX1 9 "StoneDates$Finder" "days" "[I", Cond.classLink RX1 15 RX7, Cond.instantiable RX7 3, Cond.initialized RX7, Cond.fieldLink RX1 20 "StoneDates$Finder" "inner" "LStoneDates$Wheel;", Cond.fieldLink RX1 24 "StoneDates$Finder" "thirteen" "LStoneDates$Wheel;", Cond.fieldLink RX1 27 "StoneDates$Finder" "year" "LStoneDates$Wheel;", Cond.fieldLink RX1 30 "StoneDates$Finder" "lunar" "LStoneDates$Wheel;", Cond.methodLink RX1 17 yX7_init, Cond.instanceMethod yX7_init, Cond.code yX7_init cX7_init 2 none, Cond.methodLink RX7 3 objectInit, Cond.methodLink RX7 9 Lib.Math.max.name, Cond.static Lib.Math.max.name, Cond.initialized "java/lang/Math"]
def wsX8_init_r3 : List Cond := [Cond.code Lib.Math.max.name Lib.Math.max.code 2 (some .int), Cond.fieldLink RX7 15 "StoneDates$Wheel" "period" "I", Cond.arrayClass .long, Cond.fieldLink RX7 19 "StoneDates$Wheel" "bits" "[J", Cond.methodLink RX8 35 yX3_init, Cond.instanceMethod yX3_init, Cond.code yX3_init cX3_init 2 none, Cond.methodLink RX3 3 objectInit, Cond.classLink RX3 9 RX6, Cond.fieldLink RX3 11 "StoneDates$Net" "members" "[LStoneDates$Stone;", Cond.fieldLink RX3 17 "StoneDates$Net" "from" "[I", Cond.fieldLink RX3 21 "StoneDates$Net" "to" "[I", Cond.fieldLink RX3 24 "StoneDates$Net" "days" "[I", Cond.classLink RX3 27 "[[I", Cond.fieldLink RX3 29 "StoneDates$Net" "group" "[[I", Cond.fieldLink RX3 32 "StoneDates$Net" "offset" "[[I", Cond.fieldLink RX3 35 "StoneDates$Net" "joined" "[[I", Cond.fieldLink RX3 38 "StoneDates$Net" "joinedSize" "[I", Cond.instanceMethod yX5_init, Cond.code yX5_init cX5_init 1 none, Cond.methodLink RX5 3 objectInit, Cond.fieldLink RX5 9 "StoneDates$Sky" "eclipses" "[I", Cond.arrayClass .boolean, Cond.fieldLink RX5 15 "StoneDates$Sky" "isNaming" "[Z"]
def wsX8_init_r4 : List Cond := [Cond.fieldLink RX5 19 "StoneDates$Sky" "dayOf" "[I", Cond.fieldLink RX5 22 "StoneDates$Sky" "turns" "[I", Cond.fieldLink RX5 25 "StoneDates$Sky" "dates" "[I", Cond.fieldLink RX5 28 "StoneDates$Sky" "next" "[I", Cond.fieldLink RX5 31 "StoneDates$Sky" "solvedNear" "I"]
def wsX8_init : List Cond := .code yX8_init cX8_init 1 none :: ((wsX8_init_r1 ++ (wsX8_init_r2 ++ (wsX8_init_r3 ++ wsX8_init_r4))) ++ wsX80 ++ wsX40 ++ wsX10 ++ wsX30 ++ wsX50 ++ wsX70)
def wsX8_town : List Cond := .code yX8_town cX8_town 2 (some .int) :: ([.classLink RX8 54 "java/lang/IllegalArgumentException", .initialized "java/lang/IllegalArgumentException", .classLink RX8 61 "java/lang/IllegalStateException", .initialized "java/lang/IllegalStateException", .fieldLink RX8 47 "StoneDates" "townCount" "I", .fieldLink RX8 9 "StoneDates" "bases" "[I"] ++ wsX80 ++ (vx_atS RX8 58 "java/lang/IllegalArgumentException" ["java/lang/RuntimeException", "java/lang/Exception"]).filter goodWord ++ (vx_atS RX8 65 "java/lang/IllegalStateException" ["java/lang/RuntimeException", "java/lang/Exception"]).filter goodWord)
def wsX8_checkDay : List Cond := .code yX8_checkDay cX8_checkDay 2 none :: ([.classLink RX8 54 "java/lang/IllegalArgumentException", .initialized "java/lang/IllegalArgumentException", .methodLink RX8 199 yX0_has, .static yX0_has, .initialized RX0, .code yX0_has cX0_has 1 (some .boolean), .constant RX0 11 (1152000), .constant RX0 12 (1583999)] ++ (vx_atS RX8 58 "java/lang/IllegalArgumentException" ["java/lang/RuntimeException", "java/lang/Exception"]).filter goodWord)
def wsX8_of : List Cond := .code yX8_of cX8_of 3 (some .int) :: ([.classLink RX8 54 "java/lang/IllegalArgumentException", .initialized "java/lang/IllegalArgumentException", .methodLink RX8 66 yX8_checkDay, .instanceMethod yX8_checkDay, .selects RX8 yX8_checkDay yX8_checkDay, .initialized RX8, .code yX8_checkDay cX8_checkDay 2 none, .methodLink RX8 199 yX0_has, .static yX0_has, .initialized RX0, .code yX0_has cX0_has 1 (some .boolean), .constant RX0 11 (1152000), .constant RX0 12 (1583999), .methodLink RX8 72 yX0_signOf, .static yX0_signOf, .code yX0_signOf cX0_signOf 3 (some .int), .constant RX0 13 (144000)] ++ (vx_atS RX8 58 "java/lang/IllegalArgumentException" ["java/lang/RuntimeException", "java/lang/Exception"]).filter goodWord)
def wsX8_checkTown : List Cond := .code yX8_checkTown cX8_checkTown 2 none :: ([.classLink RX8 204 "java/lang/IndexOutOfBoundsException", .initialized "java/lang/IndexOutOfBoundsException", .fieldLink RX8 47 "StoneDates" "townCount" "I"] ++ wsX80 ++ (vx_atS RX8 208 "java/lang/IndexOutOfBoundsException" ["java/lang/RuntimeException", "java/lang/Exception"]).filter goodWord)
def wsX8_moon_r1 : List Cond := [Cond.fieldLink RX8 9 "StoneDates" "bases" "[I", Cond.methodLink RX8 66 yX8_checkDay, Cond.instanceMethod yX8_checkDay, Cond.selects RX8 yX8_checkDay yX8_checkDay, Cond.initialized RX8, Cond.code yX8_checkDay cX8_checkDay 2 none, Cond.classLink RX8 54 "java/lang/IllegalArgumentException", Cond.initialized "java/lang/IllegalArgumentException", Cond.methodLink RX8 199 yX0_has, Cond.static yX0_has, Cond.initialized RX0, Cond.code yX0_has cX0_has 1 (some .boolean), Cond.constant RX0 11 (1152000), Cond.constant RX0 12 (1583999), Cond.methodLink RX8 78 yX8_checkTown, Cond.instanceMethod yX8_checkTown, Cond.selects RX8 yX8_checkTown yX8_checkTown, Cond.code yX8_checkTown cX8_checkTown 2 none, Cond.classLink RX8 204 "java/lang/IndexOutOfBoundsException", Cond.initialized "java/lang/IndexOutOfBoundsException", Cond.fieldLink RX8 47 "StoneDates" "townCount" "I", Cond.methodLink RX8 72 yX0_signOf, Cond.static yX0_signOf, Cond.code yX0_signOf cX0_signOf 3 (some .int)]
def wsX8_moon_r2 : List Cond := [Cond.constant RX0 13 (144000)]
def wsX8_moon : List Cond := .code yX8_moon cX8_moon 3 (some .int) :: ((wsX8_moon_r1 ++ wsX8_moon_r2) ++ wsX80 ++ (vx_atS RX8 58 "java/lang/IllegalArgumentException" ["java/lang/RuntimeException", "java/lang/Exception"]).filter goodWord ++ (vx_atS RX8 208 "java/lang/IndexOutOfBoundsException" ["java/lang/RuntimeException", "java/lang/Exception"]).filter goodWord)
def wsX8_feed : List Cond := .code yX8_feed cX8_feed 6 (some .int) :: ([.fieldLink RX8 22 "StoneDates" "reader" "LStoneDates$Reader;", .fieldLink RX8 88 "StoneDates$Reader" "size" "I", .methodLink RX8 81 yX4_hasRoom, .instanceMethod yX4_hasRoom, .selects RX4 yX4_hasRoom yX4_hasRoom, .initialized RX4, .code yX4_hasRoom cX4_hasRoom 1 (some .boolean), .fieldLink RX4 18 "StoneDates$Reader" "size" "I", .methodLink RX8 85 yX4_put, .instanceMethod yX4_put, .selects RX4 yX4_put yX4_put, .code yX4_put cX4_put 3 none, .fieldLink RX4 15 "StoneDates$Reader" "bytes" "[I"] ++ wsX80 ++ wsX40)
def wsJ7_copyOf_59c91 : List Cond := .code yJ7_copyOf_59c91 cJ7_copyOf_59c91 3 (some (.array .int)) :: ([.methodLink RJ7 316 ⟨"[I", "clone", "()Ljava/lang/Object;"⟩, .sameMethod "[I" "java/lang/Object" "clone" "()Ljava/lang/Object;", .native ⟨"java/lang/Object", "clone", "()Ljava/lang/Object;"⟩, .instanceMethod ⟨"java/lang/Object", "clone", "()Ljava/lang/Object;"⟩, .selects "[I" ⟨"[I", "clone", "()Ljava/lang/Object;"⟩ ⟨"java/lang/Object", "clone", "()Ljava/lang/Object;"⟩, .classLink RJ7 317 "[I", .arrayClass .int, .methodLink RJ7 304 Lib.Math.min.name, .static Lib.Math.min.name, .initialized "java/lang/Math", .code Lib.Math.min.name Lib.Math.min.code 2 (some .int), .methodLink RJ7 150 arraycopyName, .native arraycopyName, .static arraycopyName, .initialized "java/lang/System"])
def wsX8_stone_r1 : List Cond := [Cond.classLink RX8 54 "java/lang/IllegalArgumentException", Cond.initialized "java/lang/IllegalArgumentException", Cond.classLink RX8 61 "java/lang/IllegalStateException", Cond.initialized "java/lang/IllegalStateException", Cond.fieldLink RX8 22 "StoneDates" "reader" "LStoneDates$Reader;", Cond.fieldLink RX8 88 "StoneDates$Reader" "size" "I", Cond.fieldLink RX8 51 "StoneDates" "stoneCount" "I", Cond.fieldLink RX8 99 "StoneDates$Reader" "fault" "I", Cond.fieldLink RX8 29 "StoneDates" "finder" "LStoneDates$Finder;", Cond.fieldLink RX8 102 "StoneDates$Reader" "sets" "[I", Cond.fieldLink RX8 9 "StoneDates" "bases" "[I", Cond.classLink RX8 13 RX6, Cond.instantiable RX6 4, Cond.initialized RX6, Cond.methodLink RX8 109 ⟨"[I", "clone", "()Ljava/lang/Object;"⟩, Cond.sameMethod "[I" "java/lang/Object" "clone" "()Ljava/lang/Object;", Cond.native ⟨"java/lang/Object", "clone", "()Ljava/lang/Object;"⟩, Cond.instanceMethod ⟨"java/lang/Object", "clone", "()Ljava/lang/Object;"⟩, Cond.selects "[I" ⟨"[I", "clone", "()Ljava/lang/Object;"⟩ ⟨"java/lang/Object", "clone", "()Ljava/lang/Object;"⟩, Cond.classLink RX8 110 "[I", Cond.fieldLink RX8 114 "StoneDates$Finder" "days" "[I", Cond.fieldLink RX8 117 "StoneDates$Finder" "kept" "I", Cond.fieldLink RX8 126 "StoneDates$Finder" "many" "I", Cond.fieldLink RX8 15 "StoneDates" "stones" "[LStoneDates$Stone;"]
def wsX8_stone_r2 : List Cond := [Cond.fieldLink RX8 36 "StoneDates" "net" "LStoneDates$Net;", Cond.methodLink RX8 78 yX8_checkTown, Cond.instanceMethod yX8_checkTown, Cond.selects RX8 yX8_checkTown yX8_checkTown, Cond.initialized RX8, Cond.code yX8_checkTown cX8_checkTown 2 none, Cond.classLink RX8 204 "java/lang/IndexOutOfBoundsException", Cond.initialized "java/lang/IndexOutOfBoundsException", Cond.fieldLink RX8 47 "StoneDates" "townCount" "I", Cond.methodLink RX8 95 yX4_read, Cond.instanceMethod yX4_read, Cond.selects RX4 yX4_read yX4_read, Cond.initialized RX4, Cond.code yX4_read cX4_read 3 (some .boolean), Cond.methodLink RX4 22 Lib.Math.min.name, Cond.static Lib.Math.min.name, Cond.initialized "java/lang/Math", Cond.code Lib.Math.min.name Lib.Math.min.code 2 (some .int), Cond.methodLink RX4 28 Lib.Math.max.name, Cond.static Lib.Math.max.name, Cond.code Lib.Math.max.name Lib.Math.max.code 2 (some .int), Cond.fieldLink RX4 31 "StoneDates$Reader" "length" "I", Cond.fieldLink RX4 34 "StoneDates$Reader" "at" "I", Cond.fieldLink RX4 9 "StoneDates$Reader" "sets" "[I"]
def wsX8_stone_r3 : List Cond := [Cond.methodLink RX4 37 yJ7_fill_53178, Cond.static yJ7_fill_53178, Cond.initialized RJ7, Cond.code yJ7_fill_53178 cJ7_fill_53178 4 none, Cond.methodLink RX4 43 yX4_skipBlanks, Cond.instanceMethod yX4_skipBlanks, Cond.selects RX4 yX4_skipBlanks yX4_skipBlanks, Cond.code yX4_skipBlanks cX4_skipBlanks 1 none, Cond.fieldLink RX4 15 "StoneDates$Reader" "bytes" "[I", Cond.methodLink RX4 46 yX4_readClause, Cond.instanceMethod yX4_readClause, Cond.selects RX4 yX4_readClause yX4_readClause, Cond.code yX4_readClause cX4_readClause 4 (some .boolean), Cond.fieldLink RX4 58 "StoneDates$Kind" "width" "I", Cond.fieldLink RX4 70 "StoneDates$Kind" "first" "I", Cond.methodLink RX4 54 yX4_readWord, Cond.instanceMethod yX4_readWord, Cond.selects RX4 yX4_readWord yX4_readWord, Cond.code yX4_readWord cX4_readWord 6 (some (.object "StoneDates$Kind")), Cond.fieldLink RX4 77 "StoneDates$Reader" "KINDS" "[LStoneDates$Kind;", Cond.fieldLink RX4 81 "StoneDates$Kind" "word" "Ljava/lang/String;", Cond.methodLink RX4 85 yX4_isWord, Cond.instanceMethod yX4_isWord, Cond.selects RX4 yX4_isWord yX4_isWord]
def wsX8_stone_r4 : List Cond := [Cond.code yX4_isWord cX4_isWord 5 (some .boolean), Cond.methodLink RX4 89 yJ0_length_8abf5, Cond.instanceMethod yJ0_length_8abf5, Cond.selects RJ0 yJ0_length_8abf5 yJ0_length_8abf5, Cond.initialized RJ0, Cond.code yJ0_length_8abf5 cJ0_length_8abf5 1 (some .int), Cond.fieldLink RJ0 9 "java/lang/String" "value" "[B", Cond.methodLink RJ0 335 yJ0_coder_7d493, Cond.instanceMethod yJ0_coder_7d493, Cond.selects RJ0 yJ0_coder_7d493 yJ0_coder_7d493, Cond.code yJ0_coder_7d493 cJ0_coder_7d493 1 (some .byte), Cond.fieldLink RJ0 38 "java/lang/String" "COMPACT_STRINGS" "Z", Cond.fieldLink RJ0 15 "java/lang/String" "coder" "B", Cond.methodLink RX4 94 yJ0_charAt_5068e, Cond.instanceMethod yJ0_charAt_5068e, Cond.selects RJ0 yJ0_charAt_5068e yJ0_charAt_5068e, Cond.code yJ0_charAt_5068e cJ0_charAt_5068e 2 (some .char), Cond.methodLink RJ0 492 yJ0_isLatin1_aae02, Cond.instanceMethod yJ0_isLatin1_aae02, Cond.selects RJ0 yJ0_isLatin1_aae02 yJ0_isLatin1_aae02, Cond.code yJ0_isLatin1_aae02 cJ0_isLatin1_aae02 1 (some .boolean), Cond.methodLink RJ0 495 yJ1_charAt_3b067, Cond.static yJ1_charAt_3b067, Cond.initialized RJ1]
def wsX8_stone_r5 : List Cond := [Cond.code yJ1_charAt_3b067 cJ1_charAt_3b067 2 (some .char), Cond.methodLink RJ1 9 yJ0_checkIndex_df160, Cond.static yJ0_checkIndex_df160, Cond.code yJ0_checkIndex_df160 cJ0_checkIndex_df160 2 none, Cond.fieldLink RJ0 1053 "jdk/internal/util/Preconditions" "SIOOBE_FORMATTER" "Ljava/util/function/BiFunction;", Cond.methodLink RJ0 1059 yJ3_checkIndex_8e157, Cond.static yJ3_checkIndex_8e157, Cond.initialized RJ3, Cond.code yJ3_checkIndex_8e157 cJ3_checkIndex_8e157 3 (some .int), Cond.methodLink RJ0 498 yJ2_charAt_3b067, Cond.static yJ2_charAt_3b067, Cond.initialized RJ2, Cond.code yJ2_charAt_3b067 cJ2_charAt_3b067 2 (some .char), Cond.methodLink RJ2 67 yJ2_checkIndex_2214a, Cond.static yJ2_checkIndex_2214a, Cond.code yJ2_checkIndex_2214a cJ2_checkIndex_2214a 2 none, Cond.methodLink RJ2 48 yJ2_length_9d52b, Cond.static yJ2_length_9d52b, Cond.code yJ2_length_9d52b cJ2_length_9d52b 1 (some .int), Cond.methodLink RJ2 414 yJ0_checkIndex_df160, Cond.methodLink RJ2 71 yJ2_getChar_3b067, Cond.static yJ2_getChar_3b067, Cond.code yJ2_getChar_3b067 cJ2_getChar_3b067 2 (some .char), Cond.fieldLink RJ2 44 "java/lang/StringUTF16" "$assertionsDisabled" "Z"]
def wsX8_stone_r6 : List Cond := [Cond.fieldLink RJ2 59 "java/lang/StringUTF16" "HI_BYTE_SHIFT" "I", Cond.fieldLink RJ2 63 "java/lang/StringUTF16" "LO_BYTE_SHIFT" "I", Cond.methodLink RX4 50 yX4_refuse, Cond.instanceMethod yX4_refuse, Cond.selects RX4 yX4_refuse yX4_refuse, Cond.code yX4_refuse cX4_refuse 2 (some .boolean), Cond.fieldLink RX4 113 "StoneDates$Reader" "fault" "I", Cond.methodLink RX4 63 yX4_demand, Cond.instanceMethod yX4_demand, Cond.selects RX4 yX4_demand yX4_demand, Cond.code yX4_demand cX4_demand 2 (some .boolean), Cond.methodLink RX4 98 yX4_takes, Cond.instanceMethod yX4_takes, Cond.selects RX4 yX4_takes yX4_takes, Cond.code yX4_takes cX4_takes 2 (some .boolean), Cond.methodLink RX4 67 yX4_readPart, Cond.instanceMethod yX4_readPart, Cond.selects RX4 yX4_readPart yX4_readPart, Cond.code yX4_readPart cX4_readPart 2 (some .boolean), Cond.fieldLink RX4 101 "StoneDates$Reader" "heard" "I", Cond.methodLink RX4 104 yX4_readRange, Cond.instanceMethod yX4_readRange, Cond.selects RX4 yX4_readRange yX4_readRange, Cond.code yX4_readRange cX4_readRange 4 (some .boolean)]
def wsX8_stone_r7 : List Cond := [Cond.methodLink RX4 107 yX4_readNumber, Cond.instanceMethod yX4_readNumber, Cond.selects RX4 yX4_readNumber yX4_readNumber, Cond.code yX4_readNumber cX4_readNumber 3 (some .int), Cond.methodLink RX4 110 yX4_isDigitAt, Cond.instanceMethod yX4_isDigitAt, Cond.selects RX4 yX4_isDigitAt yX4_isDigitAt, Cond.code yX4_isDigitAt cX4_isDigitAt 2 (some .boolean), Cond.methodLink RX4 73 yX4_narrow, Cond.instanceMethod yX4_narrow, Cond.selects RX4 yX4_narrow yX4_narrow, Cond.code yX4_narrow cX4_narrow 2 none, Cond.methodLink RX8 105 yX1_seek, Cond.instanceMethod yX1_seek, Cond.selects RX1 yX1_seek yX1_seek, Cond.initialized RX1, Cond.code yX1_seek cX1_seek 4 none, Cond.fieldLink RX1 33 "StoneDates$Finder" "kept" "I", Cond.fieldLink RX1 37 "StoneDates$Finder" "many" "I", Cond.constant RX1 56 (1152000), Cond.constant RX1 57 (1583999), Cond.methodLink RX1 40 yX1_turnInner, Cond.instanceMethod yX1_turnInner, Cond.selects RX1 yX1_turnInner yX1_turnInner]
def wsX8_stone_r8 : List Cond := [Cond.code yX1_turnInner cX1_turnInner 8 none, Cond.fieldLink RX1 20 "StoneDates$Finder" "inner" "LStoneDates$Wheel;", Cond.methodLink RX1 69 yX7_reset, Cond.instanceMethod yX7_reset, Cond.selects RX7 yX7_reset yX7_reset, Cond.initialized RX7, Cond.code yX7_reset cX7_reset 2 none, Cond.fieldLink RX7 23 "StoneDates$Wheel" "free" "Z", Cond.fieldLink RX7 19 "StoneDates$Wheel" "bits" "[J", Cond.methodLink RX7 27 yJ7_fill_d0a16, Cond.static yJ7_fill_d0a16, Cond.code yJ7_fill_d0a16 cJ7_fill_d0a16 5 none, Cond.methodLink RX1 58 yX0_signOf, Cond.static yX0_signOf, Cond.initialized RX0, Cond.code yX0_signOf cX0_signOf 3 (some .int), Cond.constant RX0 13 (144000), Cond.methodLink RX1 62 yX0_holds, Cond.static yX0_holds, Cond.code yX0_holds cX0_holds 2 (some .boolean), Cond.methodLink RX1 73 yX7_mark, Cond.instanceMethod yX7_mark, Cond.selects RX7 yX7_mark yX7_mark, Cond.code yX7_mark cX7_mark 3 none]
def wsX8_stone_r9 : List Cond := [Cond.methodLink RX7 9 Lib.Math.max.name, Cond.fieldLink RX7 15 "StoneDates$Wheel" "period" "I", Cond.methodLink RX1 44 yX1_turnThirteen, Cond.instanceMethod yX1_turnThirteen, Cond.selects RX1 yX1_turnThirteen yX1_turnThirteen, Cond.code yX1_turnThirteen cX1_turnThirteen 3 none, Cond.fieldLink RX1 24 "StoneDates$Finder" "thirteen" "LStoneDates$Wheel;", Cond.methodLink RX1 47 yX1_turnYear, Cond.instanceMethod yX1_turnYear, Cond.selects RX1 yX1_turnYear yX1_turnYear, Cond.code yX1_turnYear cX1_turnYear 5 none, Cond.fieldLink RX1 27 "StoneDates$Finder" "year" "LStoneDates$Wheel;", Cond.methodLink RX1 51 yX1_turnLunar, Cond.instanceMethod yX1_turnLunar, Cond.selects RX1 yX1_turnLunar yX1_turnLunar, Cond.code yX1_turnLunar cX1_turnLunar 3 none, Cond.fieldLink RX1 30 "StoneDates$Finder" "lunar" "LStoneDates$Wheel;", Cond.methodLink RX1 66 yX1_scan, Cond.instanceMethod yX1_scan, Cond.selects RX1 yX1_scan yX1_scan, Cond.code yX1_scan cX1_scan 9 none, Cond.methodLink RX1 76 yX7_window, Cond.instanceMethod yX7_window, Cond.selects RX7 yX7_window yX7_window]
def wsX8_stone_r10 : List Cond := [Cond.code yX7_window cX7_window 5 (some .long), Cond.constantLong RX7 33 (1152921504606846975), Cond.methodLink RX1 80 yJ13_bitCount_95d88, Cond.static yJ13_bitCount_95d88, Cond.initialized RJ13, Cond.code yJ13_bitCount_95d88 cJ13_bitCount_95d88 2 (some .int), Cond.constantLong RJ13 314 (6148914691236517205), Cond.constantLong RJ13 316 (3689348814741910323), Cond.constantLong RJ13 318 (1085102592571150095), Cond.methodLink RX1 86 yX1_keep, Cond.instanceMethod yX1_keep, Cond.selects RX1 yX1_keep yX1_keep, Cond.code yX1_keep cX1_keep 8 none, Cond.fieldLink RX1 9 "StoneDates$Finder" "days" "[I", Cond.methodLink RX8 120 yJ7_copyOf_59c91, Cond.static yJ7_copyOf_59c91, Cond.code yJ7_copyOf_59c91 cJ7_copyOf_59c91 3 (some (.array .int)), Cond.methodLink RJ7 316 ⟨"[I", "clone", "()Ljava/lang/Object;"⟩, Cond.classLink RJ7 317 "[I", Cond.arrayClass .int, Cond.methodLink RJ7 304 Lib.Math.min.name, Cond.methodLink RJ7 150 arraycopyName, Cond.native arraycopyName, Cond.static arraycopyName]
def wsX8_stone_r11 : List Cond := [Cond.initialized "java/lang/System", Cond.methodLink RX8 129 yX6_init, Cond.instanceMethod yX6_init, Cond.code yX6_init cX6_init 5 none, Cond.methodLink RX6 1 objectInit, Cond.instanceMethod objectInit, Cond.code objectInit ⟨#[0xb1]⟩ 1 none, Cond.fieldLink RX6 7 "StoneDates$Stone" "base" "I", Cond.fieldLink RX6 13 "StoneDates$Stone" "sets" "[I", Cond.fieldLink RX6 17 "StoneDates$Stone" "days" "[I", Cond.fieldLink RX6 20 "StoneDates$Stone" "many" "I", Cond.methodLink RX8 132 yX3_take, Cond.instanceMethod yX3_take, Cond.selects RX3 yX3_take yX3_take, Cond.initialized RX3, Cond.code yX3_take cX3_take 3 none, Cond.fieldLink RX3 41 "StoneDates$Stone" "many" "I", Cond.fieldLink RX3 11 "StoneDates$Net" "members" "[LStoneDates$Stone;", Cond.fieldLink RX3 45 "StoneDates$Net" "memberCount" "I"]
def wsX8_stone : List Cond := .code yX8_stone cX8_stone 5 (some .int) :: ((wsX8_stone_r1 ++ (wsX8_stone_r2 ++ (wsX8_stone_r3 ++ (wsX8_stone_r4 ++ (wsX8_stone_r5 ++ (wsX8_stone_r6 ++ (wsX8_stone_r7 ++ (wsX8_stone_r8 ++ (wsX8_stone_r9 ++ (wsX8_stone_r10 ++ wsX8_stone_r11)))))))))) ++ wsX80 ++ wsX40 ++ wsX60 ++ wsX10 ++ wsX70 ++ wsX30 ++ (vx_atS RX8 58 "java/lang/IllegalArgumentException" ["java/lang/RuntimeException", "java/lang/Exception"]).filter goodWord ++ (vx_atS RX8 65 "java/lang/IllegalStateException" ["java/lang/RuntimeException", "java/lang/Exception"]).filter goodWord ++ (vx_atS RX8 208 "java/lang/IndexOutOfBoundsException" ["java/lang/RuntimeException", "java/lang/Exception"]).filter goodWord)
def wsX8_stoneAt : List Cond := .code yX8_stoneAt cX8_stoneAt 3 (some (.object "StoneDates$Stone")) :: ([.classLink RX8 204 "java/lang/IndexOutOfBoundsException", .initialized "java/lang/IndexOutOfBoundsException", .fieldLink RX8 51 "StoneDates" "stoneCount" "I", .fieldLink RX8 15 "StoneDates" "stones" "[LStoneDates$Stone;"] ++ wsX80 ++ (vx_atS RX8 208 "java/lang/IndexOutOfBoundsException" ["java/lang/RuntimeException", "java/lang/Exception"]).filter goodWord)
def wsX8_many : List Cond := .code yX8_many cX8_many 2 (some .int) :: ([.fieldLink RX8 140 "StoneDates$Stone" "many" "I", .methodLink RX8 136 yX8_stoneAt, .instanceMethod yX8_stoneAt, .selects RX8 yX8_stoneAt yX8_stoneAt, .initialized RX8, .code yX8_stoneAt cX8_stoneAt 3 (some (.object "StoneDates$Stone")), .classLink RX8 204 "java/lang/IndexOutOfBoundsException", .initialized "java/lang/IndexOutOfBoundsException", .fieldLink RX8 51 "StoneDates" "stoneCount" "I", .fieldLink RX8 15 "StoneDates" "stones" "[LStoneDates$Stone;"] ++ wsX60 ++ wsX80 ++ (vx_atS RX8 208 "java/lang/IndexOutOfBoundsException" ["java/lang/RuntimeException", "java/lang/Exception"]).filter goodWord)
def wsX8_day : List Cond := .code yX8_day cX8_day 4 (some .int) :: ([.fieldLink RX8 141 "StoneDates$Stone" "days" "[I", .methodLink RX8 136 yX8_stoneAt, .instanceMethod yX8_stoneAt, .selects RX8 yX8_stoneAt yX8_stoneAt, .initialized RX8, .code yX8_stoneAt cX8_stoneAt 3 (some (.object "StoneDates$Stone")), .classLink RX8 204 "java/lang/IndexOutOfBoundsException", .initialized "java/lang/IndexOutOfBoundsException", .fieldLink RX8 51 "StoneDates" "stoneCount" "I", .fieldLink RX8 15 "StoneDates" "stones" "[LStoneDates$Stone;"] ++ wsX60 ++ wsX80 ++ (vx_atS RX8 208 "java/lang/IndexOutOfBoundsException" ["java/lang/RuntimeException", "java/lang/Exception"]).filter goodWord)
def wsX8_fits_r1 : List Cond := [Cond.methodLink RX8 136 yX8_stoneAt, Cond.instanceMethod yX8_stoneAt, Cond.selects RX8 yX8_stoneAt yX8_stoneAt, Cond.initialized RX8, Cond.code yX8_stoneAt cX8_stoneAt 3 (some (.object "StoneDates$Stone")), Cond.classLink RX8 204 "java/lang/IndexOutOfBoundsException", Cond.initialized "java/lang/IndexOutOfBoundsException", Cond.fieldLink RX8 51 "StoneDates" "stoneCount" "I", Cond.fieldLink RX8 15 "StoneDates" "stones" "[LStoneDates$Stone;", Cond.methodLink RX8 66 yX8_checkDay, Cond.instanceMethod yX8_checkDay, Cond.selects RX8 yX8_checkDay yX8_checkDay, Cond.code yX8_checkDay cX8_checkDay 2 none, Cond.classLink RX8 54 "java/lang/IllegalArgumentException", Cond.initialized "java/lang/IllegalArgumentException", Cond.methodLink RX8 199 yX0_has, Cond.static yX0_has, Cond.initialized RX0, Cond.code yX0_has cX0_has 1 (some .boolean), Cond.constant RX0 11 (1152000), Cond.constant RX0 12 (1583999), Cond.methodLink RX8 142 yX6_allows, Cond.instanceMethod yX6_allows, Cond.selects RX6 yX6_allows yX6_allows]
def wsX8_fits_r2 : List Cond := [Cond.initialized RX6, Cond.code yX6_allows cX6_allows 3 (some .boolean), Cond.fieldLink RX6 13 "StoneDates$Stone" "sets" "[I", Cond.fieldLink RX6 7 "StoneDates$Stone" "base" "I", Cond.methodLink RX6 23 yX0_signOf, Cond.static yX0_signOf, Cond.code yX0_signOf cX0_signOf 3 (some .int), Cond.constant RX0 13 (144000), Cond.methodLink RX6 29 yX0_holds, Cond.static yX0_holds, Cond.code yX0_holds cX0_holds 2 (some .boolean)]
def wsX8_fits : List Cond := .code yX8_fits cX8_fits 4 (some .boolean) :: ((wsX8_fits_r1 ++ wsX8_fits_r2) ++ wsX80 ++ wsX60 ++ (vx_atS RX8 208 "java/lang/IndexOutOfBoundsException" ["java/lang/RuntimeException", "java/lang/Exception"]).filter goodWord ++ (vx_atS RX8 58 "java/lang/IllegalArgumentException" ["java/lang/RuntimeException", "java/lang/Exception"]).filter goodWord)
def wsX8_distance_r1 : List Cond := [Cond.classLink RX8 54 "java/lang/IllegalArgumentException", Cond.initialized "java/lang/IllegalArgumentException", Cond.classLink RX8 61 "java/lang/IllegalStateException", Cond.initialized "java/lang/IllegalStateException", Cond.constant RX8 145 (-500000), Cond.constant RX8 146 (500000), Cond.fieldLink RX8 36 "StoneDates" "net" "LStoneDates$Net;", Cond.fieldLink RX8 149 "StoneDates$Net" "size" "I", Cond.methodLink RX8 136 yX8_stoneAt, Cond.instanceMethod yX8_stoneAt, Cond.selects RX8 yX8_stoneAt yX8_stoneAt, Cond.initialized RX8, Cond.code yX8_stoneAt cX8_stoneAt 3 (some (.object "StoneDates$Stone")), Cond.classLink RX8 204 "java/lang/IndexOutOfBoundsException", Cond.initialized "java/lang/IndexOutOfBoundsException", Cond.fieldLink RX8 51 "StoneDates" "stoneCount" "I", Cond.fieldLink RX8 15 "StoneDates" "stones" "[LStoneDates$Stone;", Cond.methodLink RX8 152 yX3_add, Cond.instanceMethod yX3_add, Cond.selects RX3 yX3_add yX3_add, Cond.initialized RX3, Cond.code yX3_add cX3_add 4 (some .int), Cond.fieldLink RX3 48 "StoneDates$Net" "size" "I", Cond.fieldLink RX3 17 "StoneDates$Net" "from" "[I"]
def wsX8_distance_r2 : List Cond := [Cond.fieldLink RX3 21 "StoneDates$Net" "to" "[I", Cond.fieldLink RX3 24 "StoneDates$Net" "days" "[I"]
def wsX8_distance : List Cond := .code yX8_distance cX8_distance 4 (some .int) :: ((wsX8_distance_r1 ++ wsX8_distance_r2) ++ wsX80 ++ wsX30 ++ (vx_atS RX8 58 "java/lang/IllegalArgumentException" ["java/lang/RuntimeException", "java/lang/Exception"]).filter goodWord ++ (vx_atS RX8 65 "java/lang/IllegalStateException" ["java/lang/RuntimeException", "java/lang/Exception"]).filter goodWord ++ (vx_atS RX8 208 "java/lang/IndexOutOfBoundsException" ["java/lang/RuntimeException", "java/lang/Exception"]).filter goodWord)
def wsX8_least_r1 : List Cond := [Cond.fieldLink RX8 36 "StoneDates" "net" "LStoneDates$Net;", Cond.fieldLink RX8 158 "StoneDates$Net" "fewest" "I", Cond.methodLink RX8 155 yX3_solve, Cond.instanceMethod yX3_solve, Cond.selects RX3 yX3_solve yX3_solve, Cond.initialized RX3, Cond.code yX3_solve cX3_solve 2 none, Cond.fieldLink RX3 51 "StoneDates$Net" "solvedSize" "I", Cond.fieldLink RX3 48 "StoneDates$Net" "size" "I", Cond.fieldLink RX3 54 "StoneDates$Net" "fewest" "I", Cond.fieldLink RX3 65 "StoneDates$Net" "wrongs" "I", Cond.methodLink RX3 57 yX3_search, Cond.instanceMethod yX3_search, Cond.selects RX3 yX3_search yX3_search, Cond.code yX3_search cX3_search 5 none, Cond.methodLink RX3 76 yJ6_bitCount_0f7a4, Cond.static yJ6_bitCount_0f7a4, Cond.initialized RJ6, Cond.code yJ6_bitCount_0f7a4 cJ6_bitCount_0f7a4 1 (some .int), Cond.constant RJ6 265 (1431655765), Cond.constant RJ6 266 (858993459), Cond.constant RJ6 267 (252645135), Cond.methodLink RX3 61 yX3_isAsked, Cond.instanceMethod yX3_isAsked]
def wsX8_least_r2 : List Cond := [Cond.selects RX3 yX3_isAsked yX3_isAsked, Cond.code yX3_isAsked cX3_isAsked 2 (some .boolean), Cond.fieldLink RX3 11 "StoneDates$Net" "members" "[LStoneDates$Stone;", Cond.fieldLink RX3 17 "StoneDates$Net" "from" "[I", Cond.fieldLink RX3 21 "StoneDates$Net" "to" "[I", Cond.methodLink RX3 72 yX3_pass, Cond.instanceMethod yX3_pass, Cond.selects RX3 yX3_pass yX3_pass, Cond.code yX3_pass cX3_pass 2 none, Cond.fieldLink RX3 29 "StoneDates$Net" "group" "[[I", Cond.methodLink RX3 81 arraycopyName, Cond.native arraycopyName, Cond.static arraycopyName, Cond.initialized "java/lang/System", Cond.fieldLink RX3 32 "StoneDates$Net" "offset" "[[I", Cond.methodLink RX3 68 yX3_join, Cond.instanceMethod yX3_join, Cond.selects RX3 yX3_join yX3_join, Cond.code yX3_join cX3_join 6 (some .int), Cond.fieldLink RX3 24 "StoneDates$Net" "days" "[I", Cond.methodLink RX3 87 yX3_meet, Cond.instanceMethod yX3_meet, Cond.selects RX3 yX3_meet yX3_meet, Cond.code yX3_meet cX3_meet 13 (some .boolean)]
def wsX8_least_r3 : List Cond := [Cond.fieldLink RX3 35 "StoneDates$Net" "joined" "[[I", Cond.fieldLink RX3 38 "StoneDates$Net" "joinedSize" "[I", Cond.methodLink RX3 91 yX3_daysOf, Cond.instanceMethod yX3_daysOf, Cond.selects RX3 yX3_daysOf yX3_daysOf, Cond.code yX3_daysOf cX3_daysOf 3 (some (.array .int)), Cond.fieldLink RX3 98 "StoneDates$Stone" "days" "[I", Cond.methodLink RX3 95 yX3_sizeOf, Cond.instanceMethod yX3_sizeOf, Cond.selects RX3 yX3_sizeOf yX3_sizeOf, Cond.code yX3_sizeOf cX3_sizeOf 3 (some .int)]
def wsX8_least : List Cond := .code yX8_least cX8_least 1 (some .int) :: ((wsX8_least_r1 ++ (wsX8_least_r2 ++ wsX8_least_r3)) ++ wsX80 ++ wsX30 ++ wsX60)
def wsX8_wrong_r1 : List Cond := [Cond.fieldLink RX8 36 "StoneDates" "net" "LStoneDates$Net;", Cond.methodLink RX8 155 yX3_solve, Cond.instanceMethod yX3_solve, Cond.selects RX3 yX3_solve yX3_solve, Cond.initialized RX3, Cond.code yX3_solve cX3_solve 2 none, Cond.fieldLink RX3 51 "StoneDates$Net" "solvedSize" "I", Cond.fieldLink RX3 48 "StoneDates$Net" "size" "I", Cond.fieldLink RX3 54 "StoneDates$Net" "fewest" "I", Cond.fieldLink RX3 65 "StoneDates$Net" "wrongs" "I", Cond.methodLink RX3 57 yX3_search, Cond.instanceMethod yX3_search, Cond.selects RX3 yX3_search yX3_search, Cond.code yX3_search cX3_search 5 none, Cond.methodLink RX3 76 yJ6_bitCount_0f7a4, Cond.static yJ6_bitCount_0f7a4, Cond.initialized RJ6, Cond.code yJ6_bitCount_0f7a4 cJ6_bitCount_0f7a4 1 (some .int), Cond.constant RJ6 265 (1431655765), Cond.constant RJ6 266 (858993459), Cond.constant RJ6 267 (252645135), Cond.methodLink RX3 61 yX3_isAsked, Cond.instanceMethod yX3_isAsked, Cond.selects RX3 yX3_isAsked yX3_isAsked]
def wsX8_wrong_r2 : List Cond := [Cond.code yX3_isAsked cX3_isAsked 2 (some .boolean), Cond.fieldLink RX3 11 "StoneDates$Net" "members" "[LStoneDates$Stone;", Cond.fieldLink RX3 17 "StoneDates$Net" "from" "[I", Cond.fieldLink RX3 21 "StoneDates$Net" "to" "[I", Cond.methodLink RX3 72 yX3_pass, Cond.instanceMethod yX3_pass, Cond.selects RX3 yX3_pass yX3_pass, Cond.code yX3_pass cX3_pass 2 none, Cond.fieldLink RX3 29 "StoneDates$Net" "group" "[[I", Cond.methodLink RX3 81 arraycopyName, Cond.native arraycopyName, Cond.static arraycopyName, Cond.initialized "java/lang/System", Cond.fieldLink RX3 32 "StoneDates$Net" "offset" "[[I", Cond.methodLink RX3 68 yX3_join, Cond.instanceMethod yX3_join, Cond.selects RX3 yX3_join yX3_join, Cond.code yX3_join cX3_join 6 (some .int), Cond.fieldLink RX3 24 "StoneDates$Net" "days" "[I", Cond.methodLink RX3 87 yX3_meet, Cond.instanceMethod yX3_meet, Cond.selects RX3 yX3_meet yX3_meet, Cond.code yX3_meet cX3_meet 13 (some .boolean), Cond.fieldLink RX3 35 "StoneDates$Net" "joined" "[[I"]
def wsX8_wrong_r3 : List Cond := [Cond.fieldLink RX3 38 "StoneDates$Net" "joinedSize" "[I", Cond.methodLink RX3 91 yX3_daysOf, Cond.instanceMethod yX3_daysOf, Cond.selects RX3 yX3_daysOf yX3_daysOf, Cond.code yX3_daysOf cX3_daysOf 3 (some (.array .int)), Cond.fieldLink RX3 98 "StoneDates$Stone" "days" "[I", Cond.methodLink RX3 95 yX3_sizeOf, Cond.instanceMethod yX3_sizeOf, Cond.selects RX3 yX3_sizeOf yX3_sizeOf, Cond.code yX3_sizeOf cX3_sizeOf 3 (some .int), Cond.methodLink RX8 161 yX3_wrongAt, Cond.instanceMethod yX3_wrongAt, Cond.selects RX3 yX3_wrongAt yX3_wrongAt, Cond.code yX3_wrongAt cX3_wrongAt 4 (some .int)]
def wsX8_wrong : List Cond := .code yX8_wrong cX8_wrong 2 (some .int) :: ((wsX8_wrong_r1 ++ (wsX8_wrong_r2 ++ wsX8_wrong_r3)) ++ wsX80 ++ wsX30 ++ wsX60)
def wsX8_settled_r1 : List Cond := [Cond.fieldLink RX8 36 "StoneDates" "net" "LStoneDates$Net;", Cond.methodLink RX8 136 yX8_stoneAt, Cond.instanceMethod yX8_stoneAt, Cond.selects RX8 yX8_stoneAt yX8_stoneAt, Cond.initialized RX8, Cond.code yX8_stoneAt cX8_stoneAt 3 (some (.object "StoneDates$Stone")), Cond.classLink RX8 204 "java/lang/IndexOutOfBoundsException", Cond.initialized "java/lang/IndexOutOfBoundsException", Cond.fieldLink RX8 51 "StoneDates" "stoneCount" "I", Cond.fieldLink RX8 15 "StoneDates" "stones" "[LStoneDates$Stone;", Cond.methodLink RX8 155 yX3_solve, Cond.instanceMethod yX3_solve, Cond.selects RX3 yX3_solve yX3_solve, Cond.initialized RX3, Cond.code yX3_solve cX3_solve 2 none, Cond.fieldLink RX3 51 "StoneDates$Net" "solvedSize" "I", Cond.fieldLink RX3 48 "StoneDates$Net" "size" "I", Cond.fieldLink RX3 54 "StoneDates$Net" "fewest" "I", Cond.fieldLink RX3 65 "StoneDates$Net" "wrongs" "I", Cond.methodLink RX3 57 yX3_search, Cond.instanceMethod yX3_search, Cond.selects RX3 yX3_search yX3_search, Cond.code yX3_search cX3_search 5 none, Cond.methodLink RX3 76 yJ6_bitCount_0f7a4]
def wsX8_settled_r2 : List Cond := [Cond.static yJ6_bitCount_0f7a4, Cond.initialized RJ6, Cond.code yJ6_bitCount_0f7a4 cJ6_bitCount_0f7a4 1 (some .int), Cond.constant RJ6 265 (1431655765), Cond.constant RJ6 266 (858993459), Cond.constant RJ6 267 (252645135), Cond.methodLink RX3 61 yX3_isAsked, Cond.instanceMethod yX3_isAsked, Cond.selects RX3 yX3_isAsked yX3_isAsked, Cond.code yX3_isAsked cX3_isAsked 2 (some .boolean), Cond.fieldLink RX3 11 "StoneDates$Net" "members" "[LStoneDates$Stone;", Cond.fieldLink RX3 17 "StoneDates$Net" "from" "[I", Cond.fieldLink RX3 21 "StoneDates$Net" "to" "[I", Cond.methodLink RX3 72 yX3_pass, Cond.instanceMethod yX3_pass, Cond.selects RX3 yX3_pass yX3_pass, Cond.code yX3_pass cX3_pass 2 none, Cond.fieldLink RX3 29 "StoneDates$Net" "group" "[[I", Cond.methodLink RX3 81 arraycopyName, Cond.native arraycopyName, Cond.static arraycopyName, Cond.initialized "java/lang/System", Cond.fieldLink RX3 32 "StoneDates$Net" "offset" "[[I", Cond.methodLink RX3 68 yX3_join]
def wsX8_settled_r3 : List Cond := [Cond.instanceMethod yX3_join, Cond.selects RX3 yX3_join yX3_join, Cond.code yX3_join cX3_join 6 (some .int), Cond.fieldLink RX3 24 "StoneDates$Net" "days" "[I", Cond.methodLink RX3 87 yX3_meet, Cond.instanceMethod yX3_meet, Cond.selects RX3 yX3_meet yX3_meet, Cond.code yX3_meet cX3_meet 13 (some .boolean), Cond.fieldLink RX3 35 "StoneDates$Net" "joined" "[[I", Cond.fieldLink RX3 38 "StoneDates$Net" "joinedSize" "[I", Cond.methodLink RX3 91 yX3_daysOf, Cond.instanceMethod yX3_daysOf, Cond.selects RX3 yX3_daysOf yX3_daysOf, Cond.code yX3_daysOf cX3_daysOf 3 (some (.array .int)), Cond.fieldLink RX3 98 "StoneDates$Stone" "days" "[I", Cond.methodLink RX3 95 yX3_sizeOf, Cond.instanceMethod yX3_sizeOf, Cond.selects RX3 yX3_sizeOf yX3_sizeOf, Cond.code yX3_sizeOf cX3_sizeOf 3 (some .int), Cond.methodLink RX8 165 yX3_settledSize, Cond.instanceMethod yX3_settledSize, Cond.selects RX3 yX3_settledSize yX3_settledSize, Cond.code yX3_settledSize cX3_settledSize 2 (some .int)]
def wsX8_settled : List Cond := .code yX8_settled cX8_settled 2 (some .int) :: ((wsX8_settled_r1 ++ (wsX8_settled_r2 ++ wsX8_settled_r3)) ++ wsX80 ++ wsX30 ++ wsX60 ++ (vx_atS RX8 208 "java/lang/IndexOutOfBoundsException" ["java/lang/RuntimeException", "java/lang/Exception"]).filter goodWord)
def wsX8_settledDay_r1 : List Cond := [Cond.fieldLink RX8 36 "StoneDates" "net" "LStoneDates$Net;", Cond.methodLink RX8 136 yX8_stoneAt, Cond.instanceMethod yX8_stoneAt, Cond.selects RX8 yX8_stoneAt yX8_stoneAt, Cond.initialized RX8, Cond.code yX8_stoneAt cX8_stoneAt 3 (some (.object "StoneDates$Stone")), Cond.classLink RX8 204 "java/lang/IndexOutOfBoundsException", Cond.initialized "java/lang/IndexOutOfBoundsException", Cond.fieldLink RX8 51 "StoneDates" "stoneCount" "I", Cond.fieldLink RX8 15 "StoneDates" "stones" "[LStoneDates$Stone;", Cond.methodLink RX8 155 yX3_solve, Cond.instanceMethod yX3_solve, Cond.selects RX3 yX3_solve yX3_solve, Cond.initialized RX3, Cond.code yX3_solve cX3_solve 2 none, Cond.fieldLink RX3 51 "StoneDates$Net" "solvedSize" "I", Cond.fieldLink RX3 48 "StoneDates$Net" "size" "I", Cond.fieldLink RX3 54 "StoneDates$Net" "fewest" "I", Cond.fieldLink RX3 65 "StoneDates$Net" "wrongs" "I", Cond.methodLink RX3 57 yX3_search, Cond.instanceMethod yX3_search, Cond.selects RX3 yX3_search yX3_search, Cond.code yX3_search cX3_search 5 none, Cond.methodLink RX3 76 yJ6_bitCount_0f7a4]
def wsX8_settledDay_r2 : List Cond := [Cond.static yJ6_bitCount_0f7a4, Cond.initialized RJ6, Cond.code yJ6_bitCount_0f7a4 cJ6_bitCount_0f7a4 1 (some .int), Cond.constant RJ6 265 (1431655765), Cond.constant RJ6 266 (858993459), Cond.constant RJ6 267 (252645135), Cond.methodLink RX3 61 yX3_isAsked, Cond.instanceMethod yX3_isAsked, Cond.selects RX3 yX3_isAsked yX3_isAsked, Cond.code yX3_isAsked cX3_isAsked 2 (some .boolean), Cond.fieldLink RX3 11 "StoneDates$Net" "members" "[LStoneDates$Stone;", Cond.fieldLink RX3 17 "StoneDates$Net" "from" "[I", Cond.fieldLink RX3 21 "StoneDates$Net" "to" "[I", Cond.methodLink RX3 72 yX3_pass, Cond.instanceMethod yX3_pass, Cond.selects RX3 yX3_pass yX3_pass, Cond.code yX3_pass cX3_pass 2 none, Cond.fieldLink RX3 29 "StoneDates$Net" "group" "[[I", Cond.methodLink RX3 81 arraycopyName, Cond.native arraycopyName, Cond.static arraycopyName, Cond.initialized "java/lang/System", Cond.fieldLink RX3 32 "StoneDates$Net" "offset" "[[I", Cond.methodLink RX3 68 yX3_join]
def wsX8_settledDay_r3 : List Cond := [Cond.instanceMethod yX3_join, Cond.selects RX3 yX3_join yX3_join, Cond.code yX3_join cX3_join 6 (some .int), Cond.fieldLink RX3 24 "StoneDates$Net" "days" "[I", Cond.methodLink RX3 87 yX3_meet, Cond.instanceMethod yX3_meet, Cond.selects RX3 yX3_meet yX3_meet, Cond.code yX3_meet cX3_meet 13 (some .boolean), Cond.fieldLink RX3 35 "StoneDates$Net" "joined" "[[I", Cond.fieldLink RX3 38 "StoneDates$Net" "joinedSize" "[I", Cond.methodLink RX3 91 yX3_daysOf, Cond.instanceMethod yX3_daysOf, Cond.selects RX3 yX3_daysOf yX3_daysOf, Cond.code yX3_daysOf cX3_daysOf 3 (some (.array .int)), Cond.fieldLink RX3 98 "StoneDates$Stone" "days" "[I", Cond.methodLink RX3 95 yX3_sizeOf, Cond.instanceMethod yX3_sizeOf, Cond.selects RX3 yX3_sizeOf yX3_sizeOf, Cond.code yX3_sizeOf cX3_sizeOf 3 (some .int), Cond.methodLink RX8 168 yX3_settledAt, Cond.instanceMethod yX3_settledAt, Cond.selects RX3 yX3_settledAt yX3_settledAt, Cond.code yX3_settledAt cX3_settledAt 3 (some .int), Cond.methodLink RX3 99 yX3_settledSize]
def wsX8_settledDay_r4 : List Cond := [Cond.instanceMethod yX3_settledSize, Cond.selects RX3 yX3_settledSize yX3_settledSize, Cond.code yX3_settledSize cX3_settledSize 2 (some .int)]
def wsX8_settledDay : List Cond := .code yX8_settledDay cX8_settledDay 3 (some .int) :: ((wsX8_settledDay_r1 ++ (wsX8_settledDay_r2 ++ (wsX8_settledDay_r3 ++ wsX8_settledDay_r4))) ++ wsX80 ++ wsX30 ++ wsX60 ++ (vx_atS RX8 208 "java/lang/IndexOutOfBoundsException" ["java/lang/RuntimeException", "java/lang/Exception"]).filter goodWord)
def wsX8_eclipse : List Cond := .code yX8_eclipse cX8_eclipse 2 (some .int) :: ([.classLink RX8 54 "java/lang/IllegalArgumentException", .initialized "java/lang/IllegalArgumentException", .constant RX8 172 (10000000), .fieldLink RX8 43 "StoneDates" "sky" "LStoneDates$Sky;", .methodLink RX8 175 yX5_add, .instanceMethod yX5_add, .selects RX5 yX5_add yX5_add, .initialized RX5, .code yX5_add cX5_add 4 (some .int), .fieldLink RX5 35 "StoneDates$Sky" "size" "I", .fieldLink RX5 9 "StoneDates$Sky" "eclipses" "[I", .methodLink RX5 38 arraycopyName, .native arraycopyName, .static arraycopyName, .initialized "java/lang/System", .fieldLink RX5 31 "StoneDates$Sky" "solvedNear" "I"] ++ wsX80 ++ wsX50 ++ (vx_atS RX8 58 "java/lang/IllegalArgumentException" ["java/lang/RuntimeException", "java/lang/Exception"]).filter goodWord)
def wsX8_names : List Cond := .code yX8_names cX8_names 4 (some .boolean) :: ([.classLink RX8 61 "java/lang/IllegalStateException", .initialized "java/lang/IllegalStateException", .fieldLink RX8 140 "StoneDates$Stone" "many" "I", .fieldLink RX8 141 "StoneDates$Stone" "days" "[I", .fieldLink RX8 43 "StoneDates" "sky" "LStoneDates$Sky;", .methodLink RX8 136 yX8_stoneAt, .instanceMethod yX8_stoneAt, .selects RX8 yX8_stoneAt yX8_stoneAt, .initialized RX8, .code yX8_stoneAt cX8_stoneAt 3 (some (.object "StoneDates$Stone")), .classLink RX8 204 "java/lang/IndexOutOfBoundsException", .initialized "java/lang/IndexOutOfBoundsException", .fieldLink RX8 51 "StoneDates" "stoneCount" "I", .fieldLink RX8 15 "StoneDates" "stones" "[LStoneDates$Stone;", .methodLink RX8 179 yX5_tell, .instanceMethod yX5_tell, .selects RX5 yX5_tell yX5_tell, .initialized RX5, .code yX5_tell cX5_tell 5 (some .boolean), .fieldLink RX5 15 "StoneDates$Sky" "isNaming" "[Z", .fieldLink RX5 19 "StoneDates$Sky" "dayOf" "[I", .fieldLink RX5 44 "StoneDates$Sky" "naming" "I", .fieldLink RX5 31 "StoneDates$Sky" "solvedNear" "I"] ++ wsX60 ++ wsX80 ++ wsX50 ++ (vx_atS RX8 65 "java/lang/IllegalStateException" ["java/lang/RuntimeException", "java/lang/Exception"]).filter goodWord ++ (vx_atS RX8 208 "java/lang/IndexOutOfBoundsException" ["java/lang/RuntimeException", "java/lang/Exception"]).filter goodWord)
def wsX8_solveSky_r1 : List Cond := [Cond.classLink RX8 54 "java/lang/IllegalArgumentException", Cond.initialized "java/lang/IllegalArgumentException", Cond.classLink RX8 61 "java/lang/IllegalStateException", Cond.initialized "java/lang/IllegalStateException", Cond.fieldLink RX8 43 "StoneDates" "sky" "LStoneDates$Sky;", Cond.fieldLink RX8 192 "StoneDates$Sky" "size" "I", Cond.fieldLink RX8 193 "StoneDates$Sky" "naming" "I", Cond.methodLink RX8 215 yX5_solve, Cond.instanceMethod yX5_solve, Cond.selects RX5 yX5_solve yX5_solve, Cond.initialized RX5, Cond.code yX5_solve cX5_solve 8 none, Cond.fieldLink RX5 31 "StoneDates$Sky" "solvedNear" "I", Cond.fieldLink RX5 55 "StoneDates$Sky" "agreeing" "I", Cond.fieldLink RX5 58 "StoneDates$Sky" "slope" "I", Cond.fieldLink RX5 61 "StoneDates$Sky" "height" "J", Cond.fieldLink RX5 65 "StoneDates$Sky" "bestAgreeing" "I", Cond.fieldLink RX5 35 "StoneDates$Sky" "size" "I", Cond.fieldLink RX5 22 "StoneDates$Sky" "turns" "[I", Cond.fieldLink RX5 28 "StoneDates$Sky" "next" "[I", Cond.fieldLink RX5 25 "StoneDates$Sky" "dates" "[I", Cond.methodLink RX5 47 yX5_placeTurns, Cond.instanceMethod yX5_placeTurns, Cond.selects RX5 yX5_placeTurns yX5_placeTurns]
def wsX8_solveSky_r2 : List Cond := [Cond.code yX5_placeTurns cX5_placeTurns 5 none, Cond.fieldLink RX5 9 "StoneDates$Sky" "eclipses" "[I", Cond.methodLink RX5 78 Lib.Math.max.name, Cond.static Lib.Math.max.name, Cond.initialized "java/lang/Math", Cond.code Lib.Math.max.name Lib.Math.max.code 2 (some .int), Cond.methodLink RX5 84 Lib.Math.min.name, Cond.static Lib.Math.min.name, Cond.code Lib.Math.min.name Lib.Math.min.code 2 (some .int), Cond.methodLink RX5 51 yX5_gatherDates, Cond.instanceMethod yX5_gatherDates, Cond.selects RX5 yX5_gatherDates yX5_gatherDates, Cond.code yX5_gatherDates cX5_gatherDates 3 (some .int), Cond.fieldLink RX5 15 "StoneDates$Sky" "isNaming" "[Z", Cond.fieldLink RX5 19 "StoneDates$Sky" "dayOf" "[I", Cond.methodLink RX5 68 yX5_firstToTurn, Cond.instanceMethod yX5_firstToTurn, Cond.selects RX5 yX5_firstToTurn yX5_firstToTurn, Cond.code yX5_firstToTurn cX5_firstToTurn 6 (some .int), Cond.methodLink RX5 72 yX5_consider, Cond.instanceMethod yX5_consider, Cond.selects RX5 yX5_consider yX5_consider, Cond.code yX5_consider cX5_consider 4 none, Cond.fieldLink RX5 89 "StoneDates$Sky" "bestSum" "J"]
def wsX8_solveSky_r3 : List Cond := [Cond.fieldLink RX5 92 "StoneDates$Sky" "bestStart" "I", Cond.methodLink RX5 75 yX5_turn, Cond.instanceMethod yX5_turn, Cond.selects RX5 yX5_turn yX5_turn, Cond.code yX5_turn cX5_turn 4 none, Cond.constantLong RX5 87 (2)]
def wsX8_solveSky : List Cond := .code yX8_solveSky cX8_solveSky 2 none :: ((wsX8_solveSky_r1 ++ (wsX8_solveSky_r2 ++ wsX8_solveSky_r3)) ++ wsX80 ++ wsX50 ++ (vx_atS RX8 58 "java/lang/IllegalArgumentException" ["java/lang/RuntimeException", "java/lang/Exception"]).filter goodWord ++ (vx_atS RX8 65 "java/lang/IllegalStateException" ["java/lang/RuntimeException", "java/lang/Exception"]).filter goodWord)
def wsX8_start_r1 : List Cond := [Cond.fieldLink RX8 43 "StoneDates" "sky" "LStoneDates$Sky;", Cond.fieldLink RX8 186 "StoneDates$Sky" "bestStart" "I", Cond.methodLink RX8 183 yX8_solveSky, Cond.instanceMethod yX8_solveSky, Cond.selects RX8 yX8_solveSky yX8_solveSky, Cond.initialized RX8, Cond.code yX8_solveSky cX8_solveSky 2 none, Cond.classLink RX8 54 "java/lang/IllegalArgumentException", Cond.initialized "java/lang/IllegalArgumentException", Cond.classLink RX8 61 "java/lang/IllegalStateException", Cond.initialized "java/lang/IllegalStateException", Cond.fieldLink RX8 192 "StoneDates$Sky" "size" "I", Cond.fieldLink RX8 193 "StoneDates$Sky" "naming" "I", Cond.methodLink RX8 215 yX5_solve, Cond.instanceMethod yX5_solve, Cond.selects RX5 yX5_solve yX5_solve, Cond.initialized RX5, Cond.code yX5_solve cX5_solve 8 none, Cond.fieldLink RX5 31 "StoneDates$Sky" "solvedNear" "I", Cond.fieldLink RX5 55 "StoneDates$Sky" "agreeing" "I", Cond.fieldLink RX5 58 "StoneDates$Sky" "slope" "I", Cond.fieldLink RX5 61 "StoneDates$Sky" "height" "J", Cond.fieldLink RX5 65 "StoneDates$Sky" "bestAgreeing" "I", Cond.fieldLink RX5 35 "StoneDates$Sky" "size" "I"]
def wsX8_start_r2 : List Cond := [Cond.fieldLink RX5 22 "StoneDates$Sky" "turns" "[I", Cond.fieldLink RX5 28 "StoneDates$Sky" "next" "[I", Cond.fieldLink RX5 25 "StoneDates$Sky" "dates" "[I", Cond.methodLink RX5 47 yX5_placeTurns, Cond.instanceMethod yX5_placeTurns, Cond.selects RX5 yX5_placeTurns yX5_placeTurns, Cond.code yX5_placeTurns cX5_placeTurns 5 none, Cond.fieldLink RX5 9 "StoneDates$Sky" "eclipses" "[I", Cond.methodLink RX5 78 Lib.Math.max.name, Cond.static Lib.Math.max.name, Cond.initialized "java/lang/Math", Cond.code Lib.Math.max.name Lib.Math.max.code 2 (some .int), Cond.methodLink RX5 84 Lib.Math.min.name, Cond.static Lib.Math.min.name, Cond.code Lib.Math.min.name Lib.Math.min.code 2 (some .int), Cond.methodLink RX5 51 yX5_gatherDates, Cond.instanceMethod yX5_gatherDates, Cond.selects RX5 yX5_gatherDates yX5_gatherDates, Cond.code yX5_gatherDates cX5_gatherDates 3 (some .int), Cond.fieldLink RX5 15 "StoneDates$Sky" "isNaming" "[Z", Cond.fieldLink RX5 19 "StoneDates$Sky" "dayOf" "[I", Cond.methodLink RX5 68 yX5_firstToTurn, Cond.instanceMethod yX5_firstToTurn, Cond.selects RX5 yX5_firstToTurn yX5_firstToTurn]
def wsX8_start_r3 : List Cond := [Cond.code yX5_firstToTurn cX5_firstToTurn 6 (some .int), Cond.methodLink RX5 72 yX5_consider, Cond.instanceMethod yX5_consider, Cond.selects RX5 yX5_consider yX5_consider, Cond.code yX5_consider cX5_consider 4 none, Cond.fieldLink RX5 89 "StoneDates$Sky" "bestSum" "J", Cond.fieldLink RX5 92 "StoneDates$Sky" "bestStart" "I", Cond.methodLink RX5 75 yX5_turn, Cond.instanceMethod yX5_turn, Cond.selects RX5 yX5_turn yX5_turn, Cond.code yX5_turn cX5_turn 4 none, Cond.constantLong RX5 87 (2)]
def wsX8_start : List Cond := .code yX8_start cX8_start 2 (some .int) :: ((wsX8_start_r1 ++ (wsX8_start_r2 ++ wsX8_start_r3)) ++ wsX80 ++ wsX50 ++ (vx_atS RX8 58 "java/lang/IllegalArgumentException" ["java/lang/RuntimeException", "java/lang/Exception"]).filter goodWord ++ (vx_atS RX8 65 "java/lang/IllegalStateException" ["java/lang/RuntimeException", "java/lang/Exception"]).filter goodWord)
def wsX8_agrees_r1 : List Cond := [Cond.fieldLink RX8 43 "StoneDates" "sky" "LStoneDates$Sky;", Cond.fieldLink RX8 189 "StoneDates$Sky" "bestAgreeing" "I", Cond.methodLink RX8 183 yX8_solveSky, Cond.instanceMethod yX8_solveSky, Cond.selects RX8 yX8_solveSky yX8_solveSky, Cond.initialized RX8, Cond.code yX8_solveSky cX8_solveSky 2 none, Cond.classLink RX8 54 "java/lang/IllegalArgumentException", Cond.initialized "java/lang/IllegalArgumentException", Cond.classLink RX8 61 "java/lang/IllegalStateException", Cond.initialized "java/lang/IllegalStateException", Cond.fieldLink RX8 192 "StoneDates$Sky" "size" "I", Cond.fieldLink RX8 193 "StoneDates$Sky" "naming" "I", Cond.methodLink RX8 215 yX5_solve, Cond.instanceMethod yX5_solve, Cond.selects RX5 yX5_solve yX5_solve, Cond.initialized RX5, Cond.code yX5_solve cX5_solve 8 none, Cond.fieldLink RX5 31 "StoneDates$Sky" "solvedNear" "I", Cond.fieldLink RX5 55 "StoneDates$Sky" "agreeing" "I", Cond.fieldLink RX5 58 "StoneDates$Sky" "slope" "I", Cond.fieldLink RX5 61 "StoneDates$Sky" "height" "J", Cond.fieldLink RX5 65 "StoneDates$Sky" "bestAgreeing" "I", Cond.fieldLink RX5 35 "StoneDates$Sky" "size" "I"]
def wsX8_agrees_r2 : List Cond := [Cond.fieldLink RX5 22 "StoneDates$Sky" "turns" "[I", Cond.fieldLink RX5 28 "StoneDates$Sky" "next" "[I", Cond.fieldLink RX5 25 "StoneDates$Sky" "dates" "[I", Cond.methodLink RX5 47 yX5_placeTurns, Cond.instanceMethod yX5_placeTurns, Cond.selects RX5 yX5_placeTurns yX5_placeTurns, Cond.code yX5_placeTurns cX5_placeTurns 5 none, Cond.fieldLink RX5 9 "StoneDates$Sky" "eclipses" "[I", Cond.methodLink RX5 78 Lib.Math.max.name, Cond.static Lib.Math.max.name, Cond.initialized "java/lang/Math", Cond.code Lib.Math.max.name Lib.Math.max.code 2 (some .int), Cond.methodLink RX5 84 Lib.Math.min.name, Cond.static Lib.Math.min.name, Cond.code Lib.Math.min.name Lib.Math.min.code 2 (some .int), Cond.methodLink RX5 51 yX5_gatherDates, Cond.instanceMethod yX5_gatherDates, Cond.selects RX5 yX5_gatherDates yX5_gatherDates, Cond.code yX5_gatherDates cX5_gatherDates 3 (some .int), Cond.fieldLink RX5 15 "StoneDates$Sky" "isNaming" "[Z", Cond.fieldLink RX5 19 "StoneDates$Sky" "dayOf" "[I", Cond.methodLink RX5 68 yX5_firstToTurn, Cond.instanceMethod yX5_firstToTurn, Cond.selects RX5 yX5_firstToTurn yX5_firstToTurn]
def wsX8_agrees_r3 : List Cond := [Cond.code yX5_firstToTurn cX5_firstToTurn 6 (some .int), Cond.methodLink RX5 72 yX5_consider, Cond.instanceMethod yX5_consider, Cond.selects RX5 yX5_consider yX5_consider, Cond.code yX5_consider cX5_consider 4 none, Cond.fieldLink RX5 89 "StoneDates$Sky" "bestSum" "J", Cond.fieldLink RX5 92 "StoneDates$Sky" "bestStart" "I", Cond.methodLink RX5 75 yX5_turn, Cond.instanceMethod yX5_turn, Cond.selects RX5 yX5_turn yX5_turn, Cond.code yX5_turn cX5_turn 4 none, Cond.constantLong RX5 87 (2)]
def wsX8_agrees : List Cond := .code yX8_agrees cX8_agrees 2 (some .int) :: ((wsX8_agrees_r1 ++ (wsX8_agrees_r2 ++ wsX8_agrees_r3)) ++ wsX80 ++ wsX50 ++ (vx_atS RX8 58 "java/lang/IllegalArgumentException" ["java/lang/RuntimeException", "java/lang/Exception"]).filter goodWord ++ (vx_atS RX8 65 "java/lang/IllegalStateException" ["java/lang/RuntimeException", "java/lang/Exception"]).filter goodWord)
def wsX8_count : List Cond := .code yX8_count cX8_count 2 (some .int) :: ([.fieldLink RX8 47 "StoneDates" "townCount" "I", .fieldLink RX8 51 "StoneDates" "stoneCount" "I", .fieldLink RX8 36 "StoneDates" "net" "LStoneDates$Net;", .fieldLink RX8 149 "StoneDates$Net" "size" "I", .fieldLink RX8 43 "StoneDates" "sky" "LStoneDates$Sky;", .fieldLink RX8 192 "StoneDates$Sky" "size" "I", .fieldLink RX8 193 "StoneDates$Sky" "naming" "I", .fieldLink RX8 22 "StoneDates" "reader" "LStoneDates$Reader;", .fieldLink RX8 88 "StoneDates$Reader" "size" "I", .fieldLink RX8 196 "StoneDates$Net" "memberCount" "I"] ++ wsX80 ++ wsX30 ++ wsX50 ++ wsX40)
def wsX9_init : List Cond := .code yX9_init cX9_init 1 none :: ([.methodLink RX9 1 objectInit, .instanceMethod objectInit, .code objectInit ⟨#[0xb1]⟩ 1 none, .arrayClass .int, .fieldLink RX9 9 "StoneDatesModel" "bases" "[I", .arrayClass .byte, .fieldLink RX9 13 "StoneDatesModel" "tape" "[B", .arrayClass .long, .fieldLink RX9 17 "StoneDatesModel" "low" "[J", .fieldLink RX9 21 "StoneDatesModel" "high" "[J", .fieldLink RX9 24 "StoneDatesModel" "townOf" "[I", .fieldLink RX9 27 "StoneDatesModel" "many" "[I", .fieldLink RX9 30 "StoneDatesModel" "days" "[I", .fieldLink RX9 33 "StoneDatesModel" "fromOf" "[I", .fieldLink RX9 36 "StoneDatesModel" "toOf" "[I", .fieldLink RX9 39 "StoneDatesModel" "farOf" "[I", .fieldLink RX9 42 "StoneDatesModel" "asked" "[I", .fieldLink RX9 45 "StoneDatesModel" "part" "[I", .fieldLink RX9 48 "StoneDatesModel" "off" "[I", .arrayClass .boolean, .fieldLink RX9 51 "StoneDatesModel" "isSettled" "[Z", .fieldLink RX9 55 "StoneDatesModel" "eclipses" "[I", .fieldLink RX9 58 "StoneDatesModel" "isNamed" "[Z"] ++ wsX90)
def wsX9_thrown : List Cond := .code yX9_thrown cX9_thrown 1 (some .int) :: ([.fieldLink RX9 61 "StoneDatesModel" "thrown" "I"] ++ wsX90)
def wsX9_bad : List Cond := .code yX9_bad cX9_bad 3 (some .boolean) :: ([.fieldLink RX9 61 "StoneDatesModel" "thrown" "I"] ++ wsX90)
def wsX9_town : List Cond := .code yX9_town cX9_town 2 (some .int) :: ([.fieldLink RX9 61 "StoneDatesModel" "thrown" "I", .fieldLink RX9 69 "StoneDatesModel" "towns" "I", .fieldLink RX9 9 "StoneDatesModel" "bases" "[I", .methodLink RX9 65 yX9_bad, .instanceMethod yX9_bad, .selects RX9 yX9_bad yX9_bad, .initialized RX9, .code yX9_bad cX9_bad 3 (some .boolean)] ++ wsX90)
def wsX9_isDay : List Cond := .code yX9_isDay cX9_isDay 1 (some .boolean) :: ([.constant RX9 72 (1152000), .constant RX9 73 (1583999)])
def wsX9_moonOf : List Cond := .code yX9_moonOf cX9_moonOf 2 (some .int) :: ([.constantLong RX9 74 (149), .constantLong RX9 76 (4400)])
def wsX9_valueOf : List Cond := .code yX9_valueOf cX9_valueOf 2 (some .int) :: ([.constant RX9 78 (144000)])
def wsX9_of : List Cond := .code yX9_of cX9_of 3 (some .int) :: ([.fieldLink RX9 61 "StoneDatesModel" "thrown" "I", .methodLink RX9 79 yX9_isDay, .static yX9_isDay, .initialized RX9, .code yX9_isDay cX9_isDay 1 (some .boolean), .constant RX9 72 (1152000), .constant RX9 73 (1583999), .methodLink RX9 65 yX9_bad, .instanceMethod yX9_bad, .selects RX9 yX9_bad yX9_bad, .code yX9_bad cX9_bad 3 (some .boolean), .methodLink RX9 83 yX9_valueOf, .static yX9_valueOf, .code yX9_valueOf cX9_valueOf 2 (some .int), .constant RX9 78 (144000)] ++ wsX90)
def wsX9_moon : List Cond := .code yX9_moon cX9_moon 3 (some .int) :: ([.fieldLink RX9 61 "StoneDatesModel" "thrown" "I", .fieldLink RX9 69 "StoneDatesModel" "towns" "I", .fieldLink RX9 9 "StoneDatesModel" "bases" "[I", .methodLink RX9 79 yX9_isDay, .static yX9_isDay, .initialized RX9, .code yX9_isDay cX9_isDay 1 (some .boolean), .constant RX9 72 (1152000), .constant RX9 73 (1583999), .methodLink RX9 65 yX9_bad, .instanceMethod yX9_bad, .selects RX9 yX9_bad yX9_bad, .code yX9_bad cX9_bad 3 (some .boolean), .methodLink RX9 87 yX9_moonOf, .static yX9_moonOf, .code yX9_moonOf cX9_moonOf 2 (some .int), .constantLong RX9 74 (149), .constantLong RX9 76 (4400)] ++ wsX90)
def wsX9_feed : List Cond := .code yX9_feed cX9_feed 9 (some .int) :: ([.fieldLink RX9 61 "StoneDatesModel" "thrown" "I", .fieldLink RX9 90 "StoneDatesModel" "taped" "I", .fieldLink RX9 13 "StoneDatesModel" "tape" "[B"] ++ wsX90)
def wsX9_byteAt : List Cond := .code yX9_byteAt cX9_byteAt 2 (some .int) :: ([.fieldLink RX9 93 "StoneDatesModel" "size" "I", .fieldLink RX9 13 "StoneDatesModel" "tape" "[B"] ++ wsX90)
def wsX9_blanks : List Cond := .code yX9_blanks cX9_blanks 1 none :: ([.fieldLink RX9 96 "StoneDatesModel" "at" "I", .fieldLink RX9 93 "StoneDatesModel" "size" "I", .methodLink RX9 99 yX9_byteAt, .instanceMethod yX9_byteAt, .selects RX9 yX9_byteAt yX9_byteAt, .initialized RX9, .code yX9_byteAt cX9_byteAt 2 (some .int), .fieldLink RX9 13 "StoneDatesModel" "tape" "[B"] ++ wsX90)
def wsX9_isWord_r1 : List Cond := [Cond.fieldLink RX9 96 "StoneDatesModel" "at" "I", Cond.methodLink RX9 103 yX9_blanks, Cond.instanceMethod yX9_blanks, Cond.selects RX9 yX9_blanks yX9_blanks, Cond.initialized RX9, Cond.code yX9_blanks cX9_blanks 1 none, Cond.fieldLink RX9 93 "StoneDatesModel" "size" "I", Cond.methodLink RX9 99 yX9_byteAt, Cond.instanceMethod yX9_byteAt, Cond.selects RX9 yX9_byteAt yX9_byteAt, Cond.code yX9_byteAt cX9_byteAt 2 (some .int), Cond.fieldLink RX9 13 "StoneDatesModel" "tape" "[B", Cond.methodLink RX9 106 yJ0_length_8abf5, Cond.instanceMethod yJ0_length_8abf5, Cond.selects RJ0 yJ0_length_8abf5 yJ0_length_8abf5, Cond.initialized RJ0, Cond.code yJ0_length_8abf5 cJ0_length_8abf5 1 (some .int), Cond.fieldLink RJ0 9 "java/lang/String" "value" "[B", Cond.methodLink RJ0 335 yJ0_coder_7d493, Cond.instanceMethod yJ0_coder_7d493, Cond.selects RJ0 yJ0_coder_7d493 yJ0_coder_7d493, Cond.code yJ0_coder_7d493 cJ0_coder_7d493 1 (some .byte), Cond.fieldLink RJ0 38 "java/lang/String" "COMPACT_STRINGS" "Z", Cond.fieldLink RJ0 15 "java/lang/String" "coder" "B"]
def wsX9_isWord_r2 : List Cond := [Cond.methodLink RX9 112 yJ0_charAt_5068e, Cond.instanceMethod yJ0_charAt_5068e, Cond.selects RJ0 yJ0_charAt_5068e yJ0_charAt_5068e, Cond.code yJ0_charAt_5068e cJ0_charAt_5068e 2 (some .char), Cond.methodLink RJ0 492 yJ0_isLatin1_aae02, Cond.instanceMethod yJ0_isLatin1_aae02, Cond.selects RJ0 yJ0_isLatin1_aae02 yJ0_isLatin1_aae02, Cond.code yJ0_isLatin1_aae02 cJ0_isLatin1_aae02 1 (some .boolean), Cond.methodLink RJ0 495 yJ1_charAt_3b067, Cond.static yJ1_charAt_3b067, Cond.initialized RJ1, Cond.code yJ1_charAt_3b067 cJ1_charAt_3b067 2 (some .char), Cond.methodLink RJ1 9 yJ0_checkIndex_df160, Cond.static yJ0_checkIndex_df160, Cond.code yJ0_checkIndex_df160 cJ0_checkIndex_df160 2 none, Cond.fieldLink RJ0 1053 "jdk/internal/util/Preconditions" "SIOOBE_FORMATTER" "Ljava/util/function/BiFunction;", Cond.methodLink RJ0 1059 yJ3_checkIndex_8e157, Cond.static yJ3_checkIndex_8e157, Cond.initialized RJ3, Cond.code yJ3_checkIndex_8e157 cJ3_checkIndex_8e157 3 (some .int), Cond.methodLink RJ0 498 yJ2_charAt_3b067, Cond.static yJ2_charAt_3b067, Cond.initialized RJ2, Cond.code yJ2_charAt_3b067 cJ2_charAt_3b067 2 (some .char)]
def wsX9_isWord_r3 : List Cond := [Cond.methodLink RJ2 67 yJ2_checkIndex_2214a, Cond.static yJ2_checkIndex_2214a, Cond.code yJ2_checkIndex_2214a cJ2_checkIndex_2214a 2 none, Cond.methodLink RJ2 48 yJ2_length_9d52b, Cond.static yJ2_length_9d52b, Cond.code yJ2_length_9d52b cJ2_length_9d52b 1 (some .int), Cond.methodLink RJ2 414 yJ0_checkIndex_df160, Cond.methodLink RJ2 71 yJ2_getChar_3b067, Cond.static yJ2_getChar_3b067, Cond.code yJ2_getChar_3b067 cJ2_getChar_3b067 2 (some .char), Cond.fieldLink RJ2 44 "java/lang/StringUTF16" "$assertionsDisabled" "Z", Cond.fieldLink RJ2 59 "java/lang/StringUTF16" "HI_BYTE_SHIFT" "I", Cond.fieldLink RJ2 63 "java/lang/StringUTF16" "LO_BYTE_SHIFT" "I"]
def wsX9_isWord : List Cond := .code yX9_isWord cX9_isWord 3 (some .boolean) :: ((wsX9_isWord_r1 ++ (wsX9_isWord_r2 ++ wsX9_isWord_r3)) ++ wsX90)
def wsX9_wordOf : List Cond := .code yX9_wordOf cX9_wordOf 1 (some (.object "java/lang/String")) :: ([])
def wsX9_clauseHere_r1 : List Cond := [Cond.methodLink RX9 130 yX9_wordOf, Cond.static yX9_wordOf, Cond.initialized RX9, Cond.code yX9_wordOf cX9_wordOf 1 (some (.object "java/lang/String")), Cond.methodLink RX9 134 yX9_isWord, Cond.instanceMethod yX9_isWord, Cond.selects RX9 yX9_isWord yX9_isWord, Cond.code yX9_isWord cX9_isWord 3 (some .boolean), Cond.fieldLink RX9 96 "StoneDatesModel" "at" "I", Cond.methodLink RX9 103 yX9_blanks, Cond.instanceMethod yX9_blanks, Cond.selects RX9 yX9_blanks yX9_blanks, Cond.code yX9_blanks cX9_blanks 1 none, Cond.fieldLink RX9 93 "StoneDatesModel" "size" "I", Cond.methodLink RX9 99 yX9_byteAt, Cond.instanceMethod yX9_byteAt, Cond.selects RX9 yX9_byteAt yX9_byteAt, Cond.code yX9_byteAt cX9_byteAt 2 (some .int), Cond.fieldLink RX9 13 "StoneDatesModel" "tape" "[B", Cond.methodLink RX9 106 yJ0_length_8abf5, Cond.instanceMethod yJ0_length_8abf5, Cond.selects RJ0 yJ0_length_8abf5 yJ0_length_8abf5, Cond.initialized RJ0, Cond.code yJ0_length_8abf5 cJ0_length_8abf5 1 (some .int)]
def wsX9_clauseHere_r2 : List Cond := [Cond.fieldLink RJ0 9 "java/lang/String" "value" "[B", Cond.methodLink RJ0 335 yJ0_coder_7d493, Cond.instanceMethod yJ0_coder_7d493, Cond.selects RJ0 yJ0_coder_7d493 yJ0_coder_7d493, Cond.code yJ0_coder_7d493 cJ0_coder_7d493 1 (some .byte), Cond.fieldLink RJ0 38 "java/lang/String" "COMPACT_STRINGS" "Z", Cond.fieldLink RJ0 15 "java/lang/String" "coder" "B", Cond.methodLink RX9 112 yJ0_charAt_5068e, Cond.instanceMethod yJ0_charAt_5068e, Cond.selects RJ0 yJ0_charAt_5068e yJ0_charAt_5068e, Cond.code yJ0_charAt_5068e cJ0_charAt_5068e 2 (some .char), Cond.methodLink RJ0 492 yJ0_isLatin1_aae02, Cond.instanceMethod yJ0_isLatin1_aae02, Cond.selects RJ0 yJ0_isLatin1_aae02 yJ0_isLatin1_aae02, Cond.code yJ0_isLatin1_aae02 cJ0_isLatin1_aae02 1 (some .boolean), Cond.methodLink RJ0 495 yJ1_charAt_3b067, Cond.static yJ1_charAt_3b067, Cond.initialized RJ1, Cond.code yJ1_charAt_3b067 cJ1_charAt_3b067 2 (some .char), Cond.methodLink RJ1 9 yJ0_checkIndex_df160, Cond.static yJ0_checkIndex_df160, Cond.code yJ0_checkIndex_df160 cJ0_checkIndex_df160 2 none, Cond.fieldLink RJ0 1053 "jdk/internal/util/Preconditions" "SIOOBE_FORMATTER" "Ljava/util/function/BiFunction;", Cond.methodLink RJ0 1059 yJ3_checkIndex_8e157]
def wsX9_clauseHere_r3 : List Cond := [Cond.static yJ3_checkIndex_8e157, Cond.initialized RJ3, Cond.code yJ3_checkIndex_8e157 cJ3_checkIndex_8e157 3 (some .int), Cond.methodLink RJ0 498 yJ2_charAt_3b067, Cond.static yJ2_charAt_3b067, Cond.initialized RJ2, Cond.code yJ2_charAt_3b067 cJ2_charAt_3b067 2 (some .char), Cond.methodLink RJ2 67 yJ2_checkIndex_2214a, Cond.static yJ2_checkIndex_2214a, Cond.code yJ2_checkIndex_2214a cJ2_checkIndex_2214a 2 none, Cond.methodLink RJ2 48 yJ2_length_9d52b, Cond.static yJ2_length_9d52b, Cond.code yJ2_length_9d52b cJ2_length_9d52b 1 (some .int), Cond.methodLink RJ2 414 yJ0_checkIndex_df160, Cond.methodLink RJ2 71 yJ2_getChar_3b067, Cond.static yJ2_getChar_3b067, Cond.code yJ2_getChar_3b067 cJ2_getChar_3b067 2 (some .char), Cond.fieldLink RJ2 44 "java/lang/StringUTF16" "$assertionsDisabled" "Z", Cond.fieldLink RJ2 59 "java/lang/StringUTF16" "HI_BYTE_SHIFT" "I", Cond.fieldLink RJ2 63 "java/lang/StringUTF16" "LO_BYTE_SHIFT" "I"]
def wsX9_clauseHere : List Cond := .code yX9_clauseHere cX9_clauseHere 2 (some .int) :: ((wsX9_clauseHere_r1 ++ (wsX9_clauseHere_r2 ++ wsX9_clauseHere_r3)) ++ wsX90)
def wsX9_eat : List Cond := .code yX9_eat cX9_eat 3 (some .boolean) :: ([.fieldLink RX9 138 "StoneDatesModel" "isWrong" "Z", .fieldLink RX9 96 "StoneDatesModel" "at" "I", .fieldLink RX9 93 "StoneDatesModel" "size" "I", .methodLink RX9 103 yX9_blanks, .instanceMethod yX9_blanks, .selects RX9 yX9_blanks yX9_blanks, .initialized RX9, .code yX9_blanks cX9_blanks 1 none, .methodLink RX9 99 yX9_byteAt, .instanceMethod yX9_byteAt, .selects RX9 yX9_byteAt yX9_byteAt, .code yX9_byteAt cX9_byteAt 2 (some .int), .fieldLink RX9 13 "StoneDatesModel" "tape" "[B"] ++ wsX90)
def wsX9_number : List Cond := .code yX9_number cX9_number 3 (some .int) :: ([.fieldLink RX9 138 "StoneDatesModel" "isWrong" "Z", .fieldLink RX9 96 "StoneDatesModel" "at" "I", .methodLink RX9 103 yX9_blanks, .instanceMethod yX9_blanks, .selects RX9 yX9_blanks yX9_blanks, .initialized RX9, .code yX9_blanks cX9_blanks 1 none, .fieldLink RX9 93 "StoneDatesModel" "size" "I", .methodLink RX9 99 yX9_byteAt, .instanceMethod yX9_byteAt, .selects RX9 yX9_byteAt yX9_byteAt, .code yX9_byteAt cX9_byteAt 2 (some .int), .fieldLink RX9 13 "StoneDatesModel" "tape" "[B"] ++ wsX90)
def wsX9_some : List Cond := .code yX9_some cX9_some 5 none :: ([.fieldLink RX9 142 "StoneDatesModel" "someLow" "J", .fieldLink RX9 146 "StoneDatesModel" "someHigh" "J", .constantLong RX9 152 (-1), .fieldLink RX9 138 "StoneDatesModel" "isWrong" "Z", .fieldLink RX9 96 "StoneDatesModel" "at" "I", .methodLink RX9 149 yX9_eat, .instanceMethod yX9_eat, .selects RX9 yX9_eat yX9_eat, .initialized RX9, .code yX9_eat cX9_eat 3 (some .boolean), .fieldLink RX9 93 "StoneDatesModel" "size" "I", .methodLink RX9 103 yX9_blanks, .instanceMethod yX9_blanks, .selects RX9 yX9_blanks yX9_blanks, .code yX9_blanks cX9_blanks 1 none, .methodLink RX9 99 yX9_byteAt, .instanceMethod yX9_byteAt, .selects RX9 yX9_byteAt yX9_byteAt, .code yX9_byteAt cX9_byteAt 2 (some .int), .fieldLink RX9 13 "StoneDatesModel" "tape" "[B", .methodLink RX9 154 yX9_number, .instanceMethod yX9_number, .selects RX9 yX9_number yX9_number, .code yX9_number cX9_number 3 (some .int)] ++ wsX90)
def wsX9_allows_r1 : List Cond := [Cond.fieldLink RX9 17 "StoneDatesModel" "low" "[J", Cond.fieldLink RX9 142 "StoneDatesModel" "someLow" "J", Cond.fieldLink RX9 21 "StoneDatesModel" "high" "[J", Cond.fieldLink RX9 146 "StoneDatesModel" "someHigh" "J", Cond.methodLink RX9 156 yX9_some, Cond.instanceMethod yX9_some, Cond.selects RX9 yX9_some yX9_some, Cond.initialized RX9, Cond.code yX9_some cX9_some 5 none, Cond.constantLong RX9 152 (-1), Cond.fieldLink RX9 138 "StoneDatesModel" "isWrong" "Z", Cond.fieldLink RX9 96 "StoneDatesModel" "at" "I", Cond.methodLink RX9 149 yX9_eat, Cond.instanceMethod yX9_eat, Cond.selects RX9 yX9_eat yX9_eat, Cond.code yX9_eat cX9_eat 3 (some .boolean), Cond.fieldLink RX9 93 "StoneDatesModel" "size" "I", Cond.methodLink RX9 103 yX9_blanks, Cond.instanceMethod yX9_blanks, Cond.selects RX9 yX9_blanks yX9_blanks, Cond.code yX9_blanks cX9_blanks 1 none, Cond.methodLink RX9 99 yX9_byteAt, Cond.instanceMethod yX9_byteAt, Cond.selects RX9 yX9_byteAt yX9_byteAt]
def wsX9_allows_r2 : List Cond := [Cond.code yX9_byteAt cX9_byteAt 2 (some .int), Cond.fieldLink RX9 13 "StoneDatesModel" "tape" "[B", Cond.methodLink RX9 154 yX9_number, Cond.instanceMethod yX9_number, Cond.selects RX9 yX9_number yX9_number, Cond.code yX9_number cX9_number 3 (some .int)]
def wsX9_allows : List Cond := .code yX9_allows cX9_allows 3 none :: ((wsX9_allows_r1 ++ wsX9_allows_r2) ++ wsX90)
def wsX9_clause_r1 : List Cond := [Cond.fieldLink RX9 96 "StoneDatesModel" "at" "I", Cond.fieldLink RX9 138 "StoneDatesModel" "isWrong" "Z", Cond.methodLink RX9 130 yX9_wordOf, Cond.static yX9_wordOf, Cond.initialized RX9, Cond.code yX9_wordOf cX9_wordOf 1 (some (.object "java/lang/String")), Cond.methodLink RX9 106 yJ0_length_8abf5, Cond.instanceMethod yJ0_length_8abf5, Cond.selects RJ0 yJ0_length_8abf5 yJ0_length_8abf5, Cond.initialized RJ0, Cond.code yJ0_length_8abf5 cJ0_length_8abf5 1 (some .int), Cond.fieldLink RJ0 9 "java/lang/String" "value" "[B", Cond.methodLink RJ0 335 yJ0_coder_7d493, Cond.instanceMethod yJ0_coder_7d493, Cond.selects RJ0 yJ0_coder_7d493 yJ0_coder_7d493, Cond.code yJ0_coder_7d493 cJ0_coder_7d493 1 (some .byte), Cond.fieldLink RJ0 38 "java/lang/String" "COMPACT_STRINGS" "Z", Cond.fieldLink RJ0 15 "java/lang/String" "coder" "B", Cond.methodLink RX9 159 yX9_allows, Cond.instanceMethod yX9_allows, Cond.selects RX9 yX9_allows yX9_allows, Cond.code yX9_allows cX9_allows 3 none, Cond.fieldLink RX9 17 "StoneDatesModel" "low" "[J", Cond.fieldLink RX9 142 "StoneDatesModel" "someLow" "J"]
def wsX9_clause_r2 : List Cond := [Cond.fieldLink RX9 21 "StoneDatesModel" "high" "[J", Cond.fieldLink RX9 146 "StoneDatesModel" "someHigh" "J", Cond.methodLink RX9 156 yX9_some, Cond.instanceMethod yX9_some, Cond.selects RX9 yX9_some yX9_some, Cond.code yX9_some cX9_some 5 none, Cond.constantLong RX9 152 (-1), Cond.methodLink RX9 149 yX9_eat, Cond.instanceMethod yX9_eat, Cond.selects RX9 yX9_eat yX9_eat, Cond.code yX9_eat cX9_eat 3 (some .boolean), Cond.fieldLink RX9 93 "StoneDatesModel" "size" "I", Cond.methodLink RX9 103 yX9_blanks, Cond.instanceMethod yX9_blanks, Cond.selects RX9 yX9_blanks yX9_blanks, Cond.code yX9_blanks cX9_blanks 1 none, Cond.methodLink RX9 99 yX9_byteAt, Cond.instanceMethod yX9_byteAt, Cond.selects RX9 yX9_byteAt yX9_byteAt, Cond.code yX9_byteAt cX9_byteAt 2 (some .int), Cond.fieldLink RX9 13 "StoneDatesModel" "tape" "[B", Cond.methodLink RX9 154 yX9_number, Cond.instanceMethod yX9_number, Cond.selects RX9 yX9_number yX9_number]
def wsX9_clause_r3 : List Cond := [Cond.code yX9_number cX9_number 3 (some .int)]
def wsX9_clause : List Cond := .code yX9_clause cX9_clause 4 none :: ((wsX9_clause_r1 ++ (wsX9_clause_r2 ++ wsX9_clause_r3)) ++ wsX90)
def wsX9_isAllowed : List Cond := .code yX9_isAllowed cX9_isAllowed 4 (some .boolean) :: ([.fieldLink RX9 17 "StoneDatesModel" "low" "[J", .fieldLink RX9 21 "StoneDatesModel" "high" "[J"] ++ wsX90)
def wsX9_isFit : List Cond := .code yX9_isFit cX9_isFit 4 (some .boolean) :: ([.fieldLink RX9 9 "StoneDatesModel" "bases" "[I", .fieldLink RX9 24 "StoneDatesModel" "townOf" "[I", .methodLink RX9 83 yX9_valueOf, .static yX9_valueOf, .initialized RX9, .code yX9_valueOf cX9_valueOf 2 (some .int), .constant RX9 78 (144000), .methodLink RX9 179 yX9_isAllowed, .instanceMethod yX9_isAllowed, .selects RX9 yX9_isAllowed yX9_isAllowed, .code yX9_isAllowed cX9_isAllowed 4 (some .boolean), .fieldLink RX9 17 "StoneDatesModel" "low" "[J", .fieldLink RX9 21 "StoneDatesModel" "high" "[J", .methodLink RX9 87 yX9_moonOf, .static yX9_moonOf, .code yX9_moonOf cX9_moonOf 2 (some .int), .constantLong RX9 74 (149), .constantLong RX9 76 (4400)] ++ wsX90)
def wsX9_lists_r1 : List Cond := [Cond.fieldLink RX9 27 "StoneDatesModel" "many" "[I", Cond.constant RX9 72 (1152000), Cond.constant RX9 73 (1583999), Cond.fieldLink RX9 30 "StoneDatesModel" "days" "[I", Cond.methodLink RX9 183 yX9_isFit, Cond.instanceMethod yX9_isFit, Cond.selects RX9 yX9_isFit yX9_isFit, Cond.initialized RX9, Cond.code yX9_isFit cX9_isFit 4 (some .boolean), Cond.fieldLink RX9 9 "StoneDatesModel" "bases" "[I", Cond.fieldLink RX9 24 "StoneDatesModel" "townOf" "[I", Cond.methodLink RX9 83 yX9_valueOf, Cond.static yX9_valueOf, Cond.code yX9_valueOf cX9_valueOf 2 (some .int), Cond.constant RX9 78 (144000), Cond.methodLink RX9 179 yX9_isAllowed, Cond.instanceMethod yX9_isAllowed, Cond.selects RX9 yX9_isAllowed yX9_isAllowed, Cond.code yX9_isAllowed cX9_isAllowed 4 (some .boolean), Cond.fieldLink RX9 17 "StoneDatesModel" "low" "[J", Cond.fieldLink RX9 21 "StoneDatesModel" "high" "[J", Cond.methodLink RX9 87 yX9_moonOf, Cond.static yX9_moonOf, Cond.code yX9_moonOf cX9_moonOf 2 (some .int)]
def wsX9_lists_r2 : List Cond := [Cond.constantLong RX9 74 (149), Cond.constantLong RX9 76 (4400)]
def wsX9_lists : List Cond := .code yX9_lists cX9_lists 3 none :: ((wsX9_lists_r1 ++ wsX9_lists_r2) ++ wsX90)
def wsX9_stone_r1 : List Cond := [Cond.fieldLink RX9 61 "StoneDatesModel" "thrown" "I", Cond.fieldLink RX9 69 "StoneDatesModel" "towns" "I", Cond.fieldLink RX9 90 "StoneDatesModel" "taped" "I", Cond.fieldLink RX9 163 "StoneDatesModel" "stones" "I", Cond.fieldLink RX9 93 "StoneDatesModel" "size" "I", Cond.fieldLink RX9 96 "StoneDatesModel" "at" "I", Cond.fieldLink RX9 138 "StoneDatesModel" "isWrong" "Z", Cond.fieldLink RX9 17 "StoneDatesModel" "low" "[J", Cond.constantLong RX9 152 (-1), Cond.fieldLink RX9 21 "StoneDatesModel" "high" "[J", Cond.fieldLink RX9 24 "StoneDatesModel" "townOf" "[I", Cond.fieldLink RX9 176 "StoneDatesModel" "isSolved" "Z", Cond.methodLink RX9 65 yX9_bad, Cond.instanceMethod yX9_bad, Cond.selects RX9 yX9_bad yX9_bad, Cond.initialized RX9, Cond.code yX9_bad cX9_bad 3 (some .boolean), Cond.methodLink RX9 166 yX9_clauseHere, Cond.instanceMethod yX9_clauseHere, Cond.selects RX9 yX9_clauseHere yX9_clauseHere, Cond.code yX9_clauseHere cX9_clauseHere 2 (some .int), Cond.methodLink RX9 130 yX9_wordOf, Cond.static yX9_wordOf, Cond.code yX9_wordOf cX9_wordOf 1 (some (.object "java/lang/String"))]
def wsX9_stone_r2 : List Cond := [Cond.methodLink RX9 134 yX9_isWord, Cond.instanceMethod yX9_isWord, Cond.selects RX9 yX9_isWord yX9_isWord, Cond.code yX9_isWord cX9_isWord 3 (some .boolean), Cond.methodLink RX9 103 yX9_blanks, Cond.instanceMethod yX9_blanks, Cond.selects RX9 yX9_blanks yX9_blanks, Cond.code yX9_blanks cX9_blanks 1 none, Cond.methodLink RX9 99 yX9_byteAt, Cond.instanceMethod yX9_byteAt, Cond.selects RX9 yX9_byteAt yX9_byteAt, Cond.code yX9_byteAt cX9_byteAt 2 (some .int), Cond.fieldLink RX9 13 "StoneDatesModel" "tape" "[B", Cond.methodLink RX9 106 yJ0_length_8abf5, Cond.instanceMethod yJ0_length_8abf5, Cond.selects RJ0 yJ0_length_8abf5 yJ0_length_8abf5, Cond.initialized RJ0, Cond.code yJ0_length_8abf5 cJ0_length_8abf5 1 (some .int), Cond.fieldLink RJ0 9 "java/lang/String" "value" "[B", Cond.methodLink RJ0 335 yJ0_coder_7d493, Cond.instanceMethod yJ0_coder_7d493, Cond.selects RJ0 yJ0_coder_7d493 yJ0_coder_7d493, Cond.code yJ0_coder_7d493 cJ0_coder_7d493 1 (some .byte), Cond.fieldLink RJ0 38 "java/lang/String" "COMPACT_STRINGS" "Z"]
def wsX9_stone_r3 : List Cond := [Cond.fieldLink RJ0 15 "java/lang/String" "coder" "B", Cond.methodLink RX9 112 yJ0_charAt_5068e, Cond.instanceMethod yJ0_charAt_5068e, Cond.selects RJ0 yJ0_charAt_5068e yJ0_charAt_5068e, Cond.code yJ0_charAt_5068e cJ0_charAt_5068e 2 (some .char), Cond.methodLink RJ0 492 yJ0_isLatin1_aae02, Cond.instanceMethod yJ0_isLatin1_aae02, Cond.selects RJ0 yJ0_isLatin1_aae02 yJ0_isLatin1_aae02, Cond.code yJ0_isLatin1_aae02 cJ0_isLatin1_aae02 1 (some .boolean), Cond.methodLink RJ0 495 yJ1_charAt_3b067, Cond.static yJ1_charAt_3b067, Cond.initialized RJ1, Cond.code yJ1_charAt_3b067 cJ1_charAt_3b067 2 (some .char), Cond.methodLink RJ1 9 yJ0_checkIndex_df160, Cond.static yJ0_checkIndex_df160, Cond.code yJ0_checkIndex_df160 cJ0_checkIndex_df160 2 none, Cond.fieldLink RJ0 1053 "jdk/internal/util/Preconditions" "SIOOBE_FORMATTER" "Ljava/util/function/BiFunction;", Cond.methodLink RJ0 1059 yJ3_checkIndex_8e157, Cond.static yJ3_checkIndex_8e157, Cond.initialized RJ3, Cond.code yJ3_checkIndex_8e157 cJ3_checkIndex_8e157 3 (some .int), Cond.methodLink RJ0 498 yJ2_charAt_3b067, Cond.static yJ2_charAt_3b067, Cond.initialized RJ2]
def wsX9_stone_r4 : List Cond := [Cond.code yJ2_charAt_3b067 cJ2_charAt_3b067 2 (some .char), Cond.methodLink RJ2 67 yJ2_checkIndex_2214a, Cond.static yJ2_checkIndex_2214a, Cond.code yJ2_checkIndex_2214a cJ2_checkIndex_2214a 2 none, Cond.methodLink RJ2 48 yJ2_length_9d52b, Cond.static yJ2_length_9d52b, Cond.code yJ2_length_9d52b cJ2_length_9d52b 1 (some .int), Cond.methodLink RJ2 414 yJ0_checkIndex_df160, Cond.methodLink RJ2 71 yJ2_getChar_3b067, Cond.static yJ2_getChar_3b067, Cond.code yJ2_getChar_3b067 cJ2_getChar_3b067 2 (some .char), Cond.fieldLink RJ2 44 "java/lang/StringUTF16" "$assertionsDisabled" "Z", Cond.fieldLink RJ2 59 "java/lang/StringUTF16" "HI_BYTE_SHIFT" "I", Cond.fieldLink RJ2 63 "java/lang/StringUTF16" "LO_BYTE_SHIFT" "I", Cond.methodLink RX9 169 yX9_clause, Cond.instanceMethod yX9_clause, Cond.selects RX9 yX9_clause yX9_clause, Cond.code yX9_clause cX9_clause 4 none, Cond.methodLink RX9 159 yX9_allows, Cond.instanceMethod yX9_allows, Cond.selects RX9 yX9_allows yX9_allows, Cond.code yX9_allows cX9_allows 3 none, Cond.fieldLink RX9 142 "StoneDatesModel" "someLow" "J", Cond.fieldLink RX9 146 "StoneDatesModel" "someHigh" "J"]
def wsX9_stone_r5 : List Cond := [Cond.methodLink RX9 156 yX9_some, Cond.instanceMethod yX9_some, Cond.selects RX9 yX9_some yX9_some, Cond.code yX9_some cX9_some 5 none, Cond.methodLink RX9 149 yX9_eat, Cond.instanceMethod yX9_eat, Cond.selects RX9 yX9_eat yX9_eat, Cond.code yX9_eat cX9_eat 3 (some .boolean), Cond.methodLink RX9 154 yX9_number, Cond.instanceMethod yX9_number, Cond.selects RX9 yX9_number yX9_number, Cond.code yX9_number cX9_number 3 (some .int), Cond.methodLink RX9 172 yX9_lists, Cond.instanceMethod yX9_lists, Cond.selects RX9 yX9_lists yX9_lists, Cond.code yX9_lists cX9_lists 3 none, Cond.fieldLink RX9 27 "StoneDatesModel" "many" "[I", Cond.constant RX9 72 (1152000), Cond.constant RX9 73 (1583999), Cond.fieldLink RX9 30 "StoneDatesModel" "days" "[I", Cond.methodLink RX9 183 yX9_isFit, Cond.instanceMethod yX9_isFit, Cond.selects RX9 yX9_isFit yX9_isFit, Cond.code yX9_isFit cX9_isFit 4 (some .boolean)]
def wsX9_stone_r6 : List Cond := [Cond.fieldLink RX9 9 "StoneDatesModel" "bases" "[I", Cond.methodLink RX9 83 yX9_valueOf, Cond.static yX9_valueOf, Cond.code yX9_valueOf cX9_valueOf 2 (some .int), Cond.constant RX9 78 (144000), Cond.methodLink RX9 179 yX9_isAllowed, Cond.instanceMethod yX9_isAllowed, Cond.selects RX9 yX9_isAllowed yX9_isAllowed, Cond.code yX9_isAllowed cX9_isAllowed 4 (some .boolean), Cond.methodLink RX9 87 yX9_moonOf, Cond.static yX9_moonOf, Cond.code yX9_moonOf cX9_moonOf 2 (some .int), Cond.constantLong RX9 74 (149), Cond.constantLong RX9 76 (4400)]
def wsX9_stone : List Cond := .code yX9_stone cX9_stone 5 (some .int) :: ((wsX9_stone_r1 ++ (wsX9_stone_r2 ++ (wsX9_stone_r3 ++ (wsX9_stone_r4 ++ (wsX9_stone_r5 ++ wsX9_stone_r6))))) ++ wsX90)
def wsX9_isStone : List Cond := .code yX9_isStone cX9_isStone 2 (some .boolean) :: ([.fieldLink RX9 163 "StoneDatesModel" "stones" "I", .fieldLink RX9 61 "StoneDatesModel" "thrown" "I"] ++ wsX90)
def wsX9_many : List Cond := .code yX9_many cX9_many 2 (some .int) :: ([.fieldLink RX9 27 "StoneDatesModel" "many" "[I", .methodLink RX9 187 yX9_isStone, .instanceMethod yX9_isStone, .selects RX9 yX9_isStone yX9_isStone, .initialized RX9, .code yX9_isStone cX9_isStone 2 (some .boolean), .fieldLink RX9 163 "StoneDatesModel" "stones" "I", .fieldLink RX9 61 "StoneDatesModel" "thrown" "I"] ++ wsX90)
def wsX9_day : List Cond := .code yX9_day cX9_day 3 (some .int) :: ([.fieldLink RX9 27 "StoneDatesModel" "many" "[I", .fieldLink RX9 30 "StoneDatesModel" "days" "[I", .methodLink RX9 187 yX9_isStone, .instanceMethod yX9_isStone, .selects RX9 yX9_isStone yX9_isStone, .initialized RX9, .code yX9_isStone cX9_isStone 2 (some .boolean), .fieldLink RX9 163 "StoneDatesModel" "stones" "I", .fieldLink RX9 61 "StoneDatesModel" "thrown" "I"] ++ wsX90)
def wsX9_fits_r1 : List Cond := [Cond.methodLink RX9 187 yX9_isStone, Cond.instanceMethod yX9_isStone, Cond.selects RX9 yX9_isStone yX9_isStone, Cond.initialized RX9, Cond.code yX9_isStone cX9_isStone 2 (some .boolean), Cond.fieldLink RX9 163 "StoneDatesModel" "stones" "I", Cond.fieldLink RX9 61 "StoneDatesModel" "thrown" "I", Cond.methodLink RX9 79 yX9_isDay, Cond.static yX9_isDay, Cond.code yX9_isDay cX9_isDay 1 (some .boolean), Cond.constant RX9 72 (1152000), Cond.constant RX9 73 (1583999), Cond.methodLink RX9 65 yX9_bad, Cond.instanceMethod yX9_bad, Cond.selects RX9 yX9_bad yX9_bad, Cond.code yX9_bad cX9_bad 3 (some .boolean), Cond.methodLink RX9 183 yX9_isFit, Cond.instanceMethod yX9_isFit, Cond.selects RX9 yX9_isFit yX9_isFit, Cond.code yX9_isFit cX9_isFit 4 (some .boolean), Cond.fieldLink RX9 9 "StoneDatesModel" "bases" "[I", Cond.fieldLink RX9 24 "StoneDatesModel" "townOf" "[I", Cond.methodLink RX9 83 yX9_valueOf, Cond.static yX9_valueOf]
def wsX9_fits_r2 : List Cond := [Cond.code yX9_valueOf cX9_valueOf 2 (some .int), Cond.constant RX9 78 (144000), Cond.methodLink RX9 179 yX9_isAllowed, Cond.instanceMethod yX9_isAllowed, Cond.selects RX9 yX9_isAllowed yX9_isAllowed, Cond.code yX9_isAllowed cX9_isAllowed 4 (some .boolean), Cond.fieldLink RX9 17 "StoneDatesModel" "low" "[J", Cond.fieldLink RX9 21 "StoneDatesModel" "high" "[J", Cond.methodLink RX9 87 yX9_moonOf, Cond.static yX9_moonOf, Cond.code yX9_moonOf cX9_moonOf 2 (some .int), Cond.constantLong RX9 74 (149), Cond.constantLong RX9 76 (4400)]
def wsX9_fits : List Cond := .code yX9_fits cX9_fits 3 (some .boolean) :: ((wsX9_fits_r1 ++ wsX9_fits_r2) ++ wsX90)
def wsX9_distance : List Cond := .code yX9_distance cX9_distance 4 (some .int) :: ([.fieldLink RX9 61 "StoneDatesModel" "thrown" "I", .fieldLink RX9 163 "StoneDatesModel" "stones" "I", .constant RX9 190 (-500000), .constant RX9 191 (500000), .fieldLink RX9 192 "StoneDatesModel" "distances" "I", .fieldLink RX9 33 "StoneDatesModel" "fromOf" "[I", .fieldLink RX9 36 "StoneDatesModel" "toOf" "[I", .fieldLink RX9 39 "StoneDatesModel" "farOf" "[I", .fieldLink RX9 176 "StoneDatesModel" "isSolved" "Z", .methodLink RX9 65 yX9_bad, .instanceMethod yX9_bad, .selects RX9 yX9_bad yX9_bad, .initialized RX9, .code yX9_bad cX9_bad 3 (some .boolean)] ++ wsX90)
def wsX9_inNet : List Cond := .code yX9_inNet cX9_inNet 2 (some .boolean) :: ([.fieldLink RX9 27 "StoneDatesModel" "many" "[I"] ++ wsX90)
def wsX9_isAskedWrong : List Cond := .code yX9_isAskedWrong cX9_isAskedWrong 3 (some .boolean) :: ([.fieldLink RX9 195 "StoneDatesModel" "askedMany" "I"] ++ wsX90)
def wsX9_joins : List Cond := .code yX9_joins cX9_joins 9 (some .boolean) :: ([.fieldLink RX9 163 "StoneDatesModel" "stones" "I", .fieldLink RX9 45 "StoneDatesModel" "part" "[I", .fieldLink RX9 48 "StoneDatesModel" "off" "[I", .fieldLink RX9 195 "StoneDatesModel" "askedMany" "I", .fieldLink RX9 42 "StoneDatesModel" "asked" "[I", .fieldLink RX9 33 "StoneDatesModel" "fromOf" "[I", .fieldLink RX9 36 "StoneDatesModel" "toOf" "[I", .fieldLink RX9 39 "StoneDatesModel" "farOf" "[I", .methodLink RX9 198 yX9_isAskedWrong, .instanceMethod yX9_isAskedWrong, .selects RX9 yX9_isAskedWrong yX9_isAskedWrong, .initialized RX9, .code yX9_isAskedWrong cX9_isAskedWrong 3 (some .boolean)] ++ wsX90)
def wsX9_hasDay : List Cond := .code yX9_hasDay cX9_hasDay 6 (some .boolean) :: ([.fieldLink RX9 27 "StoneDatesModel" "many" "[I", .fieldLink RX9 30 "StoneDatesModel" "days" "[I"] ++ wsX90)
def wsX9_isGood : List Cond := .code yX9_isGood cX9_isGood 4 (some .boolean) :: ([.fieldLink RX9 163 "StoneDatesModel" "stones" "I", .fieldLink RX9 45 "StoneDatesModel" "part" "[I", .fieldLink RX9 48 "StoneDatesModel" "off" "[I", .methodLink RX9 201 yX9_inNet, .instanceMethod yX9_inNet, .selects RX9 yX9_inNet yX9_inNet, .initialized RX9, .code yX9_inNet cX9_inNet 2 (some .boolean), .fieldLink RX9 27 "StoneDatesModel" "many" "[I", .methodLink RX9 204 yX9_hasDay, .instanceMethod yX9_hasDay, .selects RX9 yX9_hasDay yX9_hasDay, .code yX9_hasDay cX9_hasDay 6 (some .boolean), .fieldLink RX9 30 "StoneDatesModel" "days" "[I"] ++ wsX90)
def wsX9_canBe_r1 : List Cond := [Cond.fieldLink RX9 163 "StoneDatesModel" "stones" "I", Cond.fieldLink RX9 27 "StoneDatesModel" "many" "[I", Cond.fieldLink RX9 30 "StoneDatesModel" "days" "[I", Cond.methodLink RX9 207 yX9_joins, Cond.instanceMethod yX9_joins, Cond.selects RX9 yX9_joins yX9_joins, Cond.initialized RX9, Cond.code yX9_joins cX9_joins 9 (some .boolean), Cond.fieldLink RX9 45 "StoneDatesModel" "part" "[I", Cond.fieldLink RX9 48 "StoneDatesModel" "off" "[I", Cond.fieldLink RX9 195 "StoneDatesModel" "askedMany" "I", Cond.fieldLink RX9 42 "StoneDatesModel" "asked" "[I", Cond.fieldLink RX9 33 "StoneDatesModel" "fromOf" "[I", Cond.fieldLink RX9 36 "StoneDatesModel" "toOf" "[I", Cond.fieldLink RX9 39 "StoneDatesModel" "farOf" "[I", Cond.methodLink RX9 198 yX9_isAskedWrong, Cond.instanceMethod yX9_isAskedWrong, Cond.selects RX9 yX9_isAskedWrong yX9_isAskedWrong, Cond.code yX9_isAskedWrong cX9_isAskedWrong 3 (some .boolean), Cond.methodLink RX9 201 yX9_inNet, Cond.instanceMethod yX9_inNet, Cond.selects RX9 yX9_inNet yX9_inNet, Cond.code yX9_inNet cX9_inNet 2 (some .boolean), Cond.methodLink RX9 210 yX9_isGood]
def wsX9_canBe_r2 : List Cond := [Cond.instanceMethod yX9_isGood, Cond.selects RX9 yX9_isGood yX9_isGood, Cond.code yX9_isGood cX9_isGood 4 (some .boolean), Cond.methodLink RX9 204 yX9_hasDay, Cond.instanceMethod yX9_hasDay, Cond.selects RX9 yX9_hasDay yX9_hasDay, Cond.code yX9_hasDay cX9_hasDay 6 (some .boolean)]
def wsX9_canBe : List Cond := .code yX9_canBe cX9_canBe 5 (some .boolean) :: ((wsX9_canBe_r1 ++ wsX9_canBe_r2) ++ wsX90)
def wsX9_bits : List Cond := .code yX9_bits cX9_bits 3 (some .int) :: ([])
def wsX9_solves_r1 : List Cond := [Cond.fieldLink RX9 176 "StoneDatesModel" "isSolved" "Z", Cond.fieldLink RX9 195 "StoneDatesModel" "askedMany" "I", Cond.fieldLink RX9 192 "StoneDatesModel" "distances" "I", Cond.fieldLink RX9 33 "StoneDatesModel" "fromOf" "[I", Cond.fieldLink RX9 36 "StoneDatesModel" "toOf" "[I", Cond.fieldLink RX9 42 "StoneDatesModel" "asked" "[I", Cond.fieldLink RX9 213 "StoneDatesModel" "wrongs" "I", Cond.fieldLink RX9 163 "StoneDatesModel" "stones" "I", Cond.fieldLink RX9 51 "StoneDatesModel" "isSettled" "[Z", Cond.fieldLink RX9 27 "StoneDatesModel" "many" "[I", Cond.fieldLink RX9 30 "StoneDatesModel" "days" "[I", Cond.methodLink RX9 201 yX9_inNet, Cond.instanceMethod yX9_inNet, Cond.selects RX9 yX9_inNet yX9_inNet, Cond.initialized RX9, Cond.code yX9_inNet cX9_inNet 2 (some .boolean), Cond.methodLink RX9 216 yX9_bits, Cond.static yX9_bits, Cond.code yX9_bits cX9_bits 3 (some .int), Cond.methodLink RX9 219 yX9_canBe, Cond.instanceMethod yX9_canBe, Cond.selects RX9 yX9_canBe yX9_canBe, Cond.code yX9_canBe cX9_canBe 5 (some .boolean), Cond.methodLink RX9 207 yX9_joins]
def wsX9_solves_r2 : List Cond := [Cond.instanceMethod yX9_joins, Cond.selects RX9 yX9_joins yX9_joins, Cond.code yX9_joins cX9_joins 9 (some .boolean), Cond.fieldLink RX9 45 "StoneDatesModel" "part" "[I", Cond.fieldLink RX9 48 "StoneDatesModel" "off" "[I", Cond.fieldLink RX9 39 "StoneDatesModel" "farOf" "[I", Cond.methodLink RX9 198 yX9_isAskedWrong, Cond.instanceMethod yX9_isAskedWrong, Cond.selects RX9 yX9_isAskedWrong yX9_isAskedWrong, Cond.code yX9_isAskedWrong cX9_isAskedWrong 3 (some .boolean), Cond.methodLink RX9 210 yX9_isGood, Cond.instanceMethod yX9_isGood, Cond.selects RX9 yX9_isGood yX9_isGood, Cond.code yX9_isGood cX9_isGood 4 (some .boolean), Cond.methodLink RX9 204 yX9_hasDay, Cond.instanceMethod yX9_hasDay, Cond.selects RX9 yX9_hasDay yX9_hasDay, Cond.code yX9_hasDay cX9_hasDay 6 (some .boolean)]
def wsX9_solves : List Cond := .code yX9_solves cX9_solves 4 none :: ((wsX9_solves_r1 ++ wsX9_solves_r2) ++ wsX90)
def wsX9_least_r1 : List Cond := [Cond.fieldLink RX9 61 "StoneDatesModel" "thrown" "I", Cond.fieldLink RX9 213 "StoneDatesModel" "wrongs" "I", Cond.methodLink RX9 222 yX9_solves, Cond.instanceMethod yX9_solves, Cond.selects RX9 yX9_solves yX9_solves, Cond.initialized RX9, Cond.code yX9_solves cX9_solves 4 none, Cond.fieldLink RX9 176 "StoneDatesModel" "isSolved" "Z", Cond.fieldLink RX9 195 "StoneDatesModel" "askedMany" "I", Cond.fieldLink RX9 192 "StoneDatesModel" "distances" "I", Cond.fieldLink RX9 33 "StoneDatesModel" "fromOf" "[I", Cond.fieldLink RX9 36 "StoneDatesModel" "toOf" "[I", Cond.fieldLink RX9 42 "StoneDatesModel" "asked" "[I", Cond.fieldLink RX9 163 "StoneDatesModel" "stones" "I", Cond.fieldLink RX9 51 "StoneDatesModel" "isSettled" "[Z", Cond.fieldLink RX9 27 "StoneDatesModel" "many" "[I", Cond.fieldLink RX9 30 "StoneDatesModel" "days" "[I", Cond.methodLink RX9 201 yX9_inNet, Cond.instanceMethod yX9_inNet, Cond.selects RX9 yX9_inNet yX9_inNet, Cond.code yX9_inNet cX9_inNet 2 (some .boolean), Cond.methodLink RX9 216 yX9_bits, Cond.static yX9_bits, Cond.code yX9_bits cX9_bits 3 (some .int)]
def wsX9_least_r2 : List Cond := [Cond.methodLink RX9 219 yX9_canBe, Cond.instanceMethod yX9_canBe, Cond.selects RX9 yX9_canBe yX9_canBe, Cond.code yX9_canBe cX9_canBe 5 (some .boolean), Cond.methodLink RX9 207 yX9_joins, Cond.instanceMethod yX9_joins, Cond.selects RX9 yX9_joins yX9_joins, Cond.code yX9_joins cX9_joins 9 (some .boolean), Cond.fieldLink RX9 45 "StoneDatesModel" "part" "[I", Cond.fieldLink RX9 48 "StoneDatesModel" "off" "[I", Cond.fieldLink RX9 39 "StoneDatesModel" "farOf" "[I", Cond.methodLink RX9 198 yX9_isAskedWrong, Cond.instanceMethod yX9_isAskedWrong, Cond.selects RX9 yX9_isAskedWrong yX9_isAskedWrong, Cond.code yX9_isAskedWrong cX9_isAskedWrong 3 (some .boolean), Cond.methodLink RX9 210 yX9_isGood, Cond.instanceMethod yX9_isGood, Cond.selects RX9 yX9_isGood yX9_isGood, Cond.code yX9_isGood cX9_isGood 4 (some .boolean), Cond.methodLink RX9 204 yX9_hasDay, Cond.instanceMethod yX9_hasDay, Cond.selects RX9 yX9_hasDay yX9_hasDay, Cond.code yX9_hasDay cX9_hasDay 6 (some .boolean)]
def wsX9_least : List Cond := .code yX9_least cX9_least 1 (some .int) :: ((wsX9_least_r1 ++ wsX9_least_r2) ++ wsX90)
def wsX9_wrong_r1 : List Cond := [Cond.fieldLink RX9 61 "StoneDatesModel" "thrown" "I", Cond.fieldLink RX9 195 "StoneDatesModel" "askedMany" "I", Cond.fieldLink RX9 213 "StoneDatesModel" "wrongs" "I", Cond.fieldLink RX9 42 "StoneDatesModel" "asked" "[I", Cond.methodLink RX9 222 yX9_solves, Cond.instanceMethod yX9_solves, Cond.selects RX9 yX9_solves yX9_solves, Cond.initialized RX9, Cond.code yX9_solves cX9_solves 4 none, Cond.fieldLink RX9 176 "StoneDatesModel" "isSolved" "Z", Cond.fieldLink RX9 192 "StoneDatesModel" "distances" "I", Cond.fieldLink RX9 33 "StoneDatesModel" "fromOf" "[I", Cond.fieldLink RX9 36 "StoneDatesModel" "toOf" "[I", Cond.fieldLink RX9 163 "StoneDatesModel" "stones" "I", Cond.fieldLink RX9 51 "StoneDatesModel" "isSettled" "[Z", Cond.fieldLink RX9 27 "StoneDatesModel" "many" "[I", Cond.fieldLink RX9 30 "StoneDatesModel" "days" "[I", Cond.methodLink RX9 201 yX9_inNet, Cond.instanceMethod yX9_inNet, Cond.selects RX9 yX9_inNet yX9_inNet, Cond.code yX9_inNet cX9_inNet 2 (some .boolean), Cond.methodLink RX9 216 yX9_bits, Cond.static yX9_bits, Cond.code yX9_bits cX9_bits 3 (some .int)]
def wsX9_wrong_r2 : List Cond := [Cond.methodLink RX9 219 yX9_canBe, Cond.instanceMethod yX9_canBe, Cond.selects RX9 yX9_canBe yX9_canBe, Cond.code yX9_canBe cX9_canBe 5 (some .boolean), Cond.methodLink RX9 207 yX9_joins, Cond.instanceMethod yX9_joins, Cond.selects RX9 yX9_joins yX9_joins, Cond.code yX9_joins cX9_joins 9 (some .boolean), Cond.fieldLink RX9 45 "StoneDatesModel" "part" "[I", Cond.fieldLink RX9 48 "StoneDatesModel" "off" "[I", Cond.fieldLink RX9 39 "StoneDatesModel" "farOf" "[I", Cond.methodLink RX9 198 yX9_isAskedWrong, Cond.instanceMethod yX9_isAskedWrong, Cond.selects RX9 yX9_isAskedWrong yX9_isAskedWrong, Cond.code yX9_isAskedWrong cX9_isAskedWrong 3 (some .boolean), Cond.methodLink RX9 210 yX9_isGood, Cond.instanceMethod yX9_isGood, Cond.selects RX9 yX9_isGood yX9_isGood, Cond.code yX9_isGood cX9_isGood 4 (some .boolean), Cond.methodLink RX9 204 yX9_hasDay, Cond.instanceMethod yX9_hasDay, Cond.selects RX9 yX9_hasDay yX9_hasDay, Cond.code yX9_hasDay cX9_hasDay 6 (some .boolean)]
def wsX9_wrong : List Cond := .code yX9_wrong cX9_wrong 4 (some .int) :: ((wsX9_wrong_r1 ++ wsX9_wrong_r2) ++ wsX90)
def wsX9_settled_r1 : List Cond := [Cond.fieldLink RX9 51 "StoneDatesModel" "isSettled" "[Z", Cond.methodLink RX9 187 yX9_isStone, Cond.instanceMethod yX9_isStone, Cond.selects RX9 yX9_isStone yX9_isStone, Cond.initialized RX9, Cond.code yX9_isStone cX9_isStone 2 (some .boolean), Cond.fieldLink RX9 163 "StoneDatesModel" "stones" "I", Cond.fieldLink RX9 61 "StoneDatesModel" "thrown" "I", Cond.methodLink RX9 201 yX9_inNet, Cond.instanceMethod yX9_inNet, Cond.selects RX9 yX9_inNet yX9_inNet, Cond.code yX9_inNet cX9_inNet 2 (some .boolean), Cond.fieldLink RX9 27 "StoneDatesModel" "many" "[I", Cond.methodLink RX9 222 yX9_solves, Cond.instanceMethod yX9_solves, Cond.selects RX9 yX9_solves yX9_solves, Cond.code yX9_solves cX9_solves 4 none, Cond.fieldLink RX9 176 "StoneDatesModel" "isSolved" "Z", Cond.fieldLink RX9 195 "StoneDatesModel" "askedMany" "I", Cond.fieldLink RX9 192 "StoneDatesModel" "distances" "I", Cond.fieldLink RX9 33 "StoneDatesModel" "fromOf" "[I", Cond.fieldLink RX9 36 "StoneDatesModel" "toOf" "[I", Cond.fieldLink RX9 42 "StoneDatesModel" "asked" "[I", Cond.fieldLink RX9 213 "StoneDatesModel" "wrongs" "I"]
def wsX9_settled_r2 : List Cond := [Cond.fieldLink RX9 30 "StoneDatesModel" "days" "[I", Cond.methodLink RX9 216 yX9_bits, Cond.static yX9_bits, Cond.code yX9_bits cX9_bits 3 (some .int), Cond.methodLink RX9 219 yX9_canBe, Cond.instanceMethod yX9_canBe, Cond.selects RX9 yX9_canBe yX9_canBe, Cond.code yX9_canBe cX9_canBe 5 (some .boolean), Cond.methodLink RX9 207 yX9_joins, Cond.instanceMethod yX9_joins, Cond.selects RX9 yX9_joins yX9_joins, Cond.code yX9_joins cX9_joins 9 (some .boolean), Cond.fieldLink RX9 45 "StoneDatesModel" "part" "[I", Cond.fieldLink RX9 48 "StoneDatesModel" "off" "[I", Cond.fieldLink RX9 39 "StoneDatesModel" "farOf" "[I", Cond.methodLink RX9 198 yX9_isAskedWrong, Cond.instanceMethod yX9_isAskedWrong, Cond.selects RX9 yX9_isAskedWrong yX9_isAskedWrong, Cond.code yX9_isAskedWrong cX9_isAskedWrong 3 (some .boolean), Cond.methodLink RX9 210 yX9_isGood, Cond.instanceMethod yX9_isGood, Cond.selects RX9 yX9_isGood yX9_isGood, Cond.code yX9_isGood cX9_isGood 4 (some .boolean), Cond.methodLink RX9 204 yX9_hasDay]
def wsX9_settled_r3 : List Cond := [Cond.instanceMethod yX9_hasDay, Cond.selects RX9 yX9_hasDay yX9_hasDay, Cond.code yX9_hasDay cX9_hasDay 6 (some .boolean)]
def wsX9_settled : List Cond := .code yX9_settled cX9_settled 4 (some .int) :: ((wsX9_settled_r1 ++ (wsX9_settled_r2 ++ wsX9_settled_r3)) ++ wsX90)
def wsX9_settledDay_r1 : List Cond := [Cond.fieldLink RX9 51 "StoneDatesModel" "isSettled" "[Z", Cond.fieldLink RX9 30 "StoneDatesModel" "days" "[I", Cond.methodLink RX9 187 yX9_isStone, Cond.instanceMethod yX9_isStone, Cond.selects RX9 yX9_isStone yX9_isStone, Cond.initialized RX9, Cond.code yX9_isStone cX9_isStone 2 (some .boolean), Cond.fieldLink RX9 163 "StoneDatesModel" "stones" "I", Cond.fieldLink RX9 61 "StoneDatesModel" "thrown" "I", Cond.methodLink RX9 201 yX9_inNet, Cond.instanceMethod yX9_inNet, Cond.selects RX9 yX9_inNet yX9_inNet, Cond.code yX9_inNet cX9_inNet 2 (some .boolean), Cond.fieldLink RX9 27 "StoneDatesModel" "many" "[I", Cond.methodLink RX9 222 yX9_solves, Cond.instanceMethod yX9_solves, Cond.selects RX9 yX9_solves yX9_solves, Cond.code yX9_solves cX9_solves 4 none, Cond.fieldLink RX9 176 "StoneDatesModel" "isSolved" "Z", Cond.fieldLink RX9 195 "StoneDatesModel" "askedMany" "I", Cond.fieldLink RX9 192 "StoneDatesModel" "distances" "I", Cond.fieldLink RX9 33 "StoneDatesModel" "fromOf" "[I", Cond.fieldLink RX9 36 "StoneDatesModel" "toOf" "[I", Cond.fieldLink RX9 42 "StoneDatesModel" "asked" "[I"]
def wsX9_settledDay_r2 : List Cond := [Cond.fieldLink RX9 213 "StoneDatesModel" "wrongs" "I", Cond.methodLink RX9 216 yX9_bits, Cond.static yX9_bits, Cond.code yX9_bits cX9_bits 3 (some .int), Cond.methodLink RX9 219 yX9_canBe, Cond.instanceMethod yX9_canBe, Cond.selects RX9 yX9_canBe yX9_canBe, Cond.code yX9_canBe cX9_canBe 5 (some .boolean), Cond.methodLink RX9 207 yX9_joins, Cond.instanceMethod yX9_joins, Cond.selects RX9 yX9_joins yX9_joins, Cond.code yX9_joins cX9_joins 9 (some .boolean), Cond.fieldLink RX9 45 "StoneDatesModel" "part" "[I", Cond.fieldLink RX9 48 "StoneDatesModel" "off" "[I", Cond.fieldLink RX9 39 "StoneDatesModel" "farOf" "[I", Cond.methodLink RX9 198 yX9_isAskedWrong, Cond.instanceMethod yX9_isAskedWrong, Cond.selects RX9 yX9_isAskedWrong yX9_isAskedWrong, Cond.code yX9_isAskedWrong cX9_isAskedWrong 3 (some .boolean), Cond.methodLink RX9 210 yX9_isGood, Cond.instanceMethod yX9_isGood, Cond.selects RX9 yX9_isGood yX9_isGood, Cond.code yX9_isGood cX9_isGood 4 (some .boolean), Cond.methodLink RX9 204 yX9_hasDay]
def wsX9_settledDay_r3 : List Cond := [Cond.instanceMethod yX9_hasDay, Cond.selects RX9 yX9_hasDay yX9_hasDay, Cond.code yX9_hasDay cX9_hasDay 6 (some .boolean)]
def wsX9_settledDay : List Cond := .code yX9_settledDay cX9_settledDay 5 (some .int) :: ((wsX9_settledDay_r1 ++ (wsX9_settledDay_r2 ++ wsX9_settledDay_r3)) ++ wsX90)
def wsX9_eclipse : List Cond := .code yX9_eclipse cX9_eclipse 3 (some .int) :: ([.fieldLink RX9 61 "StoneDatesModel" "thrown" "I", .constant RX9 225 (10000000), .fieldLink RX9 226 "StoneDatesModel" "eclipseMany" "I", .fieldLink RX9 55 "StoneDatesModel" "eclipses" "[I", .methodLink RX9 65 yX9_bad, .instanceMethod yX9_bad, .selects RX9 yX9_bad yX9_bad, .initialized RX9, .code yX9_bad cX9_bad 3 (some .boolean)] ++ wsX90)
def wsX9_names : List Cond := .code yX9_names cX9_names 4 (some .boolean) :: ([.fieldLink RX9 27 "StoneDatesModel" "many" "[I", .fieldLink RX9 58 "StoneDatesModel" "isNamed" "[Z", .methodLink RX9 187 yX9_isStone, .instanceMethod yX9_isStone, .selects RX9 yX9_isStone yX9_isStone, .initialized RX9, .code yX9_isStone cX9_isStone 2 (some .boolean), .fieldLink RX9 163 "StoneDatesModel" "stones" "I", .fieldLink RX9 61 "StoneDatesModel" "thrown" "I", .methodLink RX9 65 yX9_bad, .instanceMethod yX9_bad, .selects RX9 yX9_bad yX9_bad, .code yX9_bad cX9_bad 3 (some .boolean)] ++ wsX90)
def wsX9_named : List Cond := .code yX9_named cX9_named 3 (some .int) :: ([.fieldLink RX9 163 "StoneDatesModel" "stones" "I", .fieldLink RX9 58 "StoneDatesModel" "isNamed" "[Z"] ++ wsX90)
def wsX9_tries : List Cond := .code yX9_tries cX9_tries 11 none :: ([.fieldLink RX9 163 "StoneDatesModel" "stones" "I", .fieldLink RX9 58 "StoneDatesModel" "isNamed" "[Z", .fieldLink RX9 30 "StoneDatesModel" "days" "[I", .constant RX9 231 (2147483647), .fieldLink RX9 226 "StoneDatesModel" "eclipseMany" "I", .fieldLink RX9 55 "StoneDatesModel" "eclipses" "[I", .fieldLink RX9 232 "StoneDatesModel" "bestMany" "I", .fieldLink RX9 235 "StoneDatesModel" "bestSum" "J", .fieldLink RX9 238 "StoneDatesModel" "bestStart" "I"] ++ wsX90)
def wsX9_starts : List Cond := .code yX9_starts cX9_starts 5 none :: ([.fieldLink RX9 232 "StoneDatesModel" "bestMany" "I", .fieldLink RX9 235 "StoneDatesModel" "bestSum" "J", .constant RX9 231 (2147483647), .fieldLink RX9 238 "StoneDatesModel" "bestStart" "I", .fieldLink RX9 163 "StoneDatesModel" "stones" "I", .fieldLink RX9 58 "StoneDatesModel" "isNamed" "[Z", .fieldLink RX9 226 "StoneDatesModel" "eclipseMany" "I", .fieldLink RX9 55 "StoneDatesModel" "eclipses" "[I", .fieldLink RX9 30 "StoneDatesModel" "days" "[I", .methodLink RX9 241 yX9_tries, .instanceMethod yX9_tries, .selects RX9 yX9_tries yX9_tries, .initialized RX9, .code yX9_tries cX9_tries 11 none] ++ wsX90)
def wsX9_isAsked : List Cond := .code yX9_isAsked cX9_isAsked 2 (some .boolean) :: ([.fieldLink RX9 61 "StoneDatesModel" "thrown" "I", .fieldLink RX9 226 "StoneDatesModel" "eclipseMany" "I", .methodLink RX9 65 yX9_bad, .instanceMethod yX9_bad, .selects RX9 yX9_bad yX9_bad, .initialized RX9, .code yX9_bad cX9_bad 3 (some .boolean), .methodLink RX9 244 yX9_named, .instanceMethod yX9_named, .selects RX9 yX9_named yX9_named, .code yX9_named cX9_named 3 (some .int), .fieldLink RX9 163 "StoneDatesModel" "stones" "I", .fieldLink RX9 58 "StoneDatesModel" "isNamed" "[Z"] ++ wsX90)
def wsX9_start_r1 : List Cond := [Cond.fieldLink RX9 238 "StoneDatesModel" "bestStart" "I", Cond.methodLink RX9 247 yX9_isAsked, Cond.instanceMethod yX9_isAsked, Cond.selects RX9 yX9_isAsked yX9_isAsked, Cond.initialized RX9, Cond.code yX9_isAsked cX9_isAsked 2 (some .boolean), Cond.fieldLink RX9 61 "StoneDatesModel" "thrown" "I", Cond.fieldLink RX9 226 "StoneDatesModel" "eclipseMany" "I", Cond.methodLink RX9 65 yX9_bad, Cond.instanceMethod yX9_bad, Cond.selects RX9 yX9_bad yX9_bad, Cond.code yX9_bad cX9_bad 3 (some .boolean), Cond.methodLink RX9 244 yX9_named, Cond.instanceMethod yX9_named, Cond.selects RX9 yX9_named yX9_named, Cond.code yX9_named cX9_named 3 (some .int), Cond.fieldLink RX9 163 "StoneDatesModel" "stones" "I", Cond.fieldLink RX9 58 "StoneDatesModel" "isNamed" "[Z", Cond.methodLink RX9 250 yX9_starts, Cond.instanceMethod yX9_starts, Cond.selects RX9 yX9_starts yX9_starts, Cond.code yX9_starts cX9_starts 5 none, Cond.fieldLink RX9 232 "StoneDatesModel" "bestMany" "I", Cond.fieldLink RX9 235 "StoneDatesModel" "bestSum" "J"]
def wsX9_start_r2 : List Cond := [Cond.constant RX9 231 (2147483647), Cond.fieldLink RX9 55 "StoneDatesModel" "eclipses" "[I", Cond.fieldLink RX9 30 "StoneDatesModel" "days" "[I", Cond.methodLink RX9 241 yX9_tries, Cond.instanceMethod yX9_tries, Cond.selects RX9 yX9_tries yX9_tries, Cond.code yX9_tries cX9_tries 11 none]
def wsX9_start : List Cond := .code yX9_start cX9_start 2 (some .int) :: ((wsX9_start_r1 ++ wsX9_start_r2) ++ wsX90)
def wsX9_agrees_r1 : List Cond := [Cond.fieldLink RX9 232 "StoneDatesModel" "bestMany" "I", Cond.methodLink RX9 247 yX9_isAsked, Cond.instanceMethod yX9_isAsked, Cond.selects RX9 yX9_isAsked yX9_isAsked, Cond.initialized RX9, Cond.code yX9_isAsked cX9_isAsked 2 (some .boolean), Cond.fieldLink RX9 61 "StoneDatesModel" "thrown" "I", Cond.fieldLink RX9 226 "StoneDatesModel" "eclipseMany" "I", Cond.methodLink RX9 65 yX9_bad, Cond.instanceMethod yX9_bad, Cond.selects RX9 yX9_bad yX9_bad, Cond.code yX9_bad cX9_bad 3 (some .boolean), Cond.methodLink RX9 244 yX9_named, Cond.instanceMethod yX9_named, Cond.selects RX9 yX9_named yX9_named, Cond.code yX9_named cX9_named 3 (some .int), Cond.fieldLink RX9 163 "StoneDatesModel" "stones" "I", Cond.fieldLink RX9 58 "StoneDatesModel" "isNamed" "[Z", Cond.methodLink RX9 250 yX9_starts, Cond.instanceMethod yX9_starts, Cond.selects RX9 yX9_starts yX9_starts, Cond.code yX9_starts cX9_starts 5 none, Cond.fieldLink RX9 235 "StoneDatesModel" "bestSum" "J", Cond.constant RX9 231 (2147483647)]
def wsX9_agrees_r2 : List Cond := [Cond.fieldLink RX9 238 "StoneDatesModel" "bestStart" "I", Cond.fieldLink RX9 55 "StoneDatesModel" "eclipses" "[I", Cond.fieldLink RX9 30 "StoneDatesModel" "days" "[I", Cond.methodLink RX9 241 yX9_tries, Cond.instanceMethod yX9_tries, Cond.selects RX9 yX9_tries yX9_tries, Cond.code yX9_tries cX9_tries 11 none]
def wsX9_agrees : List Cond := .code yX9_agrees cX9_agrees 2 (some .int) :: ((wsX9_agrees_r1 ++ wsX9_agrees_r2) ++ wsX90)
def wsX9_count : List Cond := .code yX9_count cX9_count 4 (some .int) :: ([.fieldLink RX9 61 "StoneDatesModel" "thrown" "I", .fieldLink RX9 69 "StoneDatesModel" "towns" "I", .fieldLink RX9 163 "StoneDatesModel" "stones" "I", .fieldLink RX9 192 "StoneDatesModel" "distances" "I", .fieldLink RX9 226 "StoneDatesModel" "eclipseMany" "I", .fieldLink RX9 90 "StoneDatesModel" "taped" "I", .methodLink RX9 244 yX9_named, .instanceMethod yX9_named, .selects RX9 yX9_named yX9_named, .initialized RX9, .code yX9_named cX9_named 3 (some .int), .fieldLink RX9 58 "StoneDatesModel" "isNamed" "[Z", .methodLink RX9 201 yX9_inNet, .instanceMethod yX9_inNet, .selects RX9 yX9_inNet yX9_inNet, .code yX9_inNet cX9_inNet 2 (some .boolean), .fieldLink RX9 27 "StoneDatesModel" "many" "[I"] ++ wsX90)
def wsJ9_max_7cf53 : List Cond := .code yJ9_max_7cf53 cJ9_max_7cf53 2 (some .int) :: ([])
def wsJ9_min_7cf53 : List Cond := .code yJ9_min_7cf53 cJ9_min_7cf53 2 (some .int) :: ([])
def wsL_town : List Cond := .codeWith yL_town cL_town 4 (some .int) [(0, 9, 12, 13), (0, 9, 15, 15)] :: ([.classLink RL 13 "java/lang/IllegalArgumentException", .classLink RL 15 "java/lang/IllegalStateException", .methodLink RL 7 yX8_town, .instanceMethod yX8_town, .selects RX8 yX8_town yX8_town, .initialized RX8, .code yX8_town cX8_town 2 (some .int), .classLink RX8 54 "java/lang/IllegalArgumentException", .initialized "java/lang/IllegalArgumentException", .classLink RX8 61 "java/lang/IllegalStateException", .initialized "java/lang/IllegalStateException", .fieldLink RX8 47 "StoneDates" "townCount" "I", .fieldLink RX8 9 "StoneDates" "bases" "[I"] ++ wsX80 ++ (vx_atS RX8 58 "java/lang/IllegalArgumentException" ["java/lang/RuntimeException", "java/lang/Exception"]).filter goodWord ++ (vx_atS RX8 65 "java/lang/IllegalStateException" ["java/lang/RuntimeException", "java/lang/Exception"]).filter goodWord)
def wsL_of : List Cond := .codeWith yL_of cL_of 5 (some .int) [(0, 10, 13, 13)] :: ([.classLink RL 13 "java/lang/IllegalArgumentException", .methodLink RL 17 yX8_of, .instanceMethod yX8_of, .selects RX8 yX8_of yX8_of, .initialized RX8, .code yX8_of cX8_of 3 (some .int), .classLink RX8 54 "java/lang/IllegalArgumentException", .initialized "java/lang/IllegalArgumentException", .methodLink RX8 66 yX8_checkDay, .instanceMethod yX8_checkDay, .selects RX8 yX8_checkDay yX8_checkDay, .code yX8_checkDay cX8_checkDay 2 none, .methodLink RX8 199 yX0_has, .static yX0_has, .initialized RX0, .code yX0_has cX0_has 1 (some .boolean), .constant RX0 11 (1152000), .constant RX0 12 (1583999), .methodLink RX8 72 yX0_signOf, .static yX0_signOf, .code yX0_signOf cX0_signOf 3 (some .int), .constant RX0 13 (144000)] ++ (vx_atS RX8 58 "java/lang/IllegalArgumentException" ["java/lang/RuntimeException", "java/lang/Exception"]).filter goodWord)
def wsL_moon_r1 : List Cond := [Cond.classLink RL 13 "java/lang/IllegalArgumentException", Cond.classLink RL 24 "java/lang/IndexOutOfBoundsException", Cond.methodLink RL 21 yX8_moon, Cond.instanceMethod yX8_moon, Cond.selects RX8 yX8_moon yX8_moon, Cond.initialized RX8, Cond.code yX8_moon cX8_moon 3 (some .int), Cond.fieldLink RX8 9 "StoneDates" "bases" "[I", Cond.methodLink RX8 66 yX8_checkDay, Cond.instanceMethod yX8_checkDay, Cond.selects RX8 yX8_checkDay yX8_checkDay, Cond.code yX8_checkDay cX8_checkDay 2 none, Cond.classLink RX8 54 "java/lang/IllegalArgumentException", Cond.initialized "java/lang/IllegalArgumentException", Cond.methodLink RX8 199 yX0_has, Cond.static yX0_has, Cond.initialized RX0, Cond.code yX0_has cX0_has 1 (some .boolean), Cond.constant RX0 11 (1152000), Cond.constant RX0 12 (1583999), Cond.methodLink RX8 78 yX8_checkTown, Cond.instanceMethod yX8_checkTown, Cond.selects RX8 yX8_checkTown yX8_checkTown, Cond.code yX8_checkTown cX8_checkTown 2 none]
def wsL_moon_r2 : List Cond := [Cond.classLink RX8 204 "java/lang/IndexOutOfBoundsException", Cond.initialized "java/lang/IndexOutOfBoundsException", Cond.fieldLink RX8 47 "StoneDates" "townCount" "I", Cond.methodLink RX8 72 yX0_signOf, Cond.static yX0_signOf, Cond.code yX0_signOf cX0_signOf 3 (some .int), Cond.constant RX0 13 (144000)]
def wsL_moon : List Cond := .codeWith yL_moon cL_moon 5 (some .int) [(0, 10, 13, 13), (0, 10, 17, 24)] :: ((wsL_moon_r1 ++ wsL_moon_r2) ++ wsX80 ++ (vx_atS RX8 58 "java/lang/IllegalArgumentException" ["java/lang/RuntimeException", "java/lang/Exception"]).filter goodWord ++ (vx_atS RX8 208 "java/lang/IndexOutOfBoundsException" ["java/lang/RuntimeException", "java/lang/Exception"]).filter goodWord)
def wsL_stone_r1 : List Cond := [Cond.classLink RL 24 "java/lang/IndexOutOfBoundsException", Cond.classLink RL 13 "java/lang/IllegalArgumentException", Cond.classLink RL 15 "java/lang/IllegalStateException", Cond.methodLink RL 26 yX8_stone, Cond.instanceMethod yX8_stone, Cond.selects RX8 yX8_stone yX8_stone, Cond.initialized RX8, Cond.code yX8_stone cX8_stone 5 (some .int), Cond.classLink RX8 54 "java/lang/IllegalArgumentException", Cond.initialized "java/lang/IllegalArgumentException", Cond.classLink RX8 61 "java/lang/IllegalStateException", Cond.initialized "java/lang/IllegalStateException", Cond.fieldLink RX8 22 "StoneDates" "reader" "LStoneDates$Reader;", Cond.fieldLink RX8 88 "StoneDates$Reader" "size" "I", Cond.fieldLink RX8 51 "StoneDates" "stoneCount" "I", Cond.fieldLink RX8 99 "StoneDates$Reader" "fault" "I", Cond.fieldLink RX8 29 "StoneDates" "finder" "LStoneDates$Finder;", Cond.fieldLink RX8 102 "StoneDates$Reader" "sets" "[I", Cond.fieldLink RX8 9 "StoneDates" "bases" "[I", Cond.classLink RX8 13 RX6, Cond.instantiable RX6 4, Cond.initialized RX6, Cond.methodLink RX8 109 ⟨"[I", "clone", "()Ljava/lang/Object;"⟩, Cond.sameMethod "[I" "java/lang/Object" "clone" "()Ljava/lang/Object;"]
def wsL_stone_r2 : List Cond := [Cond.native ⟨"java/lang/Object", "clone", "()Ljava/lang/Object;"⟩, Cond.instanceMethod ⟨"java/lang/Object", "clone", "()Ljava/lang/Object;"⟩, Cond.selects "[I" ⟨"[I", "clone", "()Ljava/lang/Object;"⟩ ⟨"java/lang/Object", "clone", "()Ljava/lang/Object;"⟩, Cond.classLink RX8 110 "[I", Cond.fieldLink RX8 114 "StoneDates$Finder" "days" "[I", Cond.fieldLink RX8 117 "StoneDates$Finder" "kept" "I", Cond.fieldLink RX8 126 "StoneDates$Finder" "many" "I", Cond.fieldLink RX8 15 "StoneDates" "stones" "[LStoneDates$Stone;", Cond.fieldLink RX8 36 "StoneDates" "net" "LStoneDates$Net;", Cond.methodLink RX8 78 yX8_checkTown, Cond.instanceMethod yX8_checkTown, Cond.selects RX8 yX8_checkTown yX8_checkTown, Cond.code yX8_checkTown cX8_checkTown 2 none, Cond.classLink RX8 204 "java/lang/IndexOutOfBoundsException", Cond.initialized "java/lang/IndexOutOfBoundsException", Cond.fieldLink RX8 47 "StoneDates" "townCount" "I", Cond.methodLink RX8 95 yX4_read, Cond.instanceMethod yX4_read, Cond.selects RX4 yX4_read yX4_read, Cond.initialized RX4, Cond.code yX4_read cX4_read 3 (some .boolean), Cond.methodLink RX4 22 Lib.Math.min.name, Cond.static Lib.Math.min.name, Cond.initialized "java/lang/Math"]
def wsL_stone_r3 : List Cond := [Cond.code Lib.Math.min.name Lib.Math.min.code 2 (some .int), Cond.methodLink RX4 28 Lib.Math.max.name, Cond.static Lib.Math.max.name, Cond.code Lib.Math.max.name Lib.Math.max.code 2 (some .int), Cond.fieldLink RX4 31 "StoneDates$Reader" "length" "I", Cond.fieldLink RX4 34 "StoneDates$Reader" "at" "I", Cond.fieldLink RX4 9 "StoneDates$Reader" "sets" "[I", Cond.methodLink RX4 37 yJ7_fill_53178, Cond.static yJ7_fill_53178, Cond.initialized RJ7, Cond.code yJ7_fill_53178 cJ7_fill_53178 4 none, Cond.methodLink RX4 43 yX4_skipBlanks, Cond.instanceMethod yX4_skipBlanks, Cond.selects RX4 yX4_skipBlanks yX4_skipBlanks, Cond.code yX4_skipBlanks cX4_skipBlanks 1 none, Cond.fieldLink RX4 15 "StoneDates$Reader" "bytes" "[I", Cond.methodLink RX4 46 yX4_readClause, Cond.instanceMethod yX4_readClause, Cond.selects RX4 yX4_readClause yX4_readClause, Cond.code yX4_readClause cX4_readClause 4 (some .boolean), Cond.fieldLink RX4 58 "StoneDates$Kind" "width" "I", Cond.fieldLink RX4 70 "StoneDates$Kind" "first" "I", Cond.methodLink RX4 54 yX4_readWord, Cond.instanceMethod yX4_readWord]
def wsL_stone_r4 : List Cond := [Cond.selects RX4 yX4_readWord yX4_readWord, Cond.code yX4_readWord cX4_readWord 6 (some (.object "StoneDates$Kind")), Cond.fieldLink RX4 77 "StoneDates$Reader" "KINDS" "[LStoneDates$Kind;", Cond.fieldLink RX4 81 "StoneDates$Kind" "word" "Ljava/lang/String;", Cond.methodLink RX4 85 yX4_isWord, Cond.instanceMethod yX4_isWord, Cond.selects RX4 yX4_isWord yX4_isWord, Cond.code yX4_isWord cX4_isWord 5 (some .boolean), Cond.methodLink RX4 89 yJ0_length_8abf5, Cond.instanceMethod yJ0_length_8abf5, Cond.selects RJ0 yJ0_length_8abf5 yJ0_length_8abf5, Cond.initialized RJ0, Cond.code yJ0_length_8abf5 cJ0_length_8abf5 1 (some .int), Cond.fieldLink RJ0 9 "java/lang/String" "value" "[B", Cond.methodLink RJ0 335 yJ0_coder_7d493, Cond.instanceMethod yJ0_coder_7d493, Cond.selects RJ0 yJ0_coder_7d493 yJ0_coder_7d493, Cond.code yJ0_coder_7d493 cJ0_coder_7d493 1 (some .byte), Cond.fieldLink RJ0 38 "java/lang/String" "COMPACT_STRINGS" "Z", Cond.fieldLink RJ0 15 "java/lang/String" "coder" "B", Cond.methodLink RX4 94 yJ0_charAt_5068e, Cond.instanceMethod yJ0_charAt_5068e, Cond.selects RJ0 yJ0_charAt_5068e yJ0_charAt_5068e, Cond.code yJ0_charAt_5068e cJ0_charAt_5068e 2 (some .char)]
def wsL_stone_r5 : List Cond := [Cond.methodLink RJ0 492 yJ0_isLatin1_aae02, Cond.instanceMethod yJ0_isLatin1_aae02, Cond.selects RJ0 yJ0_isLatin1_aae02 yJ0_isLatin1_aae02, Cond.code yJ0_isLatin1_aae02 cJ0_isLatin1_aae02 1 (some .boolean), Cond.methodLink RJ0 495 yJ1_charAt_3b067, Cond.static yJ1_charAt_3b067, Cond.initialized RJ1, Cond.code yJ1_charAt_3b067 cJ1_charAt_3b067 2 (some .char), Cond.methodLink RJ1 9 yJ0_checkIndex_df160, Cond.static yJ0_checkIndex_df160, Cond.code yJ0_checkIndex_df160 cJ0_checkIndex_df160 2 none, Cond.fieldLink RJ0 1053 "jdk/internal/util/Preconditions" "SIOOBE_FORMATTER" "Ljava/util/function/BiFunction;", Cond.methodLink RJ0 1059 yJ3_checkIndex_8e157, Cond.static yJ3_checkIndex_8e157, Cond.initialized RJ3, Cond.code yJ3_checkIndex_8e157 cJ3_checkIndex_8e157 3 (some .int), Cond.methodLink RJ0 498 yJ2_charAt_3b067, Cond.static yJ2_charAt_3b067, Cond.initialized RJ2, Cond.code yJ2_charAt_3b067 cJ2_charAt_3b067 2 (some .char), Cond.methodLink RJ2 67 yJ2_checkIndex_2214a, Cond.static yJ2_checkIndex_2214a, Cond.code yJ2_checkIndex_2214a cJ2_checkIndex_2214a 2 none, Cond.methodLink RJ2 48 yJ2_length_9d52b]
def wsL_stone_r6 : List Cond := [Cond.static yJ2_length_9d52b, Cond.code yJ2_length_9d52b cJ2_length_9d52b 1 (some .int), Cond.methodLink RJ2 414 yJ0_checkIndex_df160, Cond.methodLink RJ2 71 yJ2_getChar_3b067, Cond.static yJ2_getChar_3b067, Cond.code yJ2_getChar_3b067 cJ2_getChar_3b067 2 (some .char), Cond.fieldLink RJ2 44 "java/lang/StringUTF16" "$assertionsDisabled" "Z", Cond.fieldLink RJ2 59 "java/lang/StringUTF16" "HI_BYTE_SHIFT" "I", Cond.fieldLink RJ2 63 "java/lang/StringUTF16" "LO_BYTE_SHIFT" "I", Cond.methodLink RX4 50 yX4_refuse, Cond.instanceMethod yX4_refuse, Cond.selects RX4 yX4_refuse yX4_refuse, Cond.code yX4_refuse cX4_refuse 2 (some .boolean), Cond.fieldLink RX4 113 "StoneDates$Reader" "fault" "I", Cond.methodLink RX4 63 yX4_demand, Cond.instanceMethod yX4_demand, Cond.selects RX4 yX4_demand yX4_demand, Cond.code yX4_demand cX4_demand 2 (some .boolean), Cond.methodLink RX4 98 yX4_takes, Cond.instanceMethod yX4_takes, Cond.selects RX4 yX4_takes yX4_takes, Cond.code yX4_takes cX4_takes 2 (some .boolean), Cond.methodLink RX4 67 yX4_readPart, Cond.instanceMethod yX4_readPart]
def wsL_stone_r7 : List Cond := [Cond.selects RX4 yX4_readPart yX4_readPart, Cond.code yX4_readPart cX4_readPart 2 (some .boolean), Cond.fieldLink RX4 101 "StoneDates$Reader" "heard" "I", Cond.methodLink RX4 104 yX4_readRange, Cond.instanceMethod yX4_readRange, Cond.selects RX4 yX4_readRange yX4_readRange, Cond.code yX4_readRange cX4_readRange 4 (some .boolean), Cond.methodLink RX4 107 yX4_readNumber, Cond.instanceMethod yX4_readNumber, Cond.selects RX4 yX4_readNumber yX4_readNumber, Cond.code yX4_readNumber cX4_readNumber 3 (some .int), Cond.methodLink RX4 110 yX4_isDigitAt, Cond.instanceMethod yX4_isDigitAt, Cond.selects RX4 yX4_isDigitAt yX4_isDigitAt, Cond.code yX4_isDigitAt cX4_isDigitAt 2 (some .boolean), Cond.methodLink RX4 73 yX4_narrow, Cond.instanceMethod yX4_narrow, Cond.selects RX4 yX4_narrow yX4_narrow, Cond.code yX4_narrow cX4_narrow 2 none, Cond.methodLink RX8 105 yX1_seek, Cond.instanceMethod yX1_seek, Cond.selects RX1 yX1_seek yX1_seek, Cond.initialized RX1, Cond.code yX1_seek cX1_seek 4 none]
def wsL_stone_r8 : List Cond := [Cond.fieldLink RX1 33 "StoneDates$Finder" "kept" "I", Cond.fieldLink RX1 37 "StoneDates$Finder" "many" "I", Cond.constant RX1 56 (1152000), Cond.constant RX1 57 (1583999), Cond.methodLink RX1 40 yX1_turnInner, Cond.instanceMethod yX1_turnInner, Cond.selects RX1 yX1_turnInner yX1_turnInner, Cond.code yX1_turnInner cX1_turnInner 8 none, Cond.fieldLink RX1 20 "StoneDates$Finder" "inner" "LStoneDates$Wheel;", Cond.methodLink RX1 69 yX7_reset, Cond.instanceMethod yX7_reset, Cond.selects RX7 yX7_reset yX7_reset, Cond.initialized RX7, Cond.code yX7_reset cX7_reset 2 none, Cond.fieldLink RX7 23 "StoneDates$Wheel" "free" "Z", Cond.fieldLink RX7 19 "StoneDates$Wheel" "bits" "[J", Cond.methodLink RX7 27 yJ7_fill_d0a16, Cond.static yJ7_fill_d0a16, Cond.code yJ7_fill_d0a16 cJ7_fill_d0a16 5 none, Cond.methodLink RX1 58 yX0_signOf, Cond.static yX0_signOf, Cond.initialized RX0, Cond.code yX0_signOf cX0_signOf 3 (some .int), Cond.constant RX0 13 (144000)]
def wsL_stone_r9 : List Cond := [Cond.methodLink RX1 62 yX0_holds, Cond.static yX0_holds, Cond.code yX0_holds cX0_holds 2 (some .boolean), Cond.methodLink RX1 73 yX7_mark, Cond.instanceMethod yX7_mark, Cond.selects RX7 yX7_mark yX7_mark, Cond.code yX7_mark cX7_mark 3 none, Cond.methodLink RX7 9 Lib.Math.max.name, Cond.fieldLink RX7 15 "StoneDates$Wheel" "period" "I", Cond.methodLink RX1 44 yX1_turnThirteen, Cond.instanceMethod yX1_turnThirteen, Cond.selects RX1 yX1_turnThirteen yX1_turnThirteen, Cond.code yX1_turnThirteen cX1_turnThirteen 3 none, Cond.fieldLink RX1 24 "StoneDates$Finder" "thirteen" "LStoneDates$Wheel;", Cond.methodLink RX1 47 yX1_turnYear, Cond.instanceMethod yX1_turnYear, Cond.selects RX1 yX1_turnYear yX1_turnYear, Cond.code yX1_turnYear cX1_turnYear 5 none, Cond.fieldLink RX1 27 "StoneDates$Finder" "year" "LStoneDates$Wheel;", Cond.methodLink RX1 51 yX1_turnLunar, Cond.instanceMethod yX1_turnLunar, Cond.selects RX1 yX1_turnLunar yX1_turnLunar, Cond.code yX1_turnLunar cX1_turnLunar 3 none, Cond.fieldLink RX1 30 "StoneDates$Finder" "lunar" "LStoneDates$Wheel;"]
def wsL_stone_r10 : List Cond := [Cond.methodLink RX1 66 yX1_scan, Cond.instanceMethod yX1_scan, Cond.selects RX1 yX1_scan yX1_scan, Cond.code yX1_scan cX1_scan 9 none, Cond.methodLink RX1 76 yX7_window, Cond.instanceMethod yX7_window, Cond.selects RX7 yX7_window yX7_window, Cond.code yX7_window cX7_window 5 (some .long), Cond.constantLong RX7 33 (1152921504606846975), Cond.methodLink RX1 80 yJ13_bitCount_95d88, Cond.static yJ13_bitCount_95d88, Cond.initialized RJ13, Cond.code yJ13_bitCount_95d88 cJ13_bitCount_95d88 2 (some .int), Cond.constantLong RJ13 314 (6148914691236517205), Cond.constantLong RJ13 316 (3689348814741910323), Cond.constantLong RJ13 318 (1085102592571150095), Cond.methodLink RX1 86 yX1_keep, Cond.instanceMethod yX1_keep, Cond.selects RX1 yX1_keep yX1_keep, Cond.code yX1_keep cX1_keep 8 none, Cond.fieldLink RX1 9 "StoneDates$Finder" "days" "[I", Cond.methodLink RX8 120 yJ7_copyOf_59c91, Cond.static yJ7_copyOf_59c91, Cond.code yJ7_copyOf_59c91 cJ7_copyOf_59c91 3 (some (.array .int))]
def wsL_stone_r11 : List Cond := [Cond.methodLink RJ7 316 ⟨"[I", "clone", "()Ljava/lang/Object;"⟩, Cond.classLink RJ7 317 "[I", Cond.arrayClass .int, Cond.methodLink RJ7 304 Lib.Math.min.name, Cond.methodLink RJ7 150 arraycopyName, Cond.native arraycopyName, Cond.static arraycopyName, Cond.initialized "java/lang/System", Cond.methodLink RX8 129 yX6_init, Cond.instanceMethod yX6_init, Cond.code yX6_init cX6_init 5 none, Cond.methodLink RX6 1 objectInit, Cond.instanceMethod objectInit, Cond.code objectInit ⟨#[0xb1]⟩ 1 none, Cond.fieldLink RX6 7 "StoneDates$Stone" "base" "I", Cond.fieldLink RX6 13 "StoneDates$Stone" "sets" "[I", Cond.fieldLink RX6 17 "StoneDates$Stone" "days" "[I", Cond.fieldLink RX6 20 "StoneDates$Stone" "many" "I", Cond.methodLink RX8 132 yX3_take, Cond.instanceMethod yX3_take, Cond.selects RX3 yX3_take yX3_take, Cond.initialized RX3, Cond.code yX3_take cX3_take 3 none, Cond.fieldLink RX3 41 "StoneDates$Stone" "many" "I"]
def wsL_stone_r12 : List Cond := [Cond.fieldLink RX3 11 "StoneDates$Net" "members" "[LStoneDates$Stone;", Cond.fieldLink RX3 45 "StoneDates$Net" "memberCount" "I"]
def wsL_stone : List Cond := .codeWith yL_stone cL_stone 5 (some .int) [(0, 10, 13, 24), (0, 10, 17, 13), (0, 10, 21, 15)] :: ((wsL_stone_r1 ++ (wsL_stone_r2 ++ (wsL_stone_r3 ++ (wsL_stone_r4 ++ (wsL_stone_r5 ++ (wsL_stone_r6 ++ (wsL_stone_r7 ++ (wsL_stone_r8 ++ (wsL_stone_r9 ++ (wsL_stone_r10 ++ (wsL_stone_r11 ++ wsL_stone_r12))))))))))) ++ wsX80 ++ wsX40 ++ wsX60 ++ wsX10 ++ wsX70 ++ wsX30 ++ (vx_atS RX8 58 "java/lang/IllegalArgumentException" ["java/lang/RuntimeException", "java/lang/Exception"]).filter goodWord ++ (vx_atS RX8 65 "java/lang/IllegalStateException" ["java/lang/RuntimeException", "java/lang/Exception"]).filter goodWord ++ (vx_atS RX8 208 "java/lang/IndexOutOfBoundsException" ["java/lang/RuntimeException", "java/lang/Exception"]).filter goodWord)
def wsL_many : List Cond := .codeWith yL_many cL_many 4 (some .int) [(0, 9, 12, 24)] :: ([.classLink RL 24 "java/lang/IndexOutOfBoundsException", .methodLink RL 29 yX8_many, .instanceMethod yX8_many, .selects RX8 yX8_many yX8_many, .initialized RX8, .code yX8_many cX8_many 2 (some .int), .fieldLink RX8 140 "StoneDates$Stone" "many" "I", .methodLink RX8 136 yX8_stoneAt, .instanceMethod yX8_stoneAt, .selects RX8 yX8_stoneAt yX8_stoneAt, .code yX8_stoneAt cX8_stoneAt 3 (some (.object "StoneDates$Stone")), .classLink RX8 204 "java/lang/IndexOutOfBoundsException", .initialized "java/lang/IndexOutOfBoundsException", .fieldLink RX8 51 "StoneDates" "stoneCount" "I", .fieldLink RX8 15 "StoneDates" "stones" "[LStoneDates$Stone;"] ++ wsX60 ++ wsX80 ++ (vx_atS RX8 208 "java/lang/IndexOutOfBoundsException" ["java/lang/RuntimeException", "java/lang/Exception"]).filter goodWord)
def wsL_day : List Cond := .codeWith yL_day cL_day 5 (some .int) [(0, 10, 13, 24)] :: ([.classLink RL 24 "java/lang/IndexOutOfBoundsException", .methodLink RL 32 yX8_day, .instanceMethod yX8_day, .selects RX8 yX8_day yX8_day, .initialized RX8, .code yX8_day cX8_day 4 (some .int), .fieldLink RX8 141 "StoneDates$Stone" "days" "[I", .methodLink RX8 136 yX8_stoneAt, .instanceMethod yX8_stoneAt, .selects RX8 yX8_stoneAt yX8_stoneAt, .code yX8_stoneAt cX8_stoneAt 3 (some (.object "StoneDates$Stone")), .classLink RX8 204 "java/lang/IndexOutOfBoundsException", .initialized "java/lang/IndexOutOfBoundsException", .fieldLink RX8 51 "StoneDates" "stoneCount" "I", .fieldLink RX8 15 "StoneDates" "stones" "[LStoneDates$Stone;"] ++ wsX60 ++ wsX80 ++ (vx_atS RX8 208 "java/lang/IndexOutOfBoundsException" ["java/lang/RuntimeException", "java/lang/Exception"]).filter goodWord)
def wsL_fits_r1 : List Cond := [Cond.classLink RL 24 "java/lang/IndexOutOfBoundsException", Cond.classLink RL 13 "java/lang/IllegalArgumentException", Cond.methodLink RL 35 yX8_fits, Cond.instanceMethod yX8_fits, Cond.selects RX8 yX8_fits yX8_fits, Cond.initialized RX8, Cond.code yX8_fits cX8_fits 4 (some .boolean), Cond.methodLink RX8 136 yX8_stoneAt, Cond.instanceMethod yX8_stoneAt, Cond.selects RX8 yX8_stoneAt yX8_stoneAt, Cond.code yX8_stoneAt cX8_stoneAt 3 (some (.object "StoneDates$Stone")), Cond.classLink RX8 204 "java/lang/IndexOutOfBoundsException", Cond.initialized "java/lang/IndexOutOfBoundsException", Cond.fieldLink RX8 51 "StoneDates" "stoneCount" "I", Cond.fieldLink RX8 15 "StoneDates" "stones" "[LStoneDates$Stone;", Cond.methodLink RX8 66 yX8_checkDay, Cond.instanceMethod yX8_checkDay, Cond.selects RX8 yX8_checkDay yX8_checkDay, Cond.code yX8_checkDay cX8_checkDay 2 none, Cond.classLink RX8 54 "java/lang/IllegalArgumentException", Cond.initialized "java/lang/IllegalArgumentException", Cond.methodLink RX8 199 yX0_has, Cond.static yX0_has, Cond.initialized RX0]
def wsL_fits_r2 : List Cond := [Cond.code yX0_has cX0_has 1 (some .boolean), Cond.constant RX0 11 (1152000), Cond.constant RX0 12 (1583999), Cond.methodLink RX8 142 yX6_allows, Cond.instanceMethod yX6_allows, Cond.selects RX6 yX6_allows yX6_allows, Cond.initialized RX6, Cond.code yX6_allows cX6_allows 3 (some .boolean), Cond.fieldLink RX6 13 "StoneDates$Stone" "sets" "[I", Cond.fieldLink RX6 7 "StoneDates$Stone" "base" "I", Cond.methodLink RX6 23 yX0_signOf, Cond.static yX0_signOf, Cond.code yX0_signOf cX0_signOf 3 (some .int), Cond.constant RX0 13 (144000), Cond.methodLink RX6 29 yX0_holds, Cond.static yX0_holds, Cond.code yX0_holds cX0_holds 2 (some .boolean)]
def wsL_fits : List Cond := .codeWith yL_fits cL_fits 5 (some .int) [(0, 17, 20, 24), (0, 17, 24, 13)] :: ((wsL_fits_r1 ++ wsL_fits_r2) ++ wsX80 ++ wsX60 ++ (vx_atS RX8 208 "java/lang/IndexOutOfBoundsException" ["java/lang/RuntimeException", "java/lang/Exception"]).filter goodWord ++ (vx_atS RX8 58 "java/lang/IllegalArgumentException" ["java/lang/RuntimeException", "java/lang/Exception"]).filter goodWord)
def wsL_distance_r1 : List Cond := [Cond.classLink RL 24 "java/lang/IndexOutOfBoundsException", Cond.classLink RL 13 "java/lang/IllegalArgumentException", Cond.classLink RL 15 "java/lang/IllegalStateException", Cond.methodLink RL 39 yX8_distance, Cond.instanceMethod yX8_distance, Cond.selects RX8 yX8_distance yX8_distance, Cond.initialized RX8, Cond.code yX8_distance cX8_distance 4 (some .int), Cond.classLink RX8 54 "java/lang/IllegalArgumentException", Cond.initialized "java/lang/IllegalArgumentException", Cond.classLink RX8 61 "java/lang/IllegalStateException", Cond.initialized "java/lang/IllegalStateException", Cond.constant RX8 145 (-500000), Cond.constant RX8 146 (500000), Cond.fieldLink RX8 36 "StoneDates" "net" "LStoneDates$Net;", Cond.fieldLink RX8 149 "StoneDates$Net" "size" "I", Cond.methodLink RX8 136 yX8_stoneAt, Cond.instanceMethod yX8_stoneAt, Cond.selects RX8 yX8_stoneAt yX8_stoneAt, Cond.code yX8_stoneAt cX8_stoneAt 3 (some (.object "StoneDates$Stone")), Cond.classLink RX8 204 "java/lang/IndexOutOfBoundsException", Cond.initialized "java/lang/IndexOutOfBoundsException", Cond.fieldLink RX8 51 "StoneDates" "stoneCount" "I", Cond.fieldLink RX8 15 "StoneDates" "stones" "[LStoneDates$Stone;"]
def wsL_distance_r2 : List Cond := [Cond.methodLink RX8 152 yX3_add, Cond.instanceMethod yX3_add, Cond.selects RX3 yX3_add yX3_add, Cond.initialized RX3, Cond.code yX3_add cX3_add 4 (some .int), Cond.fieldLink RX3 48 "StoneDates$Net" "size" "I", Cond.fieldLink RX3 17 "StoneDates$Net" "from" "[I", Cond.fieldLink RX3 21 "StoneDates$Net" "to" "[I", Cond.fieldLink RX3 24 "StoneDates$Net" "days" "[I"]
def wsL_distance : List Cond := .codeWith yL_distance cL_distance 6 (some .int) [(0, 12, 15, 24), (0, 12, 19, 13), (0, 12, 23, 15)] :: ((wsL_distance_r1 ++ wsL_distance_r2) ++ wsX80 ++ wsX30 ++ (vx_atS RX8 58 "java/lang/IllegalArgumentException" ["java/lang/RuntimeException", "java/lang/Exception"]).filter goodWord ++ (vx_atS RX8 65 "java/lang/IllegalStateException" ["java/lang/RuntimeException", "java/lang/Exception"]).filter goodWord ++ (vx_atS RX8 208 "java/lang/IndexOutOfBoundsException" ["java/lang/RuntimeException", "java/lang/Exception"]).filter goodWord)
def wsL_settled_r1 : List Cond := [Cond.classLink RL 24 "java/lang/IndexOutOfBoundsException", Cond.methodLink RL 43 yX8_settled, Cond.instanceMethod yX8_settled, Cond.selects RX8 yX8_settled yX8_settled, Cond.initialized RX8, Cond.code yX8_settled cX8_settled 2 (some .int), Cond.fieldLink RX8 36 "StoneDates" "net" "LStoneDates$Net;", Cond.methodLink RX8 136 yX8_stoneAt, Cond.instanceMethod yX8_stoneAt, Cond.selects RX8 yX8_stoneAt yX8_stoneAt, Cond.code yX8_stoneAt cX8_stoneAt 3 (some (.object "StoneDates$Stone")), Cond.classLink RX8 204 "java/lang/IndexOutOfBoundsException", Cond.initialized "java/lang/IndexOutOfBoundsException", Cond.fieldLink RX8 51 "StoneDates" "stoneCount" "I", Cond.fieldLink RX8 15 "StoneDates" "stones" "[LStoneDates$Stone;", Cond.methodLink RX8 155 yX3_solve, Cond.instanceMethod yX3_solve, Cond.selects RX3 yX3_solve yX3_solve, Cond.initialized RX3, Cond.code yX3_solve cX3_solve 2 none, Cond.fieldLink RX3 51 "StoneDates$Net" "solvedSize" "I", Cond.fieldLink RX3 48 "StoneDates$Net" "size" "I", Cond.fieldLink RX3 54 "StoneDates$Net" "fewest" "I", Cond.fieldLink RX3 65 "StoneDates$Net" "wrongs" "I"]
def wsL_settled_r2 : List Cond := [Cond.methodLink RX3 57 yX3_search, Cond.instanceMethod yX3_search, Cond.selects RX3 yX3_search yX3_search, Cond.code yX3_search cX3_search 5 none, Cond.methodLink RX3 76 yJ6_bitCount_0f7a4, Cond.static yJ6_bitCount_0f7a4, Cond.initialized RJ6, Cond.code yJ6_bitCount_0f7a4 cJ6_bitCount_0f7a4 1 (some .int), Cond.constant RJ6 265 (1431655765), Cond.constant RJ6 266 (858993459), Cond.constant RJ6 267 (252645135), Cond.methodLink RX3 61 yX3_isAsked, Cond.instanceMethod yX3_isAsked, Cond.selects RX3 yX3_isAsked yX3_isAsked, Cond.code yX3_isAsked cX3_isAsked 2 (some .boolean), Cond.fieldLink RX3 11 "StoneDates$Net" "members" "[LStoneDates$Stone;", Cond.fieldLink RX3 17 "StoneDates$Net" "from" "[I", Cond.fieldLink RX3 21 "StoneDates$Net" "to" "[I", Cond.methodLink RX3 72 yX3_pass, Cond.instanceMethod yX3_pass, Cond.selects RX3 yX3_pass yX3_pass, Cond.code yX3_pass cX3_pass 2 none, Cond.fieldLink RX3 29 "StoneDates$Net" "group" "[[I", Cond.methodLink RX3 81 arraycopyName]
def wsL_settled_r3 : List Cond := [Cond.native arraycopyName, Cond.static arraycopyName, Cond.initialized "java/lang/System", Cond.fieldLink RX3 32 "StoneDates$Net" "offset" "[[I", Cond.methodLink RX3 68 yX3_join, Cond.instanceMethod yX3_join, Cond.selects RX3 yX3_join yX3_join, Cond.code yX3_join cX3_join 6 (some .int), Cond.fieldLink RX3 24 "StoneDates$Net" "days" "[I", Cond.methodLink RX3 87 yX3_meet, Cond.instanceMethod yX3_meet, Cond.selects RX3 yX3_meet yX3_meet, Cond.code yX3_meet cX3_meet 13 (some .boolean), Cond.fieldLink RX3 35 "StoneDates$Net" "joined" "[[I", Cond.fieldLink RX3 38 "StoneDates$Net" "joinedSize" "[I", Cond.methodLink RX3 91 yX3_daysOf, Cond.instanceMethod yX3_daysOf, Cond.selects RX3 yX3_daysOf yX3_daysOf, Cond.code yX3_daysOf cX3_daysOf 3 (some (.array .int)), Cond.fieldLink RX3 98 "StoneDates$Stone" "days" "[I", Cond.methodLink RX3 95 yX3_sizeOf, Cond.instanceMethod yX3_sizeOf, Cond.selects RX3 yX3_sizeOf yX3_sizeOf, Cond.code yX3_sizeOf cX3_sizeOf 3 (some .int)]
def wsL_settled_r4 : List Cond := [Cond.methodLink RX8 165 yX3_settledSize, Cond.instanceMethod yX3_settledSize, Cond.selects RX3 yX3_settledSize yX3_settledSize, Cond.code yX3_settledSize cX3_settledSize 2 (some .int)]
def wsL_settled : List Cond := .codeWith yL_settled cL_settled 4 (some .int) [(0, 9, 12, 24)] :: ((wsL_settled_r1 ++ (wsL_settled_r2 ++ (wsL_settled_r3 ++ wsL_settled_r4))) ++ wsX80 ++ wsX30 ++ wsX60 ++ (vx_atS RX8 208 "java/lang/IndexOutOfBoundsException" ["java/lang/RuntimeException", "java/lang/Exception"]).filter goodWord)
def wsL_settledDay_r1 : List Cond := [Cond.classLink RL 24 "java/lang/IndexOutOfBoundsException", Cond.methodLink RL 46 yX8_settledDay, Cond.instanceMethod yX8_settledDay, Cond.selects RX8 yX8_settledDay yX8_settledDay, Cond.initialized RX8, Cond.code yX8_settledDay cX8_settledDay 3 (some .int), Cond.fieldLink RX8 36 "StoneDates" "net" "LStoneDates$Net;", Cond.methodLink RX8 136 yX8_stoneAt, Cond.instanceMethod yX8_stoneAt, Cond.selects RX8 yX8_stoneAt yX8_stoneAt, Cond.code yX8_stoneAt cX8_stoneAt 3 (some (.object "StoneDates$Stone")), Cond.classLink RX8 204 "java/lang/IndexOutOfBoundsException", Cond.initialized "java/lang/IndexOutOfBoundsException", Cond.fieldLink RX8 51 "StoneDates" "stoneCount" "I", Cond.fieldLink RX8 15 "StoneDates" "stones" "[LStoneDates$Stone;", Cond.methodLink RX8 155 yX3_solve, Cond.instanceMethod yX3_solve, Cond.selects RX3 yX3_solve yX3_solve, Cond.initialized RX3, Cond.code yX3_solve cX3_solve 2 none, Cond.fieldLink RX3 51 "StoneDates$Net" "solvedSize" "I", Cond.fieldLink RX3 48 "StoneDates$Net" "size" "I", Cond.fieldLink RX3 54 "StoneDates$Net" "fewest" "I", Cond.fieldLink RX3 65 "StoneDates$Net" "wrongs" "I"]
def wsL_settledDay_r2 : List Cond := [Cond.methodLink RX3 57 yX3_search, Cond.instanceMethod yX3_search, Cond.selects RX3 yX3_search yX3_search, Cond.code yX3_search cX3_search 5 none, Cond.methodLink RX3 76 yJ6_bitCount_0f7a4, Cond.static yJ6_bitCount_0f7a4, Cond.initialized RJ6, Cond.code yJ6_bitCount_0f7a4 cJ6_bitCount_0f7a4 1 (some .int), Cond.constant RJ6 265 (1431655765), Cond.constant RJ6 266 (858993459), Cond.constant RJ6 267 (252645135), Cond.methodLink RX3 61 yX3_isAsked, Cond.instanceMethod yX3_isAsked, Cond.selects RX3 yX3_isAsked yX3_isAsked, Cond.code yX3_isAsked cX3_isAsked 2 (some .boolean), Cond.fieldLink RX3 11 "StoneDates$Net" "members" "[LStoneDates$Stone;", Cond.fieldLink RX3 17 "StoneDates$Net" "from" "[I", Cond.fieldLink RX3 21 "StoneDates$Net" "to" "[I", Cond.methodLink RX3 72 yX3_pass, Cond.instanceMethod yX3_pass, Cond.selects RX3 yX3_pass yX3_pass, Cond.code yX3_pass cX3_pass 2 none, Cond.fieldLink RX3 29 "StoneDates$Net" "group" "[[I", Cond.methodLink RX3 81 arraycopyName]
def wsL_settledDay_r3 : List Cond := [Cond.native arraycopyName, Cond.static arraycopyName, Cond.initialized "java/lang/System", Cond.fieldLink RX3 32 "StoneDates$Net" "offset" "[[I", Cond.methodLink RX3 68 yX3_join, Cond.instanceMethod yX3_join, Cond.selects RX3 yX3_join yX3_join, Cond.code yX3_join cX3_join 6 (some .int), Cond.fieldLink RX3 24 "StoneDates$Net" "days" "[I", Cond.methodLink RX3 87 yX3_meet, Cond.instanceMethod yX3_meet, Cond.selects RX3 yX3_meet yX3_meet, Cond.code yX3_meet cX3_meet 13 (some .boolean), Cond.fieldLink RX3 35 "StoneDates$Net" "joined" "[[I", Cond.fieldLink RX3 38 "StoneDates$Net" "joinedSize" "[I", Cond.methodLink RX3 91 yX3_daysOf, Cond.instanceMethod yX3_daysOf, Cond.selects RX3 yX3_daysOf yX3_daysOf, Cond.code yX3_daysOf cX3_daysOf 3 (some (.array .int)), Cond.fieldLink RX3 98 "StoneDates$Stone" "days" "[I", Cond.methodLink RX3 95 yX3_sizeOf, Cond.instanceMethod yX3_sizeOf, Cond.selects RX3 yX3_sizeOf yX3_sizeOf, Cond.code yX3_sizeOf cX3_sizeOf 3 (some .int)]
def wsL_settledDay_r4 : List Cond := [Cond.methodLink RX8 168 yX3_settledAt, Cond.instanceMethod yX3_settledAt, Cond.selects RX3 yX3_settledAt yX3_settledAt, Cond.code yX3_settledAt cX3_settledAt 3 (some .int), Cond.methodLink RX3 99 yX3_settledSize, Cond.instanceMethod yX3_settledSize, Cond.selects RX3 yX3_settledSize yX3_settledSize, Cond.code yX3_settledSize cX3_settledSize 2 (some .int)]
def wsL_settledDay : List Cond := .codeWith yL_settledDay cL_settledDay 5 (some .int) [(0, 10, 13, 24)] :: ((wsL_settledDay_r1 ++ (wsL_settledDay_r2 ++ (wsL_settledDay_r3 ++ wsL_settledDay_r4))) ++ wsX80 ++ wsX30 ++ wsX60 ++ (vx_atS RX8 208 "java/lang/IndexOutOfBoundsException" ["java/lang/RuntimeException", "java/lang/Exception"]).filter goodWord)
def wsL_eclipse : List Cond := .codeWith yL_eclipse cL_eclipse 4 (some .int) [(0, 9, 12, 13)] :: ([.classLink RL 13 "java/lang/IllegalArgumentException", .methodLink RL 49 yX8_eclipse, .instanceMethod yX8_eclipse, .selects RX8 yX8_eclipse yX8_eclipse, .initialized RX8, .code yX8_eclipse cX8_eclipse 2 (some .int), .classLink RX8 54 "java/lang/IllegalArgumentException", .initialized "java/lang/IllegalArgumentException", .constant RX8 172 (10000000), .fieldLink RX8 43 "StoneDates" "sky" "LStoneDates$Sky;", .methodLink RX8 175 yX5_add, .instanceMethod yX5_add, .selects RX5 yX5_add yX5_add, .initialized RX5, .code yX5_add cX5_add 4 (some .int), .fieldLink RX5 35 "StoneDates$Sky" "size" "I", .fieldLink RX5 9 "StoneDates$Sky" "eclipses" "[I", .methodLink RX5 38 arraycopyName, .native arraycopyName, .static arraycopyName, .initialized "java/lang/System", .fieldLink RX5 31 "StoneDates$Sky" "solvedNear" "I"] ++ wsX80 ++ wsX50 ++ (vx_atS RX8 58 "java/lang/IllegalArgumentException" ["java/lang/RuntimeException", "java/lang/Exception"]).filter goodWord)
def wsL_names_r1 : List Cond := [Cond.classLink RL 24 "java/lang/IndexOutOfBoundsException", Cond.classLink RL 15 "java/lang/IllegalStateException", Cond.methodLink RL 52 yX8_names, Cond.instanceMethod yX8_names, Cond.selects RX8 yX8_names yX8_names, Cond.initialized RX8, Cond.code yX8_names cX8_names 4 (some .boolean), Cond.classLink RX8 61 "java/lang/IllegalStateException", Cond.initialized "java/lang/IllegalStateException", Cond.fieldLink RX8 140 "StoneDates$Stone" "many" "I", Cond.fieldLink RX8 141 "StoneDates$Stone" "days" "[I", Cond.fieldLink RX8 43 "StoneDates" "sky" "LStoneDates$Sky;", Cond.methodLink RX8 136 yX8_stoneAt, Cond.instanceMethod yX8_stoneAt, Cond.selects RX8 yX8_stoneAt yX8_stoneAt, Cond.code yX8_stoneAt cX8_stoneAt 3 (some (.object "StoneDates$Stone")), Cond.classLink RX8 204 "java/lang/IndexOutOfBoundsException", Cond.initialized "java/lang/IndexOutOfBoundsException", Cond.fieldLink RX8 51 "StoneDates" "stoneCount" "I", Cond.fieldLink RX8 15 "StoneDates" "stones" "[LStoneDates$Stone;", Cond.methodLink RX8 179 yX5_tell, Cond.instanceMethod yX5_tell, Cond.selects RX5 yX5_tell yX5_tell, Cond.initialized RX5]
def wsL_names_r2 : List Cond := [Cond.code yX5_tell cX5_tell 5 (some .boolean), Cond.fieldLink RX5 15 "StoneDates$Sky" "isNaming" "[Z", Cond.fieldLink RX5 19 "StoneDates$Sky" "dayOf" "[I", Cond.fieldLink RX5 44 "StoneDates$Sky" "naming" "I", Cond.fieldLink RX5 31 "StoneDates$Sky" "solvedNear" "I"]
def wsL_names : List Cond := .codeWith yL_names cL_names 5 (some .int) [(0, 17, 20, 24), (0, 17, 24, 15)] :: ((wsL_names_r1 ++ wsL_names_r2) ++ wsX60 ++ wsX80 ++ wsX50 ++ (vx_atS RX8 65 "java/lang/IllegalStateException" ["java/lang/RuntimeException", "java/lang/Exception"]).filter goodWord ++ (vx_atS RX8 208 "java/lang/IndexOutOfBoundsException" ["java/lang/RuntimeException", "java/lang/Exception"]).filter goodWord)
def wsL_start_r1 : List Cond := [Cond.classLink RL 13 "java/lang/IllegalArgumentException", Cond.classLink RL 15 "java/lang/IllegalStateException", Cond.methodLink RL 56 yX8_start, Cond.instanceMethod yX8_start, Cond.selects RX8 yX8_start yX8_start, Cond.initialized RX8, Cond.code yX8_start cX8_start 2 (some .int), Cond.fieldLink RX8 43 "StoneDates" "sky" "LStoneDates$Sky;", Cond.fieldLink RX8 186 "StoneDates$Sky" "bestStart" "I", Cond.methodLink RX8 183 yX8_solveSky, Cond.instanceMethod yX8_solveSky, Cond.selects RX8 yX8_solveSky yX8_solveSky, Cond.code yX8_solveSky cX8_solveSky 2 none, Cond.classLink RX8 54 "java/lang/IllegalArgumentException", Cond.initialized "java/lang/IllegalArgumentException", Cond.classLink RX8 61 "java/lang/IllegalStateException", Cond.initialized "java/lang/IllegalStateException", Cond.fieldLink RX8 192 "StoneDates$Sky" "size" "I", Cond.fieldLink RX8 193 "StoneDates$Sky" "naming" "I", Cond.methodLink RX8 215 yX5_solve, Cond.instanceMethod yX5_solve, Cond.selects RX5 yX5_solve yX5_solve, Cond.initialized RX5, Cond.code yX5_solve cX5_solve 8 none]
def wsL_start_r2 : List Cond := [Cond.fieldLink RX5 31 "StoneDates$Sky" "solvedNear" "I", Cond.fieldLink RX5 55 "StoneDates$Sky" "agreeing" "I", Cond.fieldLink RX5 58 "StoneDates$Sky" "slope" "I", Cond.fieldLink RX5 61 "StoneDates$Sky" "height" "J", Cond.fieldLink RX5 65 "StoneDates$Sky" "bestAgreeing" "I", Cond.fieldLink RX5 35 "StoneDates$Sky" "size" "I", Cond.fieldLink RX5 22 "StoneDates$Sky" "turns" "[I", Cond.fieldLink RX5 28 "StoneDates$Sky" "next" "[I", Cond.fieldLink RX5 25 "StoneDates$Sky" "dates" "[I", Cond.methodLink RX5 47 yX5_placeTurns, Cond.instanceMethod yX5_placeTurns, Cond.selects RX5 yX5_placeTurns yX5_placeTurns, Cond.code yX5_placeTurns cX5_placeTurns 5 none, Cond.fieldLink RX5 9 "StoneDates$Sky" "eclipses" "[I", Cond.methodLink RX5 78 Lib.Math.max.name, Cond.static Lib.Math.max.name, Cond.initialized "java/lang/Math", Cond.code Lib.Math.max.name Lib.Math.max.code 2 (some .int), Cond.methodLink RX5 84 Lib.Math.min.name, Cond.static Lib.Math.min.name, Cond.code Lib.Math.min.name Lib.Math.min.code 2 (some .int), Cond.methodLink RX5 51 yX5_gatherDates, Cond.instanceMethod yX5_gatherDates, Cond.selects RX5 yX5_gatherDates yX5_gatherDates]
def wsL_start_r3 : List Cond := [Cond.code yX5_gatherDates cX5_gatherDates 3 (some .int), Cond.fieldLink RX5 15 "StoneDates$Sky" "isNaming" "[Z", Cond.fieldLink RX5 19 "StoneDates$Sky" "dayOf" "[I", Cond.methodLink RX5 68 yX5_firstToTurn, Cond.instanceMethod yX5_firstToTurn, Cond.selects RX5 yX5_firstToTurn yX5_firstToTurn, Cond.code yX5_firstToTurn cX5_firstToTurn 6 (some .int), Cond.methodLink RX5 72 yX5_consider, Cond.instanceMethod yX5_consider, Cond.selects RX5 yX5_consider yX5_consider, Cond.code yX5_consider cX5_consider 4 none, Cond.fieldLink RX5 89 "StoneDates$Sky" "bestSum" "J", Cond.fieldLink RX5 92 "StoneDates$Sky" "bestStart" "I", Cond.methodLink RX5 75 yX5_turn, Cond.instanceMethod yX5_turn, Cond.selects RX5 yX5_turn yX5_turn, Cond.code yX5_turn cX5_turn 4 none, Cond.constantLong RX5 87 (2)]
def wsL_start : List Cond := .codeWith yL_start cL_start 4 (some .int) [(0, 9, 12, 13), (0, 9, 15, 15)] :: ((wsL_start_r1 ++ (wsL_start_r2 ++ wsL_start_r3)) ++ wsX80 ++ wsX50 ++ (vx_atS RX8 58 "java/lang/IllegalArgumentException" ["java/lang/RuntimeException", "java/lang/Exception"]).filter goodWord ++ (vx_atS RX8 65 "java/lang/IllegalStateException" ["java/lang/RuntimeException", "java/lang/Exception"]).filter goodWord)
def wsL_agrees_r1 : List Cond := [Cond.classLink RL 13 "java/lang/IllegalArgumentException", Cond.classLink RL 15 "java/lang/IllegalStateException", Cond.methodLink RL 59 yX8_agrees, Cond.instanceMethod yX8_agrees, Cond.selects RX8 yX8_agrees yX8_agrees, Cond.initialized RX8, Cond.code yX8_agrees cX8_agrees 2 (some .int), Cond.fieldLink RX8 43 "StoneDates" "sky" "LStoneDates$Sky;", Cond.fieldLink RX8 189 "StoneDates$Sky" "bestAgreeing" "I", Cond.methodLink RX8 183 yX8_solveSky, Cond.instanceMethod yX8_solveSky, Cond.selects RX8 yX8_solveSky yX8_solveSky, Cond.code yX8_solveSky cX8_solveSky 2 none, Cond.classLink RX8 54 "java/lang/IllegalArgumentException", Cond.initialized "java/lang/IllegalArgumentException", Cond.classLink RX8 61 "java/lang/IllegalStateException", Cond.initialized "java/lang/IllegalStateException", Cond.fieldLink RX8 192 "StoneDates$Sky" "size" "I", Cond.fieldLink RX8 193 "StoneDates$Sky" "naming" "I", Cond.methodLink RX8 215 yX5_solve, Cond.instanceMethod yX5_solve, Cond.selects RX5 yX5_solve yX5_solve, Cond.initialized RX5, Cond.code yX5_solve cX5_solve 8 none]
def wsL_agrees_r2 : List Cond := [Cond.fieldLink RX5 31 "StoneDates$Sky" "solvedNear" "I", Cond.fieldLink RX5 55 "StoneDates$Sky" "agreeing" "I", Cond.fieldLink RX5 58 "StoneDates$Sky" "slope" "I", Cond.fieldLink RX5 61 "StoneDates$Sky" "height" "J", Cond.fieldLink RX5 65 "StoneDates$Sky" "bestAgreeing" "I", Cond.fieldLink RX5 35 "StoneDates$Sky" "size" "I", Cond.fieldLink RX5 22 "StoneDates$Sky" "turns" "[I", Cond.fieldLink RX5 28 "StoneDates$Sky" "next" "[I", Cond.fieldLink RX5 25 "StoneDates$Sky" "dates" "[I", Cond.methodLink RX5 47 yX5_placeTurns, Cond.instanceMethod yX5_placeTurns, Cond.selects RX5 yX5_placeTurns yX5_placeTurns, Cond.code yX5_placeTurns cX5_placeTurns 5 none, Cond.fieldLink RX5 9 "StoneDates$Sky" "eclipses" "[I", Cond.methodLink RX5 78 Lib.Math.max.name, Cond.static Lib.Math.max.name, Cond.initialized "java/lang/Math", Cond.code Lib.Math.max.name Lib.Math.max.code 2 (some .int), Cond.methodLink RX5 84 Lib.Math.min.name, Cond.static Lib.Math.min.name, Cond.code Lib.Math.min.name Lib.Math.min.code 2 (some .int), Cond.methodLink RX5 51 yX5_gatherDates, Cond.instanceMethod yX5_gatherDates, Cond.selects RX5 yX5_gatherDates yX5_gatherDates]
def wsL_agrees_r3 : List Cond := [Cond.code yX5_gatherDates cX5_gatherDates 3 (some .int), Cond.fieldLink RX5 15 "StoneDates$Sky" "isNaming" "[Z", Cond.fieldLink RX5 19 "StoneDates$Sky" "dayOf" "[I", Cond.methodLink RX5 68 yX5_firstToTurn, Cond.instanceMethod yX5_firstToTurn, Cond.selects RX5 yX5_firstToTurn yX5_firstToTurn, Cond.code yX5_firstToTurn cX5_firstToTurn 6 (some .int), Cond.methodLink RX5 72 yX5_consider, Cond.instanceMethod yX5_consider, Cond.selects RX5 yX5_consider yX5_consider, Cond.code yX5_consider cX5_consider 4 none, Cond.fieldLink RX5 89 "StoneDates$Sky" "bestSum" "J", Cond.fieldLink RX5 92 "StoneDates$Sky" "bestStart" "I", Cond.methodLink RX5 75 yX5_turn, Cond.instanceMethod yX5_turn, Cond.selects RX5 yX5_turn yX5_turn, Cond.code yX5_turn cX5_turn 4 none, Cond.constantLong RX5 87 (2)]
def wsL_agrees : List Cond := .codeWith yL_agrees cL_agrees 4 (some .int) [(0, 9, 12, 13), (0, 9, 15, 15)] :: ((wsL_agrees_r1 ++ (wsL_agrees_r2 ++ wsL_agrees_r3)) ++ wsX80 ++ wsX50 ++ (vx_atS RX8 58 "java/lang/IllegalArgumentException" ["java/lang/RuntimeException", "java/lang/Exception"]).filter goodWord ++ (vx_atS RX8 65 "java/lang/IllegalStateException" ["java/lang/RuntimeException", "java/lang/Exception"]).filter goodWord)
def wsL_law0_r1 : List Cond := [Cond.classLink RL 8 RX8, Cond.instantiable RX8 8, Cond.initialized RX8, Cond.classLink RL 63 RX9, Cond.instantiable RX9 33, Cond.initialized RX9, Cond.arrayClass .long, Cond.methodLink RL 62 yX8_init, Cond.instanceMethod yX8_init, Cond.code yX8_init cX8_init 1 none, Cond.methodLink RX8 1 objectInit, Cond.instanceMethod objectInit, Cond.code objectInit ⟨#[0xb1]⟩ 1 none, Cond.arrayClass .int, Cond.fieldLink RX8 9 "StoneDates" "bases" "[I", Cond.classLink RX8 13 RX6, Cond.fieldLink RX8 15 "StoneDates" "stones" "[LStoneDates$Stone;", Cond.classLink RX8 19 RX4, Cond.instantiable RX4 7, Cond.initialized RX4, Cond.fieldLink RX8 22 "StoneDates" "reader" "LStoneDates$Reader;", Cond.classLink RX8 26 RX1, Cond.instantiable RX1 7, Cond.initialized RX1]
def wsL_law0_r2 : List Cond := [Cond.fieldLink RX8 29 "StoneDates" "finder" "LStoneDates$Finder;", Cond.classLink RX8 33 RX3, Cond.instantiable RX3 13, Cond.initialized RX3, Cond.fieldLink RX8 36 "StoneDates" "net" "LStoneDates$Net;", Cond.classLink RX8 40 RX5, Cond.instantiable RX5 15, Cond.initialized RX5, Cond.fieldLink RX8 43 "StoneDates" "sky" "LStoneDates$Sky;", Cond.fieldLink RX8 47 "StoneDates" "townCount" "I", Cond.fieldLink RX8 51 "StoneDates" "stoneCount" "I", Cond.instanceMethod yX4_init, Cond.code yX4_init cX4_init 1 none, Cond.methodLink RX4 3 objectInit, Cond.fieldLink RX4 9 "StoneDates$Reader" "sets" "[I", Cond.fieldLink RX4 15 "StoneDates$Reader" "bytes" "[I", Cond.instanceMethod yX1_init, Cond.code yX1_init cX1_init 1 none, Cond.methodLink RX1 3 objectInit, Cond.fieldLink RX1 9 "StoneDates$Finder" "days" "[I", Cond.classLink RX1 15 RX7, Cond.instantiable RX7 3, Cond.initialized RX7, Cond.fieldLink RX1 20 "StoneDates$Finder" "inner" "LStoneDates$Wheel;"]
def wsL_law0_r3 : List Cond := [Cond.fieldLink RX1 24 "StoneDates$Finder" "thirteen" "LStoneDates$Wheel;", Cond.fieldLink RX1 27 "StoneDates$Finder" "year" "LStoneDates$Wheel;", Cond.fieldLink RX1 30 "StoneDates$Finder" "lunar" "LStoneDates$Wheel;", Cond.methodLink RX1 17 yX7_init, Cond.instanceMethod yX7_init, Cond.code yX7_init cX7_init 2 none, Cond.methodLink RX7 3 objectInit, Cond.methodLink RX7 9 Lib.Math.max.name, Cond.static Lib.Math.max.name, Cond.initialized "java/lang/Math", Cond.code Lib.Math.max.name Lib.Math.max.code 2 (some .int), Cond.fieldLink RX7 15 "StoneDates$Wheel" "period" "I", Cond.fieldLink RX7 19 "StoneDates$Wheel" "bits" "[J", Cond.methodLink RX8 35 yX3_init, Cond.instanceMethod yX3_init, Cond.code yX3_init cX3_init 2 none, Cond.methodLink RX3 3 objectInit, Cond.classLink RX3 9 RX6, Cond.fieldLink RX3 11 "StoneDates$Net" "members" "[LStoneDates$Stone;", Cond.fieldLink RX3 17 "StoneDates$Net" "from" "[I", Cond.fieldLink RX3 21 "StoneDates$Net" "to" "[I", Cond.fieldLink RX3 24 "StoneDates$Net" "days" "[I", Cond.classLink RX3 27 "[[I", Cond.fieldLink RX3 29 "StoneDates$Net" "group" "[[I"]
def wsL_law0_r4 : List Cond := [Cond.fieldLink RX3 32 "StoneDates$Net" "offset" "[[I", Cond.fieldLink RX3 35 "StoneDates$Net" "joined" "[[I", Cond.fieldLink RX3 38 "StoneDates$Net" "joinedSize" "[I", Cond.instanceMethod yX5_init, Cond.code yX5_init cX5_init 1 none, Cond.methodLink RX5 3 objectInit, Cond.fieldLink RX5 9 "StoneDates$Sky" "eclipses" "[I", Cond.arrayClass .boolean, Cond.fieldLink RX5 15 "StoneDates$Sky" "isNaming" "[Z", Cond.fieldLink RX5 19 "StoneDates$Sky" "dayOf" "[I", Cond.fieldLink RX5 22 "StoneDates$Sky" "turns" "[I", Cond.fieldLink RX5 25 "StoneDates$Sky" "dates" "[I", Cond.fieldLink RX5 28 "StoneDates$Sky" "next" "[I", Cond.fieldLink RX5 31 "StoneDates$Sky" "solvedNear" "I", Cond.methodLink RL 65 yX9_init, Cond.instanceMethod yX9_init, Cond.code yX9_init cX9_init 1 none, Cond.methodLink RX9 1 objectInit, Cond.fieldLink RX9 9 "StoneDatesModel" "bases" "[I", Cond.arrayClass .byte, Cond.fieldLink RX9 13 "StoneDatesModel" "tape" "[B", Cond.fieldLink RX9 17 "StoneDatesModel" "low" "[J", Cond.fieldLink RX9 21 "StoneDatesModel" "high" "[J", Cond.fieldLink RX9 24 "StoneDatesModel" "townOf" "[I"]
def wsL_law0_r5 : List Cond := [Cond.fieldLink RX9 27 "StoneDatesModel" "many" "[I", Cond.fieldLink RX9 30 "StoneDatesModel" "days" "[I", Cond.fieldLink RX9 33 "StoneDatesModel" "fromOf" "[I", Cond.fieldLink RX9 36 "StoneDatesModel" "toOf" "[I", Cond.fieldLink RX9 39 "StoneDatesModel" "farOf" "[I", Cond.fieldLink RX9 42 "StoneDatesModel" "asked" "[I", Cond.fieldLink RX9 45 "StoneDatesModel" "part" "[I", Cond.fieldLink RX9 48 "StoneDatesModel" "off" "[I", Cond.fieldLink RX9 51 "StoneDatesModel" "isSettled" "[Z", Cond.fieldLink RX9 55 "StoneDatesModel" "eclipses" "[I", Cond.fieldLink RX9 58 "StoneDatesModel" "isNamed" "[Z", Cond.methodLink RL 66 yL_town, Cond.static yL_town, Cond.initialized RL, Cond.codeWith yL_town cL_town 4 (some .int) [(0, 9, 12, 13), (0, 9, 15, 15)], Cond.classLink RL 13 "java/lang/IllegalArgumentException", Cond.classLink RL 15 "java/lang/IllegalStateException", Cond.methodLink RL 7 yX8_town, Cond.instanceMethod yX8_town, Cond.selects RX8 yX8_town yX8_town, Cond.code yX8_town cX8_town 2 (some .int), Cond.classLink RX8 54 "java/lang/IllegalArgumentException", Cond.initialized "java/lang/IllegalArgumentException", Cond.classLink RX8 61 "java/lang/IllegalStateException"]
def wsL_law0_r6 : List Cond := [Cond.initialized "java/lang/IllegalStateException", Cond.methodLink RL 71 yX9_town, Cond.instanceMethod yX9_town, Cond.selects RX9 yX9_town yX9_town, Cond.code yX9_town cX9_town 2 (some .int), Cond.fieldLink RX9 61 "StoneDatesModel" "thrown" "I", Cond.fieldLink RX9 69 "StoneDatesModel" "towns" "I", Cond.methodLink RX9 65 yX9_bad, Cond.instanceMethod yX9_bad, Cond.selects RX9 yX9_bad yX9_bad, Cond.code yX9_bad cX9_bad 3 (some .boolean), Cond.methodLink RL 72 yX9_thrown, Cond.instanceMethod yX9_thrown, Cond.selects RX9 yX9_thrown yX9_thrown, Cond.code yX9_thrown cX9_thrown 1 (some .int), Cond.methodLink RL 76 yL_of, Cond.static yL_of, Cond.codeWith yL_of cL_of 5 (some .int) [(0, 10, 13, 13)], Cond.methodLink RL 17 yX8_of, Cond.instanceMethod yX8_of, Cond.selects RX8 yX8_of yX8_of, Cond.code yX8_of cX8_of 3 (some .int), Cond.methodLink RX8 66 yX8_checkDay, Cond.instanceMethod yX8_checkDay]
def wsL_law0_r7 : List Cond := [Cond.selects RX8 yX8_checkDay yX8_checkDay, Cond.code yX8_checkDay cX8_checkDay 2 none, Cond.methodLink RX8 199 yX0_has, Cond.static yX0_has, Cond.initialized RX0, Cond.code yX0_has cX0_has 1 (some .boolean), Cond.constant RX0 11 (1152000), Cond.constant RX0 12 (1583999), Cond.methodLink RX8 72 yX0_signOf, Cond.static yX0_signOf, Cond.code yX0_signOf cX0_signOf 3 (some .int), Cond.constant RX0 13 (144000), Cond.methodLink RL 79 yX9_of, Cond.instanceMethod yX9_of, Cond.selects RX9 yX9_of yX9_of, Cond.code yX9_of cX9_of 3 (some .int), Cond.methodLink RX9 79 yX9_isDay, Cond.static yX9_isDay, Cond.code yX9_isDay cX9_isDay 1 (some .boolean), Cond.constant RX9 72 (1152000), Cond.constant RX9 73 (1583999), Cond.methodLink RX9 83 yX9_valueOf, Cond.static yX9_valueOf, Cond.code yX9_valueOf cX9_valueOf 2 (some .int)]
def wsL_law0_r8 : List Cond := [Cond.constant RX9 78 (144000), Cond.methodLink RL 80 yL_moon, Cond.static yL_moon, Cond.codeWith yL_moon cL_moon 5 (some .int) [(0, 10, 13, 13), (0, 10, 17, 24)], Cond.classLink RL 24 "java/lang/IndexOutOfBoundsException", Cond.methodLink RL 21 yX8_moon, Cond.instanceMethod yX8_moon, Cond.selects RX8 yX8_moon yX8_moon, Cond.code yX8_moon cX8_moon 3 (some .int), Cond.methodLink RX8 78 yX8_checkTown, Cond.instanceMethod yX8_checkTown, Cond.selects RX8 yX8_checkTown yX8_checkTown, Cond.code yX8_checkTown cX8_checkTown 2 none, Cond.classLink RX8 204 "java/lang/IndexOutOfBoundsException", Cond.initialized "java/lang/IndexOutOfBoundsException", Cond.methodLink RL 82 yX9_moon, Cond.instanceMethod yX9_moon, Cond.selects RX9 yX9_moon yX9_moon, Cond.code yX9_moon cX9_moon 3 (some .int), Cond.methodLink RX9 87 yX9_moonOf, Cond.static yX9_moonOf, Cond.code yX9_moonOf cX9_moonOf 2 (some .int), Cond.constantLong RX9 74 (149), Cond.constantLong RX9 76 (4400)]
def wsL_law0_r9 : List Cond := [Cond.methodLink RL 83 yX8_feed, Cond.instanceMethod yX8_feed, Cond.selects RX8 yX8_feed yX8_feed, Cond.code yX8_feed cX8_feed 6 (some .int), Cond.fieldLink RX8 88 "StoneDates$Reader" "size" "I", Cond.methodLink RX8 81 yX4_hasRoom, Cond.instanceMethod yX4_hasRoom, Cond.selects RX4 yX4_hasRoom yX4_hasRoom, Cond.code yX4_hasRoom cX4_hasRoom 1 (some .boolean), Cond.fieldLink RX4 18 "StoneDates$Reader" "size" "I", Cond.methodLink RX8 85 yX4_put, Cond.instanceMethod yX4_put, Cond.selects RX4 yX4_put yX4_put, Cond.code yX4_put cX4_put 3 none, Cond.methodLink RL 87 yX9_feed, Cond.instanceMethod yX9_feed, Cond.selects RX9 yX9_feed yX9_feed, Cond.code yX9_feed cX9_feed 9 (some .int), Cond.fieldLink RX9 90 "StoneDatesModel" "taped" "I", Cond.methodLink RL 88 yL_stone, Cond.static yL_stone, Cond.codeWith yL_stone cL_stone 5 (some .int) [(0, 10, 13, 24), (0, 10, 17, 13), (0, 10, 21, 15)], Cond.methodLink RL 26 yX8_stone, Cond.instanceMethod yX8_stone]
def wsL_law0_r10 : List Cond := [Cond.selects RX8 yX8_stone yX8_stone, Cond.code yX8_stone cX8_stone 5 (some .int), Cond.fieldLink RX8 99 "StoneDates$Reader" "fault" "I", Cond.fieldLink RX8 102 "StoneDates$Reader" "sets" "[I", Cond.instantiable RX6 4, Cond.initialized RX6, Cond.methodLink RX8 109 ⟨"[I", "clone", "()Ljava/lang/Object;"⟩, Cond.sameMethod "[I" "java/lang/Object" "clone" "()Ljava/lang/Object;", Cond.native ⟨"java/lang/Object", "clone", "()Ljava/lang/Object;"⟩, Cond.instanceMethod ⟨"java/lang/Object", "clone", "()Ljava/lang/Object;"⟩, Cond.selects "[I" ⟨"[I", "clone", "()Ljava/lang/Object;"⟩ ⟨"java/lang/Object", "clone", "()Ljava/lang/Object;"⟩, Cond.classLink RX8 110 "[I", Cond.fieldLink RX8 114 "StoneDates$Finder" "days" "[I", Cond.fieldLink RX8 117 "StoneDates$Finder" "kept" "I", Cond.fieldLink RX8 126 "StoneDates$Finder" "many" "I", Cond.methodLink RX8 95 yX4_read, Cond.instanceMethod yX4_read, Cond.selects RX4 yX4_read yX4_read, Cond.code yX4_read cX4_read 3 (some .boolean), Cond.methodLink RX4 22 Lib.Math.min.name, Cond.static Lib.Math.min.name, Cond.code Lib.Math.min.name Lib.Math.min.code 2 (some .int), Cond.methodLink RX4 28 Lib.Math.max.name, Cond.fieldLink RX4 31 "StoneDates$Reader" "length" "I"]
def wsL_law0_r11 : List Cond := [Cond.fieldLink RX4 34 "StoneDates$Reader" "at" "I", Cond.methodLink RX4 37 yJ7_fill_53178, Cond.static yJ7_fill_53178, Cond.initialized RJ7, Cond.code yJ7_fill_53178 cJ7_fill_53178 4 none, Cond.methodLink RX4 43 yX4_skipBlanks, Cond.instanceMethod yX4_skipBlanks, Cond.selects RX4 yX4_skipBlanks yX4_skipBlanks, Cond.code yX4_skipBlanks cX4_skipBlanks 1 none, Cond.methodLink RX4 46 yX4_readClause, Cond.instanceMethod yX4_readClause, Cond.selects RX4 yX4_readClause yX4_readClause, Cond.code yX4_readClause cX4_readClause 4 (some .boolean), Cond.fieldLink RX4 58 "StoneDates$Kind" "width" "I", Cond.fieldLink RX4 70 "StoneDates$Kind" "first" "I", Cond.methodLink RX4 54 yX4_readWord, Cond.instanceMethod yX4_readWord, Cond.selects RX4 yX4_readWord yX4_readWord, Cond.code yX4_readWord cX4_readWord 6 (some (.object "StoneDates$Kind")), Cond.fieldLink RX4 77 "StoneDates$Reader" "KINDS" "[LStoneDates$Kind;", Cond.fieldLink RX4 81 "StoneDates$Kind" "word" "Ljava/lang/String;", Cond.methodLink RX4 85 yX4_isWord, Cond.instanceMethod yX4_isWord, Cond.selects RX4 yX4_isWord yX4_isWord]
def wsL_law0_r12 : List Cond := [Cond.code yX4_isWord cX4_isWord 5 (some .boolean), Cond.methodLink RX4 89 yJ0_length_8abf5, Cond.instanceMethod yJ0_length_8abf5, Cond.selects RJ0 yJ0_length_8abf5 yJ0_length_8abf5, Cond.initialized RJ0, Cond.code yJ0_length_8abf5 cJ0_length_8abf5 1 (some .int), Cond.fieldLink RJ0 9 "java/lang/String" "value" "[B", Cond.methodLink RJ0 335 yJ0_coder_7d493, Cond.instanceMethod yJ0_coder_7d493, Cond.selects RJ0 yJ0_coder_7d493 yJ0_coder_7d493, Cond.code yJ0_coder_7d493 cJ0_coder_7d493 1 (some .byte), Cond.fieldLink RJ0 38 "java/lang/String" "COMPACT_STRINGS" "Z", Cond.fieldLink RJ0 15 "java/lang/String" "coder" "B", Cond.methodLink RX4 94 yJ0_charAt_5068e, Cond.instanceMethod yJ0_charAt_5068e, Cond.selects RJ0 yJ0_charAt_5068e yJ0_charAt_5068e, Cond.code yJ0_charAt_5068e cJ0_charAt_5068e 2 (some .char), Cond.methodLink RJ0 492 yJ0_isLatin1_aae02, Cond.instanceMethod yJ0_isLatin1_aae02, Cond.selects RJ0 yJ0_isLatin1_aae02 yJ0_isLatin1_aae02, Cond.code yJ0_isLatin1_aae02 cJ0_isLatin1_aae02 1 (some .boolean), Cond.methodLink RJ0 495 yJ1_charAt_3b067, Cond.static yJ1_charAt_3b067, Cond.initialized RJ1]
def wsL_law0_r13 : List Cond := [Cond.code yJ1_charAt_3b067 cJ1_charAt_3b067 2 (some .char), Cond.methodLink RJ1 9 yJ0_checkIndex_df160, Cond.static yJ0_checkIndex_df160, Cond.code yJ0_checkIndex_df160 cJ0_checkIndex_df160 2 none, Cond.fieldLink RJ0 1053 "jdk/internal/util/Preconditions" "SIOOBE_FORMATTER" "Ljava/util/function/BiFunction;", Cond.methodLink RJ0 1059 yJ3_checkIndex_8e157, Cond.static yJ3_checkIndex_8e157, Cond.initialized RJ3, Cond.code yJ3_checkIndex_8e157 cJ3_checkIndex_8e157 3 (some .int), Cond.methodLink RJ0 498 yJ2_charAt_3b067, Cond.static yJ2_charAt_3b067, Cond.initialized RJ2, Cond.code yJ2_charAt_3b067 cJ2_charAt_3b067 2 (some .char), Cond.methodLink RJ2 67 yJ2_checkIndex_2214a, Cond.static yJ2_checkIndex_2214a, Cond.code yJ2_checkIndex_2214a cJ2_checkIndex_2214a 2 none, Cond.methodLink RJ2 48 yJ2_length_9d52b, Cond.static yJ2_length_9d52b, Cond.code yJ2_length_9d52b cJ2_length_9d52b 1 (some .int), Cond.methodLink RJ2 414 yJ0_checkIndex_df160, Cond.methodLink RJ2 71 yJ2_getChar_3b067, Cond.static yJ2_getChar_3b067, Cond.code yJ2_getChar_3b067 cJ2_getChar_3b067 2 (some .char), Cond.fieldLink RJ2 44 "java/lang/StringUTF16" "$assertionsDisabled" "Z"]
def wsL_law0_r14 : List Cond := [Cond.fieldLink RJ2 59 "java/lang/StringUTF16" "HI_BYTE_SHIFT" "I", Cond.fieldLink RJ2 63 "java/lang/StringUTF16" "LO_BYTE_SHIFT" "I", Cond.methodLink RX4 50 yX4_refuse, Cond.instanceMethod yX4_refuse, Cond.selects RX4 yX4_refuse yX4_refuse, Cond.code yX4_refuse cX4_refuse 2 (some .boolean), Cond.fieldLink RX4 113 "StoneDates$Reader" "fault" "I", Cond.methodLink RX4 63 yX4_demand, Cond.instanceMethod yX4_demand, Cond.selects RX4 yX4_demand yX4_demand, Cond.code yX4_demand cX4_demand 2 (some .boolean), Cond.methodLink RX4 98 yX4_takes, Cond.instanceMethod yX4_takes, Cond.selects RX4 yX4_takes yX4_takes, Cond.code yX4_takes cX4_takes 2 (some .boolean), Cond.methodLink RX4 67 yX4_readPart, Cond.instanceMethod yX4_readPart, Cond.selects RX4 yX4_readPart yX4_readPart, Cond.code yX4_readPart cX4_readPart 2 (some .boolean), Cond.fieldLink RX4 101 "StoneDates$Reader" "heard" "I", Cond.methodLink RX4 104 yX4_readRange, Cond.instanceMethod yX4_readRange, Cond.selects RX4 yX4_readRange yX4_readRange, Cond.code yX4_readRange cX4_readRange 4 (some .boolean)]
def wsL_law0_r15 : List Cond := [Cond.methodLink RX4 107 yX4_readNumber, Cond.instanceMethod yX4_readNumber, Cond.selects RX4 yX4_readNumber yX4_readNumber, Cond.code yX4_readNumber cX4_readNumber 3 (some .int), Cond.methodLink RX4 110 yX4_isDigitAt, Cond.instanceMethod yX4_isDigitAt, Cond.selects RX4 yX4_isDigitAt yX4_isDigitAt, Cond.code yX4_isDigitAt cX4_isDigitAt 2 (some .boolean), Cond.methodLink RX4 73 yX4_narrow, Cond.instanceMethod yX4_narrow, Cond.selects RX4 yX4_narrow yX4_narrow, Cond.code yX4_narrow cX4_narrow 2 none, Cond.methodLink RX8 105 yX1_seek, Cond.instanceMethod yX1_seek, Cond.selects RX1 yX1_seek yX1_seek, Cond.code yX1_seek cX1_seek 4 none, Cond.fieldLink RX1 33 "StoneDates$Finder" "kept" "I", Cond.fieldLink RX1 37 "StoneDates$Finder" "many" "I", Cond.constant RX1 56 (1152000), Cond.constant RX1 57 (1583999), Cond.methodLink RX1 40 yX1_turnInner, Cond.instanceMethod yX1_turnInner, Cond.selects RX1 yX1_turnInner yX1_turnInner, Cond.code yX1_turnInner cX1_turnInner 8 none]
def wsL_law0_r16 : List Cond := [Cond.methodLink RX1 69 yX7_reset, Cond.instanceMethod yX7_reset, Cond.selects RX7 yX7_reset yX7_reset, Cond.code yX7_reset cX7_reset 2 none, Cond.fieldLink RX7 23 "StoneDates$Wheel" "free" "Z", Cond.methodLink RX7 27 yJ7_fill_d0a16, Cond.static yJ7_fill_d0a16, Cond.code yJ7_fill_d0a16 cJ7_fill_d0a16 5 none, Cond.methodLink RX1 58 yX0_signOf, Cond.methodLink RX1 62 yX0_holds, Cond.static yX0_holds, Cond.code yX0_holds cX0_holds 2 (some .boolean), Cond.methodLink RX1 73 yX7_mark, Cond.instanceMethod yX7_mark, Cond.selects RX7 yX7_mark yX7_mark, Cond.code yX7_mark cX7_mark 3 none, Cond.methodLink RX1 44 yX1_turnThirteen, Cond.instanceMethod yX1_turnThirteen, Cond.selects RX1 yX1_turnThirteen yX1_turnThirteen, Cond.code yX1_turnThirteen cX1_turnThirteen 3 none, Cond.methodLink RX1 47 yX1_turnYear, Cond.instanceMethod yX1_turnYear, Cond.selects RX1 yX1_turnYear yX1_turnYear, Cond.code yX1_turnYear cX1_turnYear 5 none]
def wsL_law0_r17 : List Cond := [Cond.methodLink RX1 51 yX1_turnLunar, Cond.instanceMethod yX1_turnLunar, Cond.selects RX1 yX1_turnLunar yX1_turnLunar, Cond.code yX1_turnLunar cX1_turnLunar 3 none, Cond.methodLink RX1 66 yX1_scan, Cond.instanceMethod yX1_scan, Cond.selects RX1 yX1_scan yX1_scan, Cond.code yX1_scan cX1_scan 9 none, Cond.methodLink RX1 76 yX7_window, Cond.instanceMethod yX7_window, Cond.selects RX7 yX7_window yX7_window, Cond.code yX7_window cX7_window 5 (some .long), Cond.constantLong RX7 33 (1152921504606846975), Cond.methodLink RX1 80 yJ13_bitCount_95d88, Cond.static yJ13_bitCount_95d88, Cond.initialized RJ13, Cond.code yJ13_bitCount_95d88 cJ13_bitCount_95d88 2 (some .int), Cond.constantLong RJ13 314 (6148914691236517205), Cond.constantLong RJ13 316 (3689348814741910323), Cond.constantLong RJ13 318 (1085102592571150095), Cond.methodLink RX1 86 yX1_keep, Cond.instanceMethod yX1_keep, Cond.selects RX1 yX1_keep yX1_keep, Cond.code yX1_keep cX1_keep 8 none]
def wsL_law0_r18 : List Cond := [Cond.methodLink RX8 120 yJ7_copyOf_59c91, Cond.static yJ7_copyOf_59c91, Cond.code yJ7_copyOf_59c91 cJ7_copyOf_59c91 3 (some (.array .int)), Cond.methodLink RJ7 316 ⟨"[I", "clone", "()Ljava/lang/Object;"⟩, Cond.classLink RJ7 317 "[I", Cond.methodLink RJ7 304 Lib.Math.min.name, Cond.methodLink RJ7 150 arraycopyName, Cond.native arraycopyName, Cond.static arraycopyName, Cond.initialized "java/lang/System", Cond.methodLink RX8 129 yX6_init, Cond.instanceMethod yX6_init, Cond.code yX6_init cX6_init 5 none, Cond.methodLink RX6 1 objectInit, Cond.fieldLink RX6 7 "StoneDates$Stone" "base" "I", Cond.fieldLink RX6 13 "StoneDates$Stone" "sets" "[I", Cond.fieldLink RX6 17 "StoneDates$Stone" "days" "[I", Cond.fieldLink RX6 20 "StoneDates$Stone" "many" "I", Cond.methodLink RX8 132 yX3_take, Cond.instanceMethod yX3_take, Cond.selects RX3 yX3_take yX3_take, Cond.code yX3_take cX3_take 3 none, Cond.fieldLink RX3 41 "StoneDates$Stone" "many" "I", Cond.fieldLink RX3 45 "StoneDates$Net" "memberCount" "I"]
def wsL_law0_r19 : List Cond := [Cond.methodLink RL 90 yX9_stone, Cond.instanceMethod yX9_stone, Cond.selects RX9 yX9_stone yX9_stone, Cond.code yX9_stone cX9_stone 5 (some .int), Cond.fieldLink RX9 163 "StoneDatesModel" "stones" "I", Cond.fieldLink RX9 93 "StoneDatesModel" "size" "I", Cond.fieldLink RX9 96 "StoneDatesModel" "at" "I", Cond.fieldLink RX9 138 "StoneDatesModel" "isWrong" "Z", Cond.constantLong RX9 152 (-1), Cond.fieldLink RX9 176 "StoneDatesModel" "isSolved" "Z", Cond.methodLink RX9 166 yX9_clauseHere, Cond.instanceMethod yX9_clauseHere, Cond.selects RX9 yX9_clauseHere yX9_clauseHere, Cond.code yX9_clauseHere cX9_clauseHere 2 (some .int), Cond.methodLink RX9 130 yX9_wordOf, Cond.static yX9_wordOf, Cond.code yX9_wordOf cX9_wordOf 1 (some (.object "java/lang/String")), Cond.methodLink RX9 134 yX9_isWord, Cond.instanceMethod yX9_isWord, Cond.selects RX9 yX9_isWord yX9_isWord, Cond.code yX9_isWord cX9_isWord 3 (some .boolean), Cond.methodLink RX9 103 yX9_blanks, Cond.instanceMethod yX9_blanks, Cond.selects RX9 yX9_blanks yX9_blanks]
def wsL_law0_r20 : List Cond := [Cond.code yX9_blanks cX9_blanks 1 none, Cond.methodLink RX9 99 yX9_byteAt, Cond.instanceMethod yX9_byteAt, Cond.selects RX9 yX9_byteAt yX9_byteAt, Cond.code yX9_byteAt cX9_byteAt 2 (some .int), Cond.methodLink RX9 106 yJ0_length_8abf5, Cond.methodLink RX9 112 yJ0_charAt_5068e, Cond.methodLink RX9 169 yX9_clause, Cond.instanceMethod yX9_clause, Cond.selects RX9 yX9_clause yX9_clause, Cond.code yX9_clause cX9_clause 4 none, Cond.methodLink RX9 159 yX9_allows, Cond.instanceMethod yX9_allows, Cond.selects RX9 yX9_allows yX9_allows, Cond.code yX9_allows cX9_allows 3 none, Cond.fieldLink RX9 142 "StoneDatesModel" "someLow" "J", Cond.fieldLink RX9 146 "StoneDatesModel" "someHigh" "J", Cond.methodLink RX9 156 yX9_some, Cond.instanceMethod yX9_some, Cond.selects RX9 yX9_some yX9_some, Cond.code yX9_some cX9_some 5 none, Cond.methodLink RX9 149 yX9_eat, Cond.instanceMethod yX9_eat, Cond.selects RX9 yX9_eat yX9_eat]
def wsL_law0_r21 : List Cond := [Cond.code yX9_eat cX9_eat 3 (some .boolean), Cond.methodLink RX9 154 yX9_number, Cond.instanceMethod yX9_number, Cond.selects RX9 yX9_number yX9_number, Cond.code yX9_number cX9_number 3 (some .int), Cond.methodLink RX9 172 yX9_lists, Cond.instanceMethod yX9_lists, Cond.selects RX9 yX9_lists yX9_lists, Cond.code yX9_lists cX9_lists 3 none, Cond.methodLink RX9 183 yX9_isFit, Cond.instanceMethod yX9_isFit, Cond.selects RX9 yX9_isFit yX9_isFit, Cond.code yX9_isFit cX9_isFit 4 (some .boolean), Cond.methodLink RX9 179 yX9_isAllowed, Cond.instanceMethod yX9_isAllowed, Cond.selects RX9 yX9_isAllowed yX9_isAllowed, Cond.code yX9_isAllowed cX9_isAllowed 4 (some .boolean), Cond.methodLink RL 91 yL_many, Cond.static yL_many, Cond.codeWith yL_many cL_many 4 (some .int) [(0, 9, 12, 24)], Cond.methodLink RL 29 yX8_many, Cond.instanceMethod yX8_many, Cond.selects RX8 yX8_many yX8_many, Cond.code yX8_many cX8_many 2 (some .int)]
def wsL_law0_r22 : List Cond := [Cond.fieldLink RX8 140 "StoneDates$Stone" "many" "I", Cond.methodLink RX8 136 yX8_stoneAt, Cond.instanceMethod yX8_stoneAt, Cond.selects RX8 yX8_stoneAt yX8_stoneAt, Cond.code yX8_stoneAt cX8_stoneAt 3 (some (.object "StoneDates$Stone")), Cond.methodLink RL 93 yX9_many, Cond.instanceMethod yX9_many, Cond.selects RX9 yX9_many yX9_many, Cond.code yX9_many cX9_many 2 (some .int), Cond.methodLink RX9 187 yX9_isStone, Cond.instanceMethod yX9_isStone, Cond.selects RX9 yX9_isStone yX9_isStone, Cond.code yX9_isStone cX9_isStone 2 (some .boolean), Cond.methodLink RL 94 yL_day, Cond.static yL_day, Cond.codeWith yL_day cL_day 5 (some .int) [(0, 10, 13, 24)], Cond.methodLink RL 32 yX8_day, Cond.instanceMethod yX8_day, Cond.selects RX8 yX8_day yX8_day, Cond.code yX8_day cX8_day 4 (some .int), Cond.fieldLink RX8 141 "StoneDates$Stone" "days" "[I", Cond.methodLink RL 96 yX9_day, Cond.instanceMethod yX9_day, Cond.selects RX9 yX9_day yX9_day]
def wsL_law0_r23 : List Cond := [Cond.code yX9_day cX9_day 3 (some .int), Cond.methodLink RL 97 yL_fits, Cond.static yL_fits, Cond.codeWith yL_fits cL_fits 5 (some .int) [(0, 17, 20, 24), (0, 17, 24, 13)], Cond.methodLink RL 35 yX8_fits, Cond.instanceMethod yX8_fits, Cond.selects RX8 yX8_fits yX8_fits, Cond.code yX8_fits cX8_fits 4 (some .boolean), Cond.methodLink RX8 142 yX6_allows, Cond.instanceMethod yX6_allows, Cond.selects RX6 yX6_allows yX6_allows, Cond.code yX6_allows cX6_allows 3 (some .boolean), Cond.methodLink RX6 23 yX0_signOf, Cond.methodLink RX6 29 yX0_holds, Cond.methodLink RL 99 yX9_fits, Cond.instanceMethod yX9_fits, Cond.selects RX9 yX9_fits yX9_fits, Cond.code yX9_fits cX9_fits 3 (some .boolean), Cond.methodLink RL 100 yL_distance, Cond.static yL_distance, Cond.codeWith yL_distance cL_distance 6 (some .int) [(0, 12, 15, 24), (0, 12, 19, 13), (0, 12, 23, 15)], Cond.methodLink RL 39 yX8_distance, Cond.instanceMethod yX8_distance, Cond.selects RX8 yX8_distance yX8_distance]
def wsL_law0_r24 : List Cond := [Cond.code yX8_distance cX8_distance 4 (some .int), Cond.constant RX8 145 (-500000), Cond.constant RX8 146 (500000), Cond.fieldLink RX8 149 "StoneDates$Net" "size" "I", Cond.methodLink RX8 152 yX3_add, Cond.instanceMethod yX3_add, Cond.selects RX3 yX3_add yX3_add, Cond.code yX3_add cX3_add 4 (some .int), Cond.fieldLink RX3 48 "StoneDates$Net" "size" "I", Cond.methodLink RL 103 yX9_distance, Cond.instanceMethod yX9_distance, Cond.selects RX9 yX9_distance yX9_distance, Cond.code yX9_distance cX9_distance 4 (some .int), Cond.constant RX9 190 (-500000), Cond.constant RX9 191 (500000), Cond.fieldLink RX9 192 "StoneDatesModel" "distances" "I", Cond.methodLink RL 104 yX8_least, Cond.instanceMethod yX8_least, Cond.selects RX8 yX8_least yX8_least, Cond.code yX8_least cX8_least 1 (some .int), Cond.fieldLink RX8 158 "StoneDates$Net" "fewest" "I", Cond.methodLink RX8 155 yX3_solve, Cond.instanceMethod yX3_solve, Cond.selects RX3 yX3_solve yX3_solve]
def wsL_law0_r25 : List Cond := [Cond.code yX3_solve cX3_solve 2 none, Cond.fieldLink RX3 51 "StoneDates$Net" "solvedSize" "I", Cond.fieldLink RX3 54 "StoneDates$Net" "fewest" "I", Cond.fieldLink RX3 65 "StoneDates$Net" "wrongs" "I", Cond.methodLink RX3 57 yX3_search, Cond.instanceMethod yX3_search, Cond.selects RX3 yX3_search yX3_search, Cond.code yX3_search cX3_search 5 none, Cond.methodLink RX3 76 yJ6_bitCount_0f7a4, Cond.static yJ6_bitCount_0f7a4, Cond.initialized RJ6, Cond.code yJ6_bitCount_0f7a4 cJ6_bitCount_0f7a4 1 (some .int), Cond.constant RJ6 265 (1431655765), Cond.constant RJ6 266 (858993459), Cond.constant RJ6 267 (252645135), Cond.methodLink RX3 61 yX3_isAsked, Cond.instanceMethod yX3_isAsked, Cond.selects RX3 yX3_isAsked yX3_isAsked, Cond.code yX3_isAsked cX3_isAsked 2 (some .boolean), Cond.methodLink RX3 72 yX3_pass, Cond.instanceMethod yX3_pass, Cond.selects RX3 yX3_pass yX3_pass, Cond.code yX3_pass cX3_pass 2 none, Cond.methodLink RX3 81 arraycopyName]
def wsL_law0_r26 : List Cond := [Cond.methodLink RX3 68 yX3_join, Cond.instanceMethod yX3_join, Cond.selects RX3 yX3_join yX3_join, Cond.code yX3_join cX3_join 6 (some .int), Cond.methodLink RX3 87 yX3_meet, Cond.instanceMethod yX3_meet, Cond.selects RX3 yX3_meet yX3_meet, Cond.code yX3_meet cX3_meet 13 (some .boolean), Cond.methodLink RX3 91 yX3_daysOf, Cond.instanceMethod yX3_daysOf, Cond.selects RX3 yX3_daysOf yX3_daysOf, Cond.code yX3_daysOf cX3_daysOf 3 (some (.array .int)), Cond.fieldLink RX3 98 "StoneDates$Stone" "days" "[I", Cond.methodLink RX3 95 yX3_sizeOf, Cond.instanceMethod yX3_sizeOf, Cond.selects RX3 yX3_sizeOf yX3_sizeOf, Cond.code yX3_sizeOf cX3_sizeOf 3 (some .int), Cond.methodLink RL 107 yX9_least, Cond.instanceMethod yX9_least, Cond.selects RX9 yX9_least yX9_least, Cond.code yX9_least cX9_least 1 (some .int), Cond.fieldLink RX9 213 "StoneDatesModel" "wrongs" "I", Cond.methodLink RX9 222 yX9_solves, Cond.instanceMethod yX9_solves]
def wsL_law0_r27 : List Cond := [Cond.selects RX9 yX9_solves yX9_solves, Cond.code yX9_solves cX9_solves 4 none, Cond.fieldLink RX9 195 "StoneDatesModel" "askedMany" "I", Cond.methodLink RX9 201 yX9_inNet, Cond.instanceMethod yX9_inNet, Cond.selects RX9 yX9_inNet yX9_inNet, Cond.code yX9_inNet cX9_inNet 2 (some .boolean), Cond.methodLink RX9 216 yX9_bits, Cond.static yX9_bits, Cond.code yX9_bits cX9_bits 3 (some .int), Cond.methodLink RX9 219 yX9_canBe, Cond.instanceMethod yX9_canBe, Cond.selects RX9 yX9_canBe yX9_canBe, Cond.code yX9_canBe cX9_canBe 5 (some .boolean), Cond.methodLink RX9 207 yX9_joins, Cond.instanceMethod yX9_joins, Cond.selects RX9 yX9_joins yX9_joins, Cond.code yX9_joins cX9_joins 9 (some .boolean), Cond.methodLink RX9 198 yX9_isAskedWrong, Cond.instanceMethod yX9_isAskedWrong, Cond.selects RX9 yX9_isAskedWrong yX9_isAskedWrong, Cond.code yX9_isAskedWrong cX9_isAskedWrong 3 (some .boolean), Cond.methodLink RX9 210 yX9_isGood, Cond.instanceMethod yX9_isGood]
def wsL_law0_r28 : List Cond := [Cond.selects RX9 yX9_isGood yX9_isGood, Cond.code yX9_isGood cX9_isGood 4 (some .boolean), Cond.methodLink RX9 204 yX9_hasDay, Cond.instanceMethod yX9_hasDay, Cond.selects RX9 yX9_hasDay yX9_hasDay, Cond.code yX9_hasDay cX9_hasDay 6 (some .boolean), Cond.methodLink RL 108 yX8_wrong, Cond.instanceMethod yX8_wrong, Cond.selects RX8 yX8_wrong yX8_wrong, Cond.code yX8_wrong cX8_wrong 2 (some .int), Cond.methodLink RX8 161 yX3_wrongAt, Cond.instanceMethod yX3_wrongAt, Cond.selects RX3 yX3_wrongAt yX3_wrongAt, Cond.code yX3_wrongAt cX3_wrongAt 4 (some .int), Cond.methodLink RL 111 yX9_wrong, Cond.instanceMethod yX9_wrong, Cond.selects RX9 yX9_wrong yX9_wrong, Cond.code yX9_wrong cX9_wrong 4 (some .int), Cond.methodLink RL 112 yL_settled, Cond.static yL_settled, Cond.codeWith yL_settled cL_settled 4 (some .int) [(0, 9, 12, 24)], Cond.methodLink RL 43 yX8_settled, Cond.instanceMethod yX8_settled, Cond.selects RX8 yX8_settled yX8_settled]
def wsL_law0_r29 : List Cond := [Cond.code yX8_settled cX8_settled 2 (some .int), Cond.methodLink RX8 165 yX3_settledSize, Cond.instanceMethod yX3_settledSize, Cond.selects RX3 yX3_settledSize yX3_settledSize, Cond.code yX3_settledSize cX3_settledSize 2 (some .int), Cond.methodLink RL 114 yX9_settled, Cond.instanceMethod yX9_settled, Cond.selects RX9 yX9_settled yX9_settled, Cond.code yX9_settled cX9_settled 4 (some .int), Cond.methodLink RL 115 yL_settledDay, Cond.static yL_settledDay, Cond.codeWith yL_settledDay cL_settledDay 5 (some .int) [(0, 10, 13, 24)], Cond.methodLink RL 46 yX8_settledDay, Cond.instanceMethod yX8_settledDay, Cond.selects RX8 yX8_settledDay yX8_settledDay, Cond.code yX8_settledDay cX8_settledDay 3 (some .int), Cond.methodLink RX8 168 yX3_settledAt, Cond.instanceMethod yX3_settledAt, Cond.selects RX3 yX3_settledAt yX3_settledAt, Cond.code yX3_settledAt cX3_settledAt 3 (some .int), Cond.methodLink RX3 99 yX3_settledSize, Cond.methodLink RL 117 yX9_settledDay, Cond.instanceMethod yX9_settledDay, Cond.selects RX9 yX9_settledDay yX9_settledDay]
def wsL_law0_r30 : List Cond := [Cond.code yX9_settledDay cX9_settledDay 5 (some .int), Cond.methodLink RL 118 yL_eclipse, Cond.static yL_eclipse, Cond.codeWith yL_eclipse cL_eclipse 4 (some .int) [(0, 9, 12, 13)], Cond.methodLink RL 49 yX8_eclipse, Cond.instanceMethod yX8_eclipse, Cond.selects RX8 yX8_eclipse yX8_eclipse, Cond.code yX8_eclipse cX8_eclipse 2 (some .int), Cond.constant RX8 172 (10000000), Cond.methodLink RX8 175 yX5_add, Cond.instanceMethod yX5_add, Cond.selects RX5 yX5_add yX5_add, Cond.code yX5_add cX5_add 4 (some .int), Cond.fieldLink RX5 35 "StoneDates$Sky" "size" "I", Cond.methodLink RX5 38 arraycopyName, Cond.methodLink RL 120 yX9_eclipse, Cond.instanceMethod yX9_eclipse, Cond.selects RX9 yX9_eclipse yX9_eclipse, Cond.code yX9_eclipse cX9_eclipse 3 (some .int), Cond.constant RX9 225 (10000000), Cond.fieldLink RX9 226 "StoneDatesModel" "eclipseMany" "I", Cond.methodLink RL 121 yL_names, Cond.static yL_names, Cond.codeWith yL_names cL_names 5 (some .int) [(0, 17, 20, 24), (0, 17, 24, 15)]]
def wsL_law0_r31 : List Cond := [Cond.methodLink RL 52 yX8_names, Cond.instanceMethod yX8_names, Cond.selects RX8 yX8_names yX8_names, Cond.code yX8_names cX8_names 4 (some .boolean), Cond.methodLink RX8 179 yX5_tell, Cond.instanceMethod yX5_tell, Cond.selects RX5 yX5_tell yX5_tell, Cond.code yX5_tell cX5_tell 5 (some .boolean), Cond.fieldLink RX5 44 "StoneDates$Sky" "naming" "I", Cond.methodLink RL 124 yX9_names, Cond.instanceMethod yX9_names, Cond.selects RX9 yX9_names yX9_names, Cond.code yX9_names cX9_names 4 (some .boolean), Cond.methodLink RL 125 yL_start, Cond.static yL_start, Cond.codeWith yL_start cL_start 4 (some .int) [(0, 9, 12, 13), (0, 9, 15, 15)], Cond.methodLink RL 56 yX8_start, Cond.instanceMethod yX8_start, Cond.selects RX8 yX8_start yX8_start, Cond.code yX8_start cX8_start 2 (some .int), Cond.fieldLink RX8 186 "StoneDates$Sky" "bestStart" "I", Cond.methodLink RX8 183 yX8_solveSky, Cond.instanceMethod yX8_solveSky, Cond.selects RX8 yX8_solveSky yX8_solveSky]
def wsL_law0_r32 : List Cond := [Cond.code yX8_solveSky cX8_solveSky 2 none, Cond.fieldLink RX8 192 "StoneDates$Sky" "size" "I", Cond.fieldLink RX8 193 "StoneDates$Sky" "naming" "I", Cond.methodLink RX8 215 yX5_solve, Cond.instanceMethod yX5_solve, Cond.selects RX5 yX5_solve yX5_solve, Cond.code yX5_solve cX5_solve 8 none, Cond.fieldLink RX5 55 "StoneDates$Sky" "agreeing" "I", Cond.fieldLink RX5 58 "StoneDates$Sky" "slope" "I", Cond.fieldLink RX5 61 "StoneDates$Sky" "height" "J", Cond.fieldLink RX5 65 "StoneDates$Sky" "bestAgreeing" "I", Cond.methodLink RX5 47 yX5_placeTurns, Cond.instanceMethod yX5_placeTurns, Cond.selects RX5 yX5_placeTurns yX5_placeTurns, Cond.code yX5_placeTurns cX5_placeTurns 5 none, Cond.methodLink RX5 78 Lib.Math.max.name, Cond.methodLink RX5 84 Lib.Math.min.name, Cond.methodLink RX5 51 yX5_gatherDates, Cond.instanceMethod yX5_gatherDates, Cond.selects RX5 yX5_gatherDates yX5_gatherDates, Cond.code yX5_gatherDates cX5_gatherDates 3 (some .int), Cond.methodLink RX5 68 yX5_firstToTurn, Cond.instanceMethod yX5_firstToTurn, Cond.selects RX5 yX5_firstToTurn yX5_firstToTurn]
def wsL_law0_r33 : List Cond := [Cond.code yX5_firstToTurn cX5_firstToTurn 6 (some .int), Cond.methodLink RX5 72 yX5_consider, Cond.instanceMethod yX5_consider, Cond.selects RX5 yX5_consider yX5_consider, Cond.code yX5_consider cX5_consider 4 none, Cond.fieldLink RX5 89 "StoneDates$Sky" "bestSum" "J", Cond.fieldLink RX5 92 "StoneDates$Sky" "bestStart" "I", Cond.methodLink RX5 75 yX5_turn, Cond.instanceMethod yX5_turn, Cond.selects RX5 yX5_turn yX5_turn, Cond.code yX5_turn cX5_turn 4 none, Cond.constantLong RX5 87 (2), Cond.methodLink RL 127 yX9_start, Cond.instanceMethod yX9_start, Cond.selects RX9 yX9_start yX9_start, Cond.code yX9_start cX9_start 2 (some .int), Cond.fieldLink RX9 238 "StoneDatesModel" "bestStart" "I", Cond.methodLink RX9 247 yX9_isAsked, Cond.instanceMethod yX9_isAsked, Cond.selects RX9 yX9_isAsked yX9_isAsked, Cond.code yX9_isAsked cX9_isAsked 2 (some .boolean), Cond.methodLink RX9 244 yX9_named, Cond.instanceMethod yX9_named, Cond.selects RX9 yX9_named yX9_named]
def wsL_law0_r34 : List Cond := [Cond.code yX9_named cX9_named 3 (some .int), Cond.methodLink RX9 250 yX9_starts, Cond.instanceMethod yX9_starts, Cond.selects RX9 yX9_starts yX9_starts, Cond.code yX9_starts cX9_starts 5 none, Cond.fieldLink RX9 232 "StoneDatesModel" "bestMany" "I", Cond.fieldLink RX9 235 "StoneDatesModel" "bestSum" "J", Cond.constant RX9 231 (2147483647), Cond.methodLink RX9 241 yX9_tries, Cond.instanceMethod yX9_tries, Cond.selects RX9 yX9_tries yX9_tries, Cond.code yX9_tries cX9_tries 11 none, Cond.methodLink RL 128 yL_agrees, Cond.static yL_agrees, Cond.codeWith yL_agrees cL_agrees 4 (some .int) [(0, 9, 12, 13), (0, 9, 15, 15)], Cond.methodLink RL 59 yX8_agrees, Cond.instanceMethod yX8_agrees, Cond.selects RX8 yX8_agrees yX8_agrees, Cond.code yX8_agrees cX8_agrees 2 (some .int), Cond.fieldLink RX8 189 "StoneDates$Sky" "bestAgreeing" "I", Cond.methodLink RL 130 yX9_agrees, Cond.instanceMethod yX9_agrees, Cond.selects RX9 yX9_agrees yX9_agrees, Cond.code yX9_agrees cX9_agrees 2 (some .int)]
def wsL_law0_r35 : List Cond := [Cond.methodLink RL 131 yX8_count, Cond.instanceMethod yX8_count, Cond.selects RX8 yX8_count yX8_count, Cond.code yX8_count cX8_count 2 (some .int), Cond.fieldLink RX8 196 "StoneDates$Net" "memberCount" "I", Cond.methodLink RL 134 yX9_count, Cond.instanceMethod yX9_count, Cond.selects RX9 yX9_count yX9_count, Cond.code yX9_count cX9_count 4 (some .int)]
def wsL_law0 : List Cond := (wsL_law0_r1 ++ (wsL_law0_r2 ++ (wsL_law0_r3 ++ (wsL_law0_r4 ++ (wsL_law0_r5 ++ (wsL_law0_r6 ++ (wsL_law0_r7 ++ (wsL_law0_r8 ++ (wsL_law0_r9 ++ (wsL_law0_r10 ++ (wsL_law0_r11 ++ (wsL_law0_r12 ++ (wsL_law0_r13 ++ (wsL_law0_r14 ++ (wsL_law0_r15 ++ (wsL_law0_r16 ++ (wsL_law0_r17 ++ (wsL_law0_r18 ++ (wsL_law0_r19 ++ (wsL_law0_r20 ++ (wsL_law0_r21 ++ (wsL_law0_r22 ++ (wsL_law0_r23 ++ (wsL_law0_r24 ++ (wsL_law0_r25 ++ (wsL_law0_r26 ++ (wsL_law0_r27 ++ (wsL_law0_r28 ++ (wsL_law0_r29 ++ (wsL_law0_r30 ++ (wsL_law0_r31 ++ (wsL_law0_r32 ++ (wsL_law0_r33 ++ (wsL_law0_r34 ++ wsL_law0_r35)))))))))))))))))))))))))))))))))) ++ wsX80 ++ wsX90 ++ wsX40 ++ wsX10 ++ wsX30 ++ wsX50 ++ wsX70 ++ wsX60 ++ ([] : List Cond)
def wsL_law : List Cond := wsL_law0 ++ (vx_atS RX8 58 "java/lang/IllegalArgumentException" ["java/lang/RuntimeException", "java/lang/Exception"]).filter goodWord ++ (vx_atS RX8 65 "java/lang/IllegalStateException" ["java/lang/RuntimeException", "java/lang/Exception"]).filter goodWord ++ (vx_atS RX8 208 "java/lang/IndexOutOfBoundsException" ["java/lang/RuntimeException", "java/lang/Exception"]).filter goodWord
set_option maxRecDepth 20000 in
theorem wsL_law_in0 : ∀ w ∈ wsL_law0, w ∈ lw_tbl := fun w h => (goodIn_p wsL_law0 [89, 92, 99, 131, 137, 141, 182, 234, 885, 389, 994, 998, 990, 480, 484, 487, 494, 1002, 1005, 1010, 503, 507, 1015, 1018, 315, 319, 323, 1024, 530, 536, 539, 543, 547, 551, 555, 561, 565, 569, 575, 579, 582, 585, 590, 593, 596, 599, 603, 613, 617, 621, 625, 629, 633, 637, 641, 645, 649, 653, 656, 661, 665, 669, 673, 677, 682, 686, 690, 697, 708, 715, 737, 1028, 1033, 1036, 1047, 1051, 1055, 1061, 1065, 1069, 1073, 1077, 1081, 1085, 1089, 744, 748, 1093, 1097, 756, 1101, 763, 767, 1105, 776, 784, 1109, 327, 331, 335, 338, 345, 349, 356, 360, 364, 368, 1115, 1119, 1123, 1126, 1130, 1134, 1138, 1142, 1146, 372, 376, 1150, 791, 795, 1154, 802, 806, 1158, 814, 820, 1162, 828, 833, 1167, 840, 844, 850, 854, 860, 864, 868, 872, 1171, 1175, 1179, 1183, 1188, 880, 1192, 380, 1196] (by decide +kernel) (by decide +kernel) w h).1
theorem wsL_law_x0 : ∀ w ∈ (vx_atS RX8 58 "java/lang/IllegalArgumentException" ["java/lang/RuntimeException", "java/lang/Exception"]).filter goodWord, w ∈ lw_tbl := by decide +kernel
theorem wsL_law_x1 : ∀ w ∈ (vx_atS RX8 65 "java/lang/IllegalStateException" ["java/lang/RuntimeException", "java/lang/Exception"]).filter goodWord, w ∈ lw_tbl := by decide +kernel
theorem wsL_law_x2 : ∀ w ∈ (vx_atS RX8 208 "java/lang/IndexOutOfBoundsException" ["java/lang/RuntimeException", "java/lang/Exception"]).filter goodWord, w ∈ lw_tbl := by decide +kernel
theorem wsL_law_in : ∀ w ∈ wsL_law, w ∈ lw_tbl := fun w h => (List.mem_append.mp h).elim (fun h => (List.mem_append.mp h).elim (fun h => (List.mem_append.mp h).elim (fun h => wsL_law_in0 w h) (fun h => wsL_law_x0 w h)) (fun h => wsL_law_x1 w h)) (fun h => wsL_law_x2 w h)
theorem inX0 : ∀ w ∈ wsX00, w ∈ lw_tbl := by decide +kernel
theorem inlX1 : ∀ w ∈ wsX10, w ∈ wsL_law := fun _ h => List.mem_append_left _ (List.mem_append_left _ (List.mem_append_left _ (List.mem_append_left _ (List.mem_append_left _ (List.mem_append_left _ (List.mem_append_left _ (List.mem_append_left _ (List.mem_append_right _ h))))))))
theorem inX1 : ∀ w ∈ wsX10, w ∈ lw_tbl := fun w h => wsL_law_in w (inlX1 w h)
theorem inX2 : ∀ w ∈ wsX20, w ∈ lw_tbl := by decide +kernel
theorem inlX3 : ∀ w ∈ wsX30, w ∈ wsL_law := fun _ h => List.mem_append_left _ (List.mem_append_left _ (List.mem_append_left _ (List.mem_append_left _ (List.mem_append_left _ (List.mem_append_left _ (List.mem_append_left _ (List.mem_append_right _ h)))))))
theorem inX3 : ∀ w ∈ wsX30, w ∈ lw_tbl := fun w h => wsL_law_in w (inlX3 w h)
theorem inlX4 : ∀ w ∈ wsX40, w ∈ wsL_law := fun _ h => List.mem_append_left _ (List.mem_append_left _ (List.mem_append_left _ (List.mem_append_left _ (List.mem_append_left _ (List.mem_append_left _ (List.mem_append_left _ (List.mem_append_left _ (List.mem_append_left _ (List.mem_append_right _ h)))))))))
theorem inX4 : ∀ w ∈ wsX40, w ∈ lw_tbl := fun w h => wsL_law_in w (inlX4 w h)
theorem inlX5 : ∀ w ∈ wsX50, w ∈ wsL_law := fun _ h => List.mem_append_left _ (List.mem_append_left _ (List.mem_append_left _ (List.mem_append_left _ (List.mem_append_left _ (List.mem_append_left _ (List.mem_append_right _ h))))))
theorem inX5 : ∀ w ∈ wsX50, w ∈ lw_tbl := fun w h => wsL_law_in w (inlX5 w h)
theorem inlX6 : ∀ w ∈ wsX60, w ∈ wsL_law := fun _ h => List.mem_append_left _ (List.mem_append_left _ (List.mem_append_left _ (List.mem_append_left _ (List.mem_append_right _ h))))
theorem inX6 : ∀ w ∈ wsX60, w ∈ lw_tbl := fun w h => wsL_law_in w (inlX6 w h)
theorem inlX7 : ∀ w ∈ wsX70, w ∈ wsL_law := fun _ h => List.mem_append_left _ (List.mem_append_left _ (List.mem_append_left _ (List.mem_append_left _ (List.mem_append_left _ (List.mem_append_right _ h)))))
theorem inX7 : ∀ w ∈ wsX70, w ∈ lw_tbl := fun w h => wsL_law_in w (inlX7 w h)
theorem inlX8 : ∀ w ∈ wsX80, w ∈ wsL_law := fun _ h => List.mem_append_left _ (List.mem_append_left _ (List.mem_append_left _ (List.mem_append_left _ (List.mem_append_left _ (List.mem_append_left _ (List.mem_append_left _ (List.mem_append_left _ (List.mem_append_left _ (List.mem_append_left _ (List.mem_append_left _ (List.mem_append_right _ h)))))))))))
theorem inX8 : ∀ w ∈ wsX80, w ∈ lw_tbl := fun w h => wsL_law_in w (inlX8 w h)
theorem inlX9 : ∀ w ∈ wsX90, w ∈ wsL_law := fun _ h => List.mem_append_left _ (List.mem_append_left _ (List.mem_append_left _ (List.mem_append_left _ (List.mem_append_left _ (List.mem_append_left _ (List.mem_append_left _ (List.mem_append_left _ (List.mem_append_left _ (List.mem_append_left _ (List.mem_append_right _ h))))))))))
theorem inX9 : ∀ w ∈ wsX90, w ∈ lw_tbl := fun w h => wsL_law_in w (inlX9 w h)
theorem inJx8e188 : ∀ w ∈ wsJx8e1880, w ∈ lw_tbl := by decide +kernel
theorem inJx29ce0 : ∀ w ∈ wsJx29ce00, w ∈ lw_tbl := by decide +kernel
theorem inJ6 : ∀ w ∈ wsJ60, w ∈ lw_tbl := by decide +kernel
theorem inJ13 : ∀ w ∈ wsJ130, w ∈ lw_tbl := by decide +kernel
theorem inJ9 : ∀ w ∈ wsJ90, w ∈ lw_tbl := by decide +kernel
theorem inJ0 : ∀ w ∈ wsJ00, w ∈ lw_tbl := by decide +kernel
theorem inJ1 : ∀ w ∈ wsJ10, w ∈ lw_tbl := by decide +kernel
theorem inJ2 : ∀ w ∈ wsJ20, w ∈ lw_tbl := by decide +kernel
theorem inJ10 : ∀ w ∈ wsJ100, w ∈ lw_tbl := by decide +kernel
theorem inJ7 : ∀ w ∈ wsJ70, w ∈ lw_tbl := by decide +kernel
theorem inJ3 : ∀ w ∈ wsJ30, w ∈ lw_tbl := by decide +kernel
theorem dX0_has_0 : decode cX0_has 0 = .ok (.iload_n 0, 1) := by decide +kernel
theorem dX0_has_1 : decode cX0_has 1 = .ok (.ldc 11, 2) := by decide +kernel
theorem dX0_has_3 : decode cX0_has 3 = .ok (.if_icmp .lt 13, 3) := by decide +kernel
theorem dX0_has_6 : decode cX0_has 6 = .ok (.iload_n 0, 1) := by decide +kernel
theorem dX0_has_7 : decode cX0_has 7 = .ok (.ldc 12, 2) := by decide +kernel
theorem dX0_has_9 : decode cX0_has 9 = .ok (.if_icmp .gt 7, 3) := by decide +kernel
theorem dX0_has_12 : decode cX0_has 12 = .ok (.iconst 1, 1) := by decide +kernel
theorem dX0_has_13 : decode cX0_has 13 = .ok (.goto 4, 3) := by decide +kernel
theorem dX0_has_16 : decode cX0_has 16 = .ok (.iconst 0, 1) := by decide +kernel
theorem dX0_has_17 : decode cX0_has 17 = .ok (.ireturn, 1) := by decide +kernel
theorem dX0_signOf_0 : decode cX0_signOf 0 = .ok (.iload_n 1, 1) := by decide +kernel
theorem dX0_signOf_1 : decode cX0_signOf 1 = .ok (.tableswitch 146 0 9 #[55, 60, 69, 79, 88, 93, 102, 110, 123, 136], 55) := by decide +kernel
theorem dX0_signOf_56 : decode cX0_signOf 56 = .ok (.iload_n 0, 1) := by decide +kernel
theorem dX0_signOf_57 : decode cX0_signOf 57 = .ok (.ldc 13, 2) := by decide +kernel
theorem dX0_signOf_59 : decode cX0_signOf 59 = .ok (.idiv, 1) := by decide +kernel
theorem dX0_signOf_60 : decode cX0_signOf 60 = .ok (.ireturn, 1) := by decide +kernel
theorem dX0_signOf_61 : decode cX0_signOf 61 = .ok (.iload_n 0, 1) := by decide +kernel
theorem dX0_signOf_62 : decode cX0_signOf 62 = .ok (.ldc 13, 2) := by decide +kernel
theorem dX0_signOf_64 : decode cX0_signOf 64 = .ok (.irem, 1) := by decide +kernel
theorem dX0_signOf_65 : decode cX0_signOf 65 = .ok (.sipush 7200, 3) := by decide +kernel
theorem dX0_signOf_68 : decode cX0_signOf 68 = .ok (.idiv, 1) := by decide +kernel
theorem dX0_signOf_69 : decode cX0_signOf 69 = .ok (.ireturn, 1) := by decide +kernel
theorem dX0_signOf_70 : decode cX0_signOf 70 = .ok (.iload_n 0, 1) := by decide +kernel
theorem dX0_signOf_71 : decode cX0_signOf 71 = .ok (.sipush 7200, 3) := by decide +kernel
theorem dX0_signOf_74 : decode cX0_signOf 74 = .ok (.irem, 1) := by decide +kernel
theorem dX0_signOf_75 : decode cX0_signOf 75 = .ok (.sipush 360, 3) := by decide +kernel
theorem dX0_signOf_78 : decode cX0_signOf 78 = .ok (.idiv, 1) := by decide +kernel
theorem dX0_signOf_79 : decode cX0_signOf 79 = .ok (.ireturn, 1) := by decide +kernel
theorem dX0_signOf_80 : decode cX0_signOf 80 = .ok (.iload_n 0, 1) := by decide +kernel
theorem dX0_signOf_81 : decode cX0_signOf 81 = .ok (.sipush 360, 3) := by decide +kernel
theorem dX0_signOf_84 : decode cX0_signOf 84 = .ok (.irem, 1) := by decide +kernel
theorem dX0_signOf_85 : decode cX0_signOf 85 = .ok (.bipush 20, 2) := by decide +kernel
theorem dX0_signOf_87 : decode cX0_signOf 87 = .ok (.idiv, 1) := by decide +kernel
theorem dX0_signOf_88 : decode cX0_signOf 88 = .ok (.ireturn, 1) := by decide +kernel
theorem dX0_signOf_89 : decode cX0_signOf 89 = .ok (.iload_n 0, 1) := by decide +kernel
theorem dX0_signOf_90 : decode cX0_signOf 90 = .ok (.bipush 20, 2) := by decide +kernel
theorem dX0_signOf_92 : decode cX0_signOf 92 = .ok (.irem, 1) := by decide +kernel
theorem dX0_signOf_93 : decode cX0_signOf 93 = .ok (.ireturn, 1) := by decide +kernel
theorem dX0_signOf_94 : decode cX0_signOf 94 = .ok (.iload_n 0, 1) := by decide +kernel
theorem dX0_signOf_95 : decode cX0_signOf 95 = .ok (.iconst 3, 1) := by decide +kernel
theorem dX0_signOf_96 : decode cX0_signOf 96 = .ok (.iadd, 1) := by decide +kernel
theorem dX0_signOf_97 : decode cX0_signOf 97 = .ok (.bipush 13, 2) := by decide +kernel
theorem dX0_signOf_99 : decode cX0_signOf 99 = .ok (.irem, 1) := by decide +kernel
theorem dX0_signOf_100 : decode cX0_signOf 100 = .ok (.iconst 1, 1) := by decide +kernel
theorem dX0_signOf_101 : decode cX0_signOf 101 = .ok (.iadd, 1) := by decide +kernel
theorem dX0_signOf_102 : decode cX0_signOf 102 = .ok (.ireturn, 1) := by decide +kernel
theorem dX0_signOf_103 : decode cX0_signOf 103 = .ok (.iload_n 0, 1) := by decide +kernel
theorem dX0_signOf_104 : decode cX0_signOf 104 = .ok (.bipush 19, 2) := by decide +kernel
theorem dX0_signOf_106 : decode cX0_signOf 106 = .ok (.iadd, 1) := by decide +kernel
theorem dX0_signOf_107 : decode cX0_signOf 107 = .ok (.bipush 20, 2) := by decide +kernel
theorem dX0_signOf_109 : decode cX0_signOf 109 = .ok (.irem, 1) := by decide +kernel
theorem dX0_signOf_110 : decode cX0_signOf 110 = .ok (.ireturn, 1) := by decide +kernel
theorem dX0_signOf_111 : decode cX0_signOf 111 = .ok (.iload_n 0, 1) := by decide +kernel
theorem dX0_signOf_112 : decode cX0_signOf 112 = .ok (.sipush 348, 3) := by decide +kernel
theorem dX0_signOf_115 : decode cX0_signOf 115 = .ok (.iadd, 1) := by decide +kernel
theorem dX0_signOf_116 : decode cX0_signOf 116 = .ok (.sipush 365, 3) := by decide +kernel
theorem dX0_signOf_119 : decode cX0_signOf 119 = .ok (.irem, 1) := by decide +kernel
theorem dX0_signOf_120 : decode cX0_signOf 120 = .ok (.bipush 20, 2) := by decide +kernel
theorem dX0_signOf_122 : decode cX0_signOf 122 = .ok (.irem, 1) := by decide +kernel
theorem dX0_signOf_123 : decode cX0_signOf 123 = .ok (.ireturn, 1) := by decide +kernel
theorem dX0_signOf_124 : decode cX0_signOf 124 = .ok (.iload_n 0, 1) := by decide +kernel
theorem dX0_signOf_125 : decode cX0_signOf 125 = .ok (.sipush 348, 3) := by decide +kernel
theorem dX0_signOf_128 : decode cX0_signOf 128 = .ok (.iadd, 1) := by decide +kernel
theorem dX0_signOf_129 : decode cX0_signOf 129 = .ok (.sipush 365, 3) := by decide +kernel
theorem dX0_signOf_132 : decode cX0_signOf 132 = .ok (.irem, 1) := by decide +kernel
theorem dX0_signOf_133 : decode cX0_signOf 133 = .ok (.bipush 20, 2) := by decide +kernel
theorem dX0_signOf_135 : decode cX0_signOf 135 = .ok (.idiv, 1) := by decide +kernel
theorem dX0_signOf_136 : decode cX0_signOf 136 = .ok (.ireturn, 1) := by decide +kernel
theorem dX0_signOf_137 : decode cX0_signOf 137 = .ok (.iload_n 0, 1) := by decide +kernel
theorem dX0_signOf_138 : decode cX0_signOf 138 = .ok (.bipush 8, 2) := by decide +kernel
theorem dX0_signOf_140 : decode cX0_signOf 140 = .ok (.iadd, 1) := by decide +kernel
theorem dX0_signOf_141 : decode cX0_signOf 141 = .ok (.bipush 9, 2) := by decide +kernel
theorem dX0_signOf_143 : decode cX0_signOf 143 = .ok (.irem, 1) := by decide +kernel
theorem dX0_signOf_144 : decode cX0_signOf 144 = .ok (.iconst 1, 1) := by decide +kernel
theorem dX0_signOf_145 : decode cX0_signOf 145 = .ok (.iadd, 1) := by decide +kernel
theorem dX0_signOf_146 : decode cX0_signOf 146 = .ok (.ireturn, 1) := by decide +kernel
theorem dX0_signOf_147 : decode cX0_signOf 147 = .ok (.iload_n 0, 1) := by decide +kernel
theorem dX0_signOf_148 : decode cX0_signOf 148 = .ok (.iload_n 2, 1) := by decide +kernel
theorem dX0_signOf_149 : decode cX0_signOf 149 = .ok (.iadd, 1) := by decide +kernel
theorem dX0_signOf_150 : decode cX0_signOf 150 = .ok (.sipush 149, 3) := by decide +kernel
theorem dX0_signOf_153 : decode cX0_signOf 153 = .ok (.imul, 1) := by decide +kernel
theorem dX0_signOf_154 : decode cX0_signOf 154 = .ok (.sipush 4400, 3) := by decide +kernel
theorem dX0_signOf_157 : decode cX0_signOf 157 = .ok (.irem, 1) := by decide +kernel
theorem dX0_signOf_158 : decode cX0_signOf 158 = .ok (.sipush 149, 3) := by decide +kernel
theorem dX0_signOf_161 : decode cX0_signOf 161 = .ok (.idiv, 1) := by decide +kernel
theorem dX0_signOf_162 : decode cX0_signOf 162 = .ok (.ireturn, 1) := by decide +kernel
theorem dX0_holds_0 : decode cX0_holds 0 = .ok (.iload_n 1, 1) := by decide +kernel
theorem dX0_holds_1 : decode cX0_holds 1 = .ok (.ifCond .lt 21, 3) := by decide +kernel
theorem dX0_holds_4 : decode cX0_holds 4 = .ok (.iload_n 1, 1) := by decide +kernel
theorem dX0_holds_5 : decode cX0_holds 5 = .ok (.bipush 32, 2) := by decide +kernel
theorem dX0_holds_7 : decode cX0_holds 7 = .ok (.if_icmp .ge 15, 3) := by decide +kernel
theorem dX0_holds_10 : decode cX0_holds 10 = .ok (.iload_n 0, 1) := by decide +kernel
theorem dX0_holds_11 : decode cX0_holds 11 = .ok (.iload_n 1, 1) := by decide +kernel
theorem dX0_holds_12 : decode cX0_holds 12 = .ok (.ishr, 1) := by decide +kernel
theorem dX0_holds_13 : decode cX0_holds 13 = .ok (.iconst 1, 1) := by decide +kernel
theorem dX0_holds_14 : decode cX0_holds 14 = .ok (.iand, 1) := by decide +kernel
theorem dX0_holds_15 : decode cX0_holds 15 = .ok (.ifCond .eq 7, 3) := by decide +kernel
theorem dX0_holds_18 : decode cX0_holds 18 = .ok (.iconst 1, 1) := by decide +kernel
theorem dX0_holds_19 : decode cX0_holds 19 = .ok (.goto 4, 3) := by decide +kernel
theorem dX0_holds_22 : decode cX0_holds 22 = .ok (.iconst 0, 1) := by decide +kernel
theorem dX0_holds_23 : decode cX0_holds 23 = .ok (.ireturn, 1) := by decide +kernel
set_option maxRecDepth 20000 in
theorem ggX1_init_X7_init : GoodIn wsX1_init wsX7_init := goodIn_r _ [15, 16, 2, 3, 17, 18, 19, 20, 21, 22, 23, 31, 32, 33] (by decide +kernel) (by decide +kernel)
set_option maxRecDepth 20000 in
theorem gX1_init_X7_init : GoodIn wsX1_init (wsX7_init) := ggX1_init_X7_init
theorem dX1_init_0 : decode cX1_init 0 = .ok (.aload_n 0, 1) := by decide +kernel
theorem dX1_init_1 : decode cX1_init 1 = .ok (.invokespecial 3, 3) := by decide +kernel
theorem dX1_init_4 : decode cX1_init 4 = .ok (.aload_n 0, 1) := by decide +kernel
theorem dX1_init_5 : decode cX1_init 5 = .ok (.sipush 300, 3) := by decide +kernel
theorem dX1_init_8 : decode cX1_init 8 = .ok (.newarray .int, 2) := by decide +kernel
theorem dX1_init_10 : decode cX1_init 10 = .ok (.putfield 9, 3) := by decide +kernel
theorem dX1_init_13 : decode cX1_init 13 = .ok (.aload_n 0, 1) := by decide +kernel
theorem dX1_init_14 : decode cX1_init 14 = .ok (.new 15, 3) := by decide +kernel
theorem dX1_init_17 : decode cX1_init 17 = .ok (.dup, 1) := by decide +kernel
theorem dX1_init_18 : decode cX1_init 18 = .ok (.sipush 360, 3) := by decide +kernel
theorem dX1_init_21 : decode cX1_init 21 = .ok (.invokespecial 17, 3) := by decide +kernel
theorem dX1_init_24 : decode cX1_init 24 = .ok (.putfield 20, 3) := by decide +kernel
theorem dX1_init_27 : decode cX1_init 27 = .ok (.aload_n 0, 1) := by decide +kernel
theorem dX1_init_28 : decode cX1_init 28 = .ok (.new 15, 3) := by decide +kernel
theorem dX1_init_31 : decode cX1_init 31 = .ok (.dup, 1) := by decide +kernel
theorem dX1_init_32 : decode cX1_init 32 = .ok (.bipush 13, 2) := by decide +kernel
theorem dX1_init_34 : decode cX1_init 34 = .ok (.invokespecial 17, 3) := by decide +kernel
theorem dX1_init_37 : decode cX1_init 37 = .ok (.putfield 24, 3) := by decide +kernel
theorem dX1_init_40 : decode cX1_init 40 = .ok (.aload_n 0, 1) := by decide +kernel
theorem dX1_init_41 : decode cX1_init 41 = .ok (.new 15, 3) := by decide +kernel
theorem dX1_init_44 : decode cX1_init 44 = .ok (.dup, 1) := by decide +kernel
theorem dX1_init_45 : decode cX1_init 45 = .ok (.sipush 365, 3) := by decide +kernel
theorem dX1_init_48 : decode cX1_init 48 = .ok (.invokespecial 17, 3) := by decide +kernel
theorem dX1_init_51 : decode cX1_init 51 = .ok (.putfield 27, 3) := by decide +kernel
theorem dX1_init_54 : decode cX1_init 54 = .ok (.aload_n 0, 1) := by decide +kernel
theorem dX1_init_55 : decode cX1_init 55 = .ok (.new 15, 3) := by decide +kernel
theorem dX1_init_58 : decode cX1_init 58 = .ok (.dup, 1) := by decide +kernel
theorem dX1_init_59 : decode cX1_init 59 = .ok (.sipush 4400, 3) := by decide +kernel
theorem dX1_init_62 : decode cX1_init 62 = .ok (.invokespecial 17, 3) := by decide +kernel
theorem dX1_init_65 : decode cX1_init 65 = .ok (.putfield 30, 3) := by decide +kernel
theorem dX1_init_68 : decode cX1_init 68 = .ok (.return_, 1) := by decide +kernel
set_option maxRecDepth 20000 in
theorem ggX1_seek_X1_turnInner : GoodIn wsX1_seek wsX1_turnInner := goodIn_r _ [9, 10, 3, 11, 12, 13, 14, 15, 16, 17, 18, 19, 20, 21, 22, 23, 24, 25, 26, 27, 28, 29, 30, 31, 32, 33, 34, 35, 36, 37, 38, 75, 76, 77, 78, 79, 80, 81, 82, 83, 84] (by decide +kernel) (by decide +kernel)
set_option maxRecDepth 20000 in
theorem gX1_seek_X1_turnInner : GoodIn wsX1_seek (wsV RX1 40 RX1 yX1_turnInner wsX1_turnInner) := goodIn_app (goodIn_of _ (by decide +kernel)) ggX1_seek_X1_turnInner
set_option maxRecDepth 20000 in
theorem ggX1_seek_X1_turnThirteen : GoodIn wsX1_seek wsX1_turnThirteen := goodIn_r _ [42, 43, 11, 12, 13, 14, 15, 16, 17, 18, 19, 20, 21, 27, 28, 24, 29, 30, 31, 32, 33, 34, 35, 36, 37, 38, 75, 76, 77, 78, 79, 80, 81, 82, 83, 84] (by decide +kernel) (by decide +kernel)
set_option maxRecDepth 20000 in
theorem gX1_seek_X1_turnThirteen : GoodIn wsX1_seek (wsV RX1 44 RX1 yX1_turnThirteen wsX1_turnThirteen) := goodIn_app (goodIn_of _ (by decide +kernel)) ggX1_seek_X1_turnThirteen
set_option maxRecDepth 20000 in
theorem ggX1_seek_X1_turnYear : GoodIn wsX1_seek wsX1_turnYear := goodIn_r _ [47, 48, 11, 12, 13, 14, 15, 16, 17, 18, 19, 20, 21, 27, 28, 24, 29, 30, 31, 32, 33, 34, 35, 36, 37, 38, 75, 76, 77, 78, 79, 80, 81, 82, 83, 84] (by decide +kernel) (by decide +kernel)
set_option maxRecDepth 20000 in
theorem gX1_seek_X1_turnYear : GoodIn wsX1_seek (wsV RX1 47 RX1 yX1_turnYear wsX1_turnYear) := goodIn_app (goodIn_of _ (by decide +kernel)) ggX1_seek_X1_turnYear
set_option maxRecDepth 20000 in
theorem ggX1_seek_X1_turnLunar : GoodIn wsX1_seek wsX1_turnLunar := goodIn_r _ [52, 53, 11, 12, 13, 14, 15, 16, 17, 18, 19, 20, 21, 22, 23, 24, 25, 26, 27, 28, 29, 30, 31, 32, 33, 34, 35, 36, 37, 38, 75, 76, 77, 78, 79, 80, 81, 82, 83, 84] (by decide +kernel) (by decide +kernel)
set_option maxRecDepth 20000 in
theorem gX1_seek_X1_turnLunar : GoodIn wsX1_seek (wsV RX1 51 RX1 yX1_turnLunar wsX1_turnLunar) := goodIn_app (goodIn_of _ (by decide +kernel)) ggX1_seek_X1_turnLunar
set_option maxRecDepth 20000 in
theorem ggX1_seek_X0_signOf : GoodIn wsX1_seek wsX0_signOf := goodIn_r _ [25, 26] (by decide +kernel) (by decide +kernel)
set_option maxRecDepth 20000 in
theorem gX1_seek_X0_signOf : GoodIn wsX1_seek (va_wsS RX1 58 yX0_signOf wsX0_signOf) := goodIn_app (goodIn_of _ (by decide +kernel)) ggX1_seek_X0_signOf
set_option maxRecDepth 20000 in
theorem ggX1_seek_X0_holds : GoodIn wsX1_seek wsX0_holds := goodIn_r _ [29] (by decide +kernel) (by decide +kernel)
set_option maxRecDepth 20000 in
theorem gX1_seek_X0_holds : GoodIn wsX1_seek (va_wsS RX1 62 yX0_holds wsX0_holds) := goodIn_app (goodIn_of _ (by decide +kernel)) ggX1_seek_X0_holds
set_option maxRecDepth 20000 in
theorem ggX1_seek_X1_scan : GoodIn wsX1_seek wsX1_scan := goodIn_r _ [57, 10, 43, 48, 53, 2, 58, 59, 60, 14, 61, 16, 62, 38, 17, 63, 64, 65, 66, 67, 68, 69, 70, 71, 72, 8, 73, 1, 74, 75, 76, 77, 78, 79, 80, 81, 82, 83, 84] (by decide +kernel) (by decide +kernel)
set_option maxRecDepth 20000 in
theorem gX1_seek_X1_scan : GoodIn wsX1_seek (wsV RX1 66 RX1 yX1_scan wsX1_scan) := goodIn_app (goodIn_of _ (by decide +kernel)) ggX1_seek_X1_scan
theorem dX1_seek_0 : decode cX1_seek 0 = .ok (.aload_n 0, 1) := by decide +kernel
theorem dX1_seek_1 : decode cX1_seek 1 = .ok (.iconst 0, 1) := by decide +kernel
theorem dX1_seek_2 : decode cX1_seek 2 = .ok (.putfield 33, 3) := by decide +kernel
theorem dX1_seek_5 : decode cX1_seek 5 = .ok (.aload_n 0, 1) := by decide +kernel
theorem dX1_seek_6 : decode cX1_seek 6 = .ok (.iconst 0, 1) := by decide +kernel
theorem dX1_seek_7 : decode cX1_seek 7 = .ok (.putfield 37, 3) := by decide +kernel
theorem dX1_seek_10 : decode cX1_seek 10 = .ok (.aload_n 1, 1) := by decide +kernel
theorem dX1_seek_11 : decode cX1_seek 11 = .ok (.arraylength, 1) := by decide +kernel
theorem dX1_seek_12 : decode cX1_seek 12 = .ok (.bipush 11, 2) := by decide +kernel
theorem dX1_seek_14 : decode cX1_seek 14 = .ok (.if_icmp .eq 4, 3) := by decide +kernel
theorem dX1_seek_17 : decode cX1_seek 17 = .ok (.return_, 1) := by decide +kernel
theorem dX1_seek_18 : decode cX1_seek 18 = .ok (.aload_n 0, 1) := by decide +kernel
theorem dX1_seek_19 : decode cX1_seek 19 = .ok (.aload_n 1, 1) := by decide +kernel
theorem dX1_seek_20 : decode cX1_seek 20 = .ok (.iconst 3, 1) := by decide +kernel
theorem dX1_seek_21 : decode cX1_seek 21 = .ok (.iaload, 1) := by decide +kernel
theorem dX1_seek_22 : decode cX1_seek 22 = .ok (.aload_n 1, 1) := by decide +kernel
theorem dX1_seek_23 : decode cX1_seek 23 = .ok (.iconst 4, 1) := by decide +kernel
theorem dX1_seek_24 : decode cX1_seek 24 = .ok (.iaload, 1) := by decide +kernel
theorem dX1_seek_25 : decode cX1_seek 25 = .ok (.aload_n 1, 1) := by decide +kernel
theorem dX1_seek_26 : decode cX1_seek 26 = .ok (.bipush 6, 2) := by decide +kernel
theorem dX1_seek_28 : decode cX1_seek 28 = .ok (.iaload, 1) := by decide +kernel
theorem dX1_seek_29 : decode cX1_seek 29 = .ok (.aload_n 1, 1) := by decide +kernel
theorem dX1_seek_30 : decode cX1_seek 30 = .ok (.bipush 9, 2) := by decide +kernel
theorem dX1_seek_32 : decode cX1_seek 32 = .ok (.iaload, 1) := by decide +kernel
theorem dX1_seek_33 : decode cX1_seek 33 = .ok (.invokevirtual 40, 3) := by decide +kernel
theorem dX1_seek_36 : decode cX1_seek 36 = .ok (.aload_n 0, 1) := by decide +kernel
theorem dX1_seek_37 : decode cX1_seek 37 = .ok (.aload_n 1, 1) := by decide +kernel
theorem dX1_seek_38 : decode cX1_seek 38 = .ok (.iconst 5, 1) := by decide +kernel
theorem dX1_seek_39 : decode cX1_seek 39 = .ok (.iaload, 1) := by decide +kernel
theorem dX1_seek_40 : decode cX1_seek 40 = .ok (.invokevirtual 44, 3) := by decide +kernel
theorem dX1_seek_43 : decode cX1_seek 43 = .ok (.aload_n 0, 1) := by decide +kernel
theorem dX1_seek_44 : decode cX1_seek 44 = .ok (.aload_n 1, 1) := by decide +kernel
theorem dX1_seek_45 : decode cX1_seek 45 = .ok (.bipush 7, 2) := by decide +kernel
theorem dX1_seek_47 : decode cX1_seek 47 = .ok (.iaload, 1) := by decide +kernel
theorem dX1_seek_48 : decode cX1_seek 48 = .ok (.aload_n 1, 1) := by decide +kernel
theorem dX1_seek_49 : decode cX1_seek 49 = .ok (.bipush 8, 2) := by decide +kernel
theorem dX1_seek_51 : decode cX1_seek 51 = .ok (.iaload, 1) := by decide +kernel
theorem dX1_seek_52 : decode cX1_seek 52 = .ok (.invokevirtual 47, 3) := by decide +kernel
theorem dX1_seek_55 : decode cX1_seek 55 = .ok (.aload_n 0, 1) := by decide +kernel
theorem dX1_seek_56 : decode cX1_seek 56 = .ok (.aload_n 1, 1) := by decide +kernel
theorem dX1_seek_57 : decode cX1_seek 57 = .ok (.bipush 10, 2) := by decide +kernel
theorem dX1_seek_59 : decode cX1_seek 59 = .ok (.iaload, 1) := by decide +kernel
theorem dX1_seek_60 : decode cX1_seek 60 = .ok (.invokevirtual 51, 3) := by decide +kernel
theorem dX1_seek_63 : decode cX1_seek 63 = .ok (.ldc 56, 2) := by decide +kernel
theorem dX1_seek_65 : decode cX1_seek 65 = .ok (.istore_n 3, 1) := by decide +kernel
theorem dX1_seek_66 : decode cX1_seek 66 = .ok (.iload_n 3, 1) := by decide +kernel
theorem dX1_seek_67 : decode cX1_seek 67 = .ok (.ldc 57, 2) := by decide +kernel
theorem dX1_seek_69 : decode cX1_seek 69 = .ok (.if_icmp .gt 63, 3) := by decide +kernel
theorem dX1_seek_72 : decode cX1_seek 72 = .ok (.aload_n 1, 1) := by decide +kernel
theorem dX1_seek_73 : decode cX1_seek 73 = .ok (.iconst 0, 1) := by decide +kernel
theorem dX1_seek_74 : decode cX1_seek 74 = .ok (.iaload, 1) := by decide +kernel
theorem dX1_seek_75 : decode cX1_seek 75 = .ok (.iload_n 3, 1) := by decide +kernel
theorem dX1_seek_76 : decode cX1_seek 76 = .ok (.iconst 0, 1) := by decide +kernel
theorem dX1_seek_77 : decode cX1_seek 77 = .ok (.iconst 0, 1) := by decide +kernel
theorem dX1_seek_78 : decode cX1_seek 78 = .ok (.invokestatic 58, 3) := by decide +kernel
theorem dX1_seek_81 : decode cX1_seek 81 = .ok (.invokestatic 62, 3) := by decide +kernel
theorem dX1_seek_84 : decode cX1_seek 84 = .ok (.ifCond .eq 39, 3) := by decide +kernel
theorem dX1_seek_87 : decode cX1_seek 87 = .ok (.aload_n 1, 1) := by decide +kernel
theorem dX1_seek_88 : decode cX1_seek 88 = .ok (.iconst 1, 1) := by decide +kernel
theorem dX1_seek_89 : decode cX1_seek 89 = .ok (.iaload, 1) := by decide +kernel
theorem dX1_seek_90 : decode cX1_seek 90 = .ok (.iload_n 3, 1) := by decide +kernel
theorem dX1_seek_91 : decode cX1_seek 91 = .ok (.iconst 1, 1) := by decide +kernel
theorem dX1_seek_92 : decode cX1_seek 92 = .ok (.iconst 0, 1) := by decide +kernel
theorem dX1_seek_93 : decode cX1_seek 93 = .ok (.invokestatic 58, 3) := by decide +kernel
theorem dX1_seek_96 : decode cX1_seek 96 = .ok (.invokestatic 62, 3) := by decide +kernel
theorem dX1_seek_99 : decode cX1_seek 99 = .ok (.ifCond .eq 24, 3) := by decide +kernel
theorem dX1_seek_102 : decode cX1_seek 102 = .ok (.aload_n 1, 1) := by decide +kernel
theorem dX1_seek_103 : decode cX1_seek 103 = .ok (.iconst 2, 1) := by decide +kernel
theorem dX1_seek_104 : decode cX1_seek 104 = .ok (.iaload, 1) := by decide +kernel
theorem dX1_seek_105 : decode cX1_seek 105 = .ok (.iload_n 3, 1) := by decide +kernel
theorem dX1_seek_106 : decode cX1_seek 106 = .ok (.iconst 2, 1) := by decide +kernel
theorem dX1_seek_107 : decode cX1_seek 107 = .ok (.iconst 0, 1) := by decide +kernel
theorem dX1_seek_108 : decode cX1_seek 108 = .ok (.invokestatic 58, 3) := by decide +kernel
theorem dX1_seek_111 : decode cX1_seek 111 = .ok (.invokestatic 62, 3) := by decide +kernel
theorem dX1_seek_114 : decode cX1_seek 114 = .ok (.ifCond .eq 9, 3) := by decide +kernel
theorem dX1_seek_117 : decode cX1_seek 117 = .ok (.aload_n 0, 1) := by decide +kernel
theorem dX1_seek_118 : decode cX1_seek 118 = .ok (.iload_n 3, 1) := by decide +kernel
theorem dX1_seek_119 : decode cX1_seek 119 = .ok (.iload_n 2, 1) := by decide +kernel
theorem dX1_seek_120 : decode cX1_seek 120 = .ok (.invokevirtual 66, 3) := by decide +kernel
theorem dX1_seek_123 : decode cX1_seek 123 = .ok (.iinc 3 360, 6) := by decide +kernel
theorem dX1_seek_129 : decode cX1_seek 129 = .ok (.goto (-63), 3) := by decide +kernel
theorem dX1_seek_132 : decode cX1_seek 132 = .ok (.return_, 1) := by decide +kernel
set_option maxRecDepth 20000 in
theorem ggX1_turnInner_X7_reset : GoodIn wsX1_turnInner wsX7_reset := goodIn_r _ [7, 8, 9, 10, 11, 12, 13, 38, 39, 40] (by decide +kernel) (by decide +kernel)
set_option maxRecDepth 20000 in
theorem gX1_turnInner_X7_reset : GoodIn wsX1_turnInner (wsV RX1 69 RX7 yX7_reset wsX7_reset) := goodIn_app (goodIn_of _ (by decide +kernel)) ggX1_turnInner_X7_reset
set_option maxRecDepth 20000 in
theorem ggX1_turnInner_X0_signOf : GoodIn wsX1_turnInner wsX0_signOf := goodIn_r _ [17, 18] (by decide +kernel) (by decide +kernel)
set_option maxRecDepth 20000 in
theorem gX1_turnInner_X0_signOf : GoodIn wsX1_turnInner (va_wsS RX1 58 yX0_signOf wsX0_signOf) := goodIn_app (goodIn_of _ (by decide +kernel)) ggX1_turnInner_X0_signOf
set_option maxRecDepth 20000 in
theorem ggX1_turnInner_X0_holds : GoodIn wsX1_turnInner wsX0_holds := goodIn_r _ [21] (by decide +kernel) (by decide +kernel)
set_option maxRecDepth 20000 in
theorem gX1_turnInner_X0_holds : GoodIn wsX1_turnInner (va_wsS RX1 62 yX0_holds wsX0_holds) := goodIn_app (goodIn_of _ (by decide +kernel)) ggX1_turnInner_X0_holds
set_option maxRecDepth 20000 in
theorem ggX1_turnInner_X7_mark : GoodIn wsX1_turnInner wsX7_mark := goodIn_r _ [25, 26, 27, 28, 29, 30, 9, 38, 39, 40] (by decide +kernel) (by decide +kernel)
set_option maxRecDepth 20000 in
theorem gX1_turnInner_X7_mark : GoodIn wsX1_turnInner (wsV RX1 73 RX7 yX7_mark wsX7_mark) := goodIn_app (goodIn_of _ (by decide +kernel)) ggX1_turnInner_X7_mark
theorem dX1_turnInner_0 : decode cX1_turnInner 0 = .ok (.iload_n 1, 1) := by decide +kernel
theorem dX1_turnInner_1 : decode cX1_turnInner 1 = .ok (.iload_n 2, 1) := by decide +kernel
theorem dX1_turnInner_2 : decode cX1_turnInner 2 = .ok (.iand, 1) := by decide +kernel
theorem dX1_turnInner_3 : decode cX1_turnInner 3 = .ok (.iload_n 3, 1) := by decide +kernel
theorem dX1_turnInner_4 : decode cX1_turnInner 4 = .ok (.iand, 1) := by decide +kernel
theorem dX1_turnInner_5 : decode cX1_turnInner 5 = .ok (.iload 4, 2) := by decide +kernel
theorem dX1_turnInner_7 : decode cX1_turnInner 7 = .ok (.iand, 1) := by decide +kernel
theorem dX1_turnInner_8 : decode cX1_turnInner 8 = .ok (.iconst (-1), 1) := by decide +kernel
theorem dX1_turnInner_9 : decode cX1_turnInner 9 = .ok (.if_icmp .ne 7, 3) := by decide +kernel
theorem dX1_turnInner_12 : decode cX1_turnInner 12 = .ok (.iconst 1, 1) := by decide +kernel
theorem dX1_turnInner_13 : decode cX1_turnInner 13 = .ok (.goto 4, 3) := by decide +kernel
theorem dX1_turnInner_16 : decode cX1_turnInner 16 = .ok (.iconst 0, 1) := by decide +kernel
theorem dX1_turnInner_17 : decode cX1_turnInner 17 = .ok (.istore 5, 2) := by decide +kernel
theorem dX1_turnInner_19 : decode cX1_turnInner 19 = .ok (.aload_n 0, 1) := by decide +kernel
theorem dX1_turnInner_20 : decode cX1_turnInner 20 = .ok (.getfield 20, 3) := by decide +kernel
theorem dX1_turnInner_23 : decode cX1_turnInner 23 = .ok (.iload 5, 2) := by decide +kernel
theorem dX1_turnInner_25 : decode cX1_turnInner 25 = .ok (.invokevirtual 69, 3) := by decide +kernel
theorem dX1_turnInner_28 : decode cX1_turnInner 28 = .ok (.iconst 0, 1) := by decide +kernel
theorem dX1_turnInner_29 : decode cX1_turnInner 29 = .ok (.istore 6, 2) := by decide +kernel
theorem dX1_turnInner_31 : decode cX1_turnInner 31 = .ok (.iload 6, 2) := by decide +kernel
theorem dX1_turnInner_33 : decode cX1_turnInner 33 = .ok (.sipush 360, 3) := by decide +kernel
theorem dX1_turnInner_36 : decode cX1_turnInner 36 = .ok (.if_icmp .ge 89, 3) := by decide +kernel
theorem dX1_turnInner_39 : decode cX1_turnInner 39 = .ok (.iload 5, 2) := by decide +kernel
theorem dX1_turnInner_41 : decode cX1_turnInner 41 = .ok (.ifCond .ne 84, 3) := by decide +kernel
theorem dX1_turnInner_44 : decode cX1_turnInner 44 = .ok (.ldc 56, 2) := by decide +kernel
theorem dX1_turnInner_46 : decode cX1_turnInner 46 = .ok (.iload 6, 2) := by decide +kernel
theorem dX1_turnInner_48 : decode cX1_turnInner 48 = .ok (.iadd, 1) := by decide +kernel
theorem dX1_turnInner_49 : decode cX1_turnInner 49 = .ok (.istore 7, 2) := by decide +kernel
theorem dX1_turnInner_51 : decode cX1_turnInner 51 = .ok (.iload_n 1, 1) := by decide +kernel
theorem dX1_turnInner_52 : decode cX1_turnInner 52 = .ok (.iload 7, 2) := by decide +kernel
theorem dX1_turnInner_54 : decode cX1_turnInner 54 = .ok (.iconst 3, 1) := by decide +kernel
theorem dX1_turnInner_55 : decode cX1_turnInner 55 = .ok (.iconst 0, 1) := by decide +kernel
theorem dX1_turnInner_56 : decode cX1_turnInner 56 = .ok (.invokestatic 58, 3) := by decide +kernel
theorem dX1_turnInner_59 : decode cX1_turnInner 59 = .ok (.invokestatic 62, 3) := by decide +kernel
theorem dX1_turnInner_62 : decode cX1_turnInner 62 = .ok (.ifCond .eq 57, 3) := by decide +kernel
theorem dX1_turnInner_65 : decode cX1_turnInner 65 = .ok (.iload_n 2, 1) := by decide +kernel
theorem dX1_turnInner_66 : decode cX1_turnInner 66 = .ok (.iload 7, 2) := by decide +kernel
theorem dX1_turnInner_68 : decode cX1_turnInner 68 = .ok (.iconst 4, 1) := by decide +kernel
theorem dX1_turnInner_69 : decode cX1_turnInner 69 = .ok (.iconst 0, 1) := by decide +kernel
theorem dX1_turnInner_70 : decode cX1_turnInner 70 = .ok (.invokestatic 58, 3) := by decide +kernel
theorem dX1_turnInner_73 : decode cX1_turnInner 73 = .ok (.invokestatic 62, 3) := by decide +kernel
theorem dX1_turnInner_76 : decode cX1_turnInner 76 = .ok (.ifCond .eq 43, 3) := by decide +kernel
theorem dX1_turnInner_79 : decode cX1_turnInner 79 = .ok (.iload_n 3, 1) := by decide +kernel
theorem dX1_turnInner_80 : decode cX1_turnInner 80 = .ok (.iload 7, 2) := by decide +kernel
theorem dX1_turnInner_82 : decode cX1_turnInner 82 = .ok (.bipush 6, 2) := by decide +kernel
theorem dX1_turnInner_84 : decode cX1_turnInner 84 = .ok (.iconst 0, 1) := by decide +kernel
theorem dX1_turnInner_85 : decode cX1_turnInner 85 = .ok (.invokestatic 58, 3) := by decide +kernel
theorem dX1_turnInner_88 : decode cX1_turnInner 88 = .ok (.invokestatic 62, 3) := by decide +kernel
theorem dX1_turnInner_91 : decode cX1_turnInner 91 = .ok (.ifCond .eq 28, 3) := by decide +kernel
theorem dX1_turnInner_94 : decode cX1_turnInner 94 = .ok (.iload 4, 2) := by decide +kernel
theorem dX1_turnInner_96 : decode cX1_turnInner 96 = .ok (.iload 7, 2) := by decide +kernel
theorem dX1_turnInner_98 : decode cX1_turnInner 98 = .ok (.bipush 9, 2) := by decide +kernel
theorem dX1_turnInner_100 : decode cX1_turnInner 100 = .ok (.iconst 0, 1) := by decide +kernel
theorem dX1_turnInner_101 : decode cX1_turnInner 101 = .ok (.invokestatic 58, 3) := by decide +kernel
theorem dX1_turnInner_104 : decode cX1_turnInner 104 = .ok (.invokestatic 62, 3) := by decide +kernel
theorem dX1_turnInner_107 : decode cX1_turnInner 107 = .ok (.ifCond .eq 12, 3) := by decide +kernel
theorem dX1_turnInner_110 : decode cX1_turnInner 110 = .ok (.aload_n 0, 1) := by decide +kernel
theorem dX1_turnInner_111 : decode cX1_turnInner 111 = .ok (.getfield 20, 3) := by decide +kernel
theorem dX1_turnInner_114 : decode cX1_turnInner 114 = .ok (.iload 6, 2) := by decide +kernel
theorem dX1_turnInner_116 : decode cX1_turnInner 116 = .ok (.invokevirtual 73, 3) := by decide +kernel
theorem dX1_turnInner_119 : decode cX1_turnInner 119 = .ok (.iinc 6 1, 3) := by decide +kernel
theorem dX1_turnInner_122 : decode cX1_turnInner 122 = .ok (.goto (-91), 3) := by decide +kernel
theorem dX1_turnInner_125 : decode cX1_turnInner 125 = .ok (.return_, 1) := by decide +kernel
set_option maxRecDepth 20000 in
theorem ggX1_turnThirteen_X7_reset : GoodIn wsX1_turnThirteen wsX7_reset := goodIn_r _ [6, 7, 8, 9, 10, 11, 12, 33, 34, 35] (by decide +kernel) (by decide +kernel)
set_option maxRecDepth 20000 in
theorem gX1_turnThirteen_X7_reset : GoodIn wsX1_turnThirteen (wsV RX1 69 RX7 yX7_reset wsX7_reset) := goodIn_app (goodIn_of _ (by decide +kernel)) ggX1_turnThirteen_X7_reset
set_option maxRecDepth 20000 in
theorem ggX1_turnThirteen_X0_holds : GoodIn wsX1_turnThirteen wsX0_holds := goodIn_r _ [16] (by decide +kernel) (by decide +kernel)
set_option maxRecDepth 20000 in
theorem gX1_turnThirteen_X0_holds : GoodIn wsX1_turnThirteen (va_wsS RX1 62 yX0_holds wsX0_holds) := goodIn_app (goodIn_of _ (by decide +kernel)) ggX1_turnThirteen_X0_holds
set_option maxRecDepth 20000 in
theorem ggX1_turnThirteen_X7_mark : GoodIn wsX1_turnThirteen wsX7_mark := goodIn_r _ [20, 21, 22, 23, 24, 25, 8, 33, 34, 35] (by decide +kernel) (by decide +kernel)
set_option maxRecDepth 20000 in
theorem gX1_turnThirteen_X7_mark : GoodIn wsX1_turnThirteen (wsV RX1 73 RX7 yX7_mark wsX7_mark) := goodIn_app (goodIn_of _ (by decide +kernel)) ggX1_turnThirteen_X7_mark
theorem dX1_turnThirteen_0 : decode cX1_turnThirteen 0 = .ok (.aload_n 0, 1) := by decide +kernel
theorem dX1_turnThirteen_1 : decode cX1_turnThirteen 1 = .ok (.getfield 24, 3) := by decide +kernel
theorem dX1_turnThirteen_4 : decode cX1_turnThirteen 4 = .ok (.iload_n 1, 1) := by decide +kernel
theorem dX1_turnThirteen_5 : decode cX1_turnThirteen 5 = .ok (.iconst (-1), 1) := by decide +kernel
theorem dX1_turnThirteen_6 : decode cX1_turnThirteen 6 = .ok (.if_icmp .ne 7, 3) := by decide +kernel
theorem dX1_turnThirteen_9 : decode cX1_turnThirteen 9 = .ok (.iconst 1, 1) := by decide +kernel
theorem dX1_turnThirteen_10 : decode cX1_turnThirteen 10 = .ok (.goto 4, 3) := by decide +kernel
theorem dX1_turnThirteen_13 : decode cX1_turnThirteen 13 = .ok (.iconst 0, 1) := by decide +kernel
theorem dX1_turnThirteen_14 : decode cX1_turnThirteen 14 = .ok (.invokevirtual 69, 3) := by decide +kernel
theorem dX1_turnThirteen_17 : decode cX1_turnThirteen 17 = .ok (.iconst 0, 1) := by decide +kernel
theorem dX1_turnThirteen_18 : decode cX1_turnThirteen 18 = .ok (.istore_n 2, 1) := by decide +kernel
theorem dX1_turnThirteen_19 : decode cX1_turnThirteen 19 = .ok (.iload_n 2, 1) := by decide +kernel
theorem dX1_turnThirteen_20 : decode cX1_turnThirteen 20 = .ok (.bipush 13, 2) := by decide +kernel
theorem dX1_turnThirteen_22 : decode cX1_turnThirteen 22 = .ok (.if_icmp .ge 32, 3) := by decide +kernel
theorem dX1_turnThirteen_25 : decode cX1_turnThirteen 25 = .ok (.iload_n 1, 1) := by decide +kernel
theorem dX1_turnThirteen_26 : decode cX1_turnThirteen 26 = .ok (.iconst (-1), 1) := by decide +kernel
theorem dX1_turnThirteen_27 : decode cX1_turnThirteen 27 = .ok (.if_icmp .eq 27, 3) := by decide +kernel
theorem dX1_turnThirteen_30 : decode cX1_turnThirteen 30 = .ok (.iload_n 1, 1) := by decide +kernel
theorem dX1_turnThirteen_31 : decode cX1_turnThirteen 31 = .ok (.iload_n 2, 1) := by decide +kernel
theorem dX1_turnThirteen_32 : decode cX1_turnThirteen 32 = .ok (.iconst 1, 1) := by decide +kernel
theorem dX1_turnThirteen_33 : decode cX1_turnThirteen 33 = .ok (.iadd, 1) := by decide +kernel
theorem dX1_turnThirteen_34 : decode cX1_turnThirteen 34 = .ok (.invokestatic 62, 3) := by decide +kernel
theorem dX1_turnThirteen_37 : decode cX1_turnThirteen 37 = .ok (.ifCond .eq 11, 3) := by decide +kernel
theorem dX1_turnThirteen_40 : decode cX1_turnThirteen 40 = .ok (.aload_n 0, 1) := by decide +kernel
theorem dX1_turnThirteen_41 : decode cX1_turnThirteen 41 = .ok (.getfield 24, 3) := by decide +kernel
theorem dX1_turnThirteen_44 : decode cX1_turnThirteen 44 = .ok (.iload_n 2, 1) := by decide +kernel
theorem dX1_turnThirteen_45 : decode cX1_turnThirteen 45 = .ok (.invokevirtual 73, 3) := by decide +kernel
theorem dX1_turnThirteen_48 : decode cX1_turnThirteen 48 = .ok (.iinc 2 1, 3) := by decide +kernel
theorem dX1_turnThirteen_51 : decode cX1_turnThirteen 51 = .ok (.goto (-32), 3) := by decide +kernel
theorem dX1_turnThirteen_54 : decode cX1_turnThirteen 54 = .ok (.return_, 1) := by decide +kernel
set_option maxRecDepth 20000 in
theorem ggX1_turnYear_X7_reset : GoodIn wsX1_turnYear wsX7_reset := goodIn_r _ [6, 7, 8, 9, 10, 11, 12, 33, 34, 35] (by decide +kernel) (by decide +kernel)
set_option maxRecDepth 20000 in
theorem gX1_turnYear_X7_reset : GoodIn wsX1_turnYear (wsV RX1 69 RX7 yX7_reset wsX7_reset) := goodIn_app (goodIn_of _ (by decide +kernel)) ggX1_turnYear_X7_reset
set_option maxRecDepth 20000 in
theorem ggX1_turnYear_X0_holds : GoodIn wsX1_turnYear wsX0_holds := goodIn_r _ [16] (by decide +kernel) (by decide +kernel)
set_option maxRecDepth 20000 in
theorem gX1_turnYear_X0_holds : GoodIn wsX1_turnYear (va_wsS RX1 62 yX0_holds wsX0_holds) := goodIn_app (goodIn_of _ (by decide +kernel)) ggX1_turnYear_X0_holds
set_option maxRecDepth 20000 in
theorem ggX1_turnYear_X7_mark : GoodIn wsX1_turnYear wsX7_mark := goodIn_r _ [20, 21, 22, 23, 24, 25, 8, 33, 34, 35] (by decide +kernel) (by decide +kernel)
set_option maxRecDepth 20000 in
theorem gX1_turnYear_X7_mark : GoodIn wsX1_turnYear (wsV RX1 73 RX7 yX7_mark wsX7_mark) := goodIn_app (goodIn_of _ (by decide +kernel)) ggX1_turnYear_X7_mark
theorem dX1_turnYear_0 : decode cX1_turnYear 0 = .ok (.iload_n 1, 1) := by decide +kernel
theorem dX1_turnYear_1 : decode cX1_turnYear 1 = .ok (.iload_n 2, 1) := by decide +kernel
theorem dX1_turnYear_2 : decode cX1_turnYear 2 = .ok (.iand, 1) := by decide +kernel
theorem dX1_turnYear_3 : decode cX1_turnYear 3 = .ok (.iconst (-1), 1) := by decide +kernel
theorem dX1_turnYear_4 : decode cX1_turnYear 4 = .ok (.if_icmp .ne 7, 3) := by decide +kernel
theorem dX1_turnYear_7 : decode cX1_turnYear 7 = .ok (.iconst 1, 1) := by decide +kernel
theorem dX1_turnYear_8 : decode cX1_turnYear 8 = .ok (.goto 4, 3) := by decide +kernel
theorem dX1_turnYear_11 : decode cX1_turnYear 11 = .ok (.iconst 0, 1) := by decide +kernel
theorem dX1_turnYear_12 : decode cX1_turnYear 12 = .ok (.istore_n 3, 1) := by decide +kernel
theorem dX1_turnYear_13 : decode cX1_turnYear 13 = .ok (.aload_n 0, 1) := by decide +kernel
theorem dX1_turnYear_14 : decode cX1_turnYear 14 = .ok (.getfield 27, 3) := by decide +kernel
theorem dX1_turnYear_17 : decode cX1_turnYear 17 = .ok (.iload_n 3, 1) := by decide +kernel
theorem dX1_turnYear_18 : decode cX1_turnYear 18 = .ok (.invokevirtual 69, 3) := by decide +kernel
theorem dX1_turnYear_21 : decode cX1_turnYear 21 = .ok (.iconst 0, 1) := by decide +kernel
theorem dX1_turnYear_22 : decode cX1_turnYear 22 = .ok (.istore 4, 2) := by decide +kernel
theorem dX1_turnYear_24 : decode cX1_turnYear 24 = .ok (.iload 4, 2) := by decide +kernel
theorem dX1_turnYear_26 : decode cX1_turnYear 26 = .ok (.sipush 365, 3) := by decide +kernel
theorem dX1_turnYear_29 : decode cX1_turnYear 29 = .ok (.if_icmp .ge 46, 3) := by decide +kernel
theorem dX1_turnYear_32 : decode cX1_turnYear 32 = .ok (.iload_n 3, 1) := by decide +kernel
theorem dX1_turnYear_33 : decode cX1_turnYear 33 = .ok (.ifCond .ne 42, 3) := by decide +kernel
theorem dX1_turnYear_36 : decode cX1_turnYear 36 = .ok (.iload_n 1, 1) := by decide +kernel
theorem dX1_turnYear_37 : decode cX1_turnYear 37 = .ok (.iload 4, 2) := by decide +kernel
theorem dX1_turnYear_39 : decode cX1_turnYear 39 = .ok (.bipush 20, 2) := by decide +kernel
theorem dX1_turnYear_41 : decode cX1_turnYear 41 = .ok (.irem, 1) := by decide +kernel
theorem dX1_turnYear_42 : decode cX1_turnYear 42 = .ok (.invokestatic 62, 3) := by decide +kernel
theorem dX1_turnYear_45 : decode cX1_turnYear 45 = .ok (.ifCond .eq 24, 3) := by decide +kernel
theorem dX1_turnYear_48 : decode cX1_turnYear 48 = .ok (.iload_n 2, 1) := by decide +kernel
theorem dX1_turnYear_49 : decode cX1_turnYear 49 = .ok (.iload 4, 2) := by decide +kernel
theorem dX1_turnYear_51 : decode cX1_turnYear 51 = .ok (.bipush 20, 2) := by decide +kernel
theorem dX1_turnYear_53 : decode cX1_turnYear 53 = .ok (.idiv, 1) := by decide +kernel
theorem dX1_turnYear_54 : decode cX1_turnYear 54 = .ok (.invokestatic 62, 3) := by decide +kernel
theorem dX1_turnYear_57 : decode cX1_turnYear 57 = .ok (.ifCond .eq 12, 3) := by decide +kernel
theorem dX1_turnYear_60 : decode cX1_turnYear 60 = .ok (.aload_n 0, 1) := by decide +kernel
theorem dX1_turnYear_61 : decode cX1_turnYear 61 = .ok (.getfield 27, 3) := by decide +kernel
theorem dX1_turnYear_64 : decode cX1_turnYear 64 = .ok (.iload 4, 2) := by decide +kernel
theorem dX1_turnYear_66 : decode cX1_turnYear 66 = .ok (.invokevirtual 73, 3) := by decide +kernel
theorem dX1_turnYear_69 : decode cX1_turnYear 69 = .ok (.iinc 4 1, 3) := by decide +kernel
theorem dX1_turnYear_72 : decode cX1_turnYear 72 = .ok (.goto (-48), 3) := by decide +kernel
theorem dX1_turnYear_75 : decode cX1_turnYear 75 = .ok (.return_, 1) := by decide +kernel
set_option maxRecDepth 20000 in
theorem ggX1_turnLunar_X7_reset : GoodIn wsX1_turnLunar wsX7_reset := goodIn_r _ [6, 7, 8, 9, 10, 11, 12, 37, 38, 39] (by decide +kernel) (by decide +kernel)
set_option maxRecDepth 20000 in
theorem gX1_turnLunar_X7_reset : GoodIn wsX1_turnLunar (wsV RX1 69 RX7 yX7_reset wsX7_reset) := goodIn_app (goodIn_of _ (by decide +kernel)) ggX1_turnLunar_X7_reset
set_option maxRecDepth 20000 in
theorem ggX1_turnLunar_X0_signOf : GoodIn wsX1_turnLunar wsX0_signOf := goodIn_r _ [16, 17] (by decide +kernel) (by decide +kernel)
set_option maxRecDepth 20000 in
theorem gX1_turnLunar_X0_signOf : GoodIn wsX1_turnLunar (va_wsS RX1 58 yX0_signOf wsX0_signOf) := goodIn_app (goodIn_of _ (by decide +kernel)) ggX1_turnLunar_X0_signOf
set_option maxRecDepth 20000 in
theorem ggX1_turnLunar_X0_holds : GoodIn wsX1_turnLunar wsX0_holds := goodIn_r _ [20] (by decide +kernel) (by decide +kernel)
set_option maxRecDepth 20000 in
theorem gX1_turnLunar_X0_holds : GoodIn wsX1_turnLunar (va_wsS RX1 62 yX0_holds wsX0_holds) := goodIn_app (goodIn_of _ (by decide +kernel)) ggX1_turnLunar_X0_holds
set_option maxRecDepth 20000 in
theorem ggX1_turnLunar_X7_mark : GoodIn wsX1_turnLunar wsX7_mark := goodIn_r _ [24, 25, 26, 27, 28, 29, 8, 37, 38, 39] (by decide +kernel) (by decide +kernel)
set_option maxRecDepth 20000 in
theorem gX1_turnLunar_X7_mark : GoodIn wsX1_turnLunar (wsV RX1 73 RX7 yX7_mark wsX7_mark) := goodIn_app (goodIn_of _ (by decide +kernel)) ggX1_turnLunar_X7_mark
theorem dX1_turnLunar_0 : decode cX1_turnLunar 0 = .ok (.aload_n 0, 1) := by decide +kernel
theorem dX1_turnLunar_1 : decode cX1_turnLunar 1 = .ok (.getfield 30, 3) := by decide +kernel
theorem dX1_turnLunar_4 : decode cX1_turnLunar 4 = .ok (.iload_n 1, 1) := by decide +kernel
theorem dX1_turnLunar_5 : decode cX1_turnLunar 5 = .ok (.iconst (-1), 1) := by decide +kernel
theorem dX1_turnLunar_6 : decode cX1_turnLunar 6 = .ok (.if_icmp .ne 7, 3) := by decide +kernel
theorem dX1_turnLunar_9 : decode cX1_turnLunar 9 = .ok (.iconst 1, 1) := by decide +kernel
theorem dX1_turnLunar_10 : decode cX1_turnLunar 10 = .ok (.goto 4, 3) := by decide +kernel
theorem dX1_turnLunar_13 : decode cX1_turnLunar 13 = .ok (.iconst 0, 1) := by decide +kernel
theorem dX1_turnLunar_14 : decode cX1_turnLunar 14 = .ok (.invokevirtual 69, 3) := by decide +kernel
theorem dX1_turnLunar_17 : decode cX1_turnLunar 17 = .ok (.iconst 0, 1) := by decide +kernel
theorem dX1_turnLunar_18 : decode cX1_turnLunar 18 = .ok (.istore_n 2, 1) := by decide +kernel
theorem dX1_turnLunar_19 : decode cX1_turnLunar 19 = .ok (.iload_n 2, 1) := by decide +kernel
theorem dX1_turnLunar_20 : decode cX1_turnLunar 20 = .ok (.sipush 4400, 3) := by decide +kernel
theorem dX1_turnLunar_23 : decode cX1_turnLunar 23 = .ok (.if_icmp .ge 36, 3) := by decide +kernel
theorem dX1_turnLunar_26 : decode cX1_turnLunar 26 = .ok (.iload_n 1, 1) := by decide +kernel
theorem dX1_turnLunar_27 : decode cX1_turnLunar 27 = .ok (.iconst (-1), 1) := by decide +kernel
theorem dX1_turnLunar_28 : decode cX1_turnLunar 28 = .ok (.if_icmp .eq 31, 3) := by decide +kernel
theorem dX1_turnLunar_31 : decode cX1_turnLunar 31 = .ok (.iload_n 1, 1) := by decide +kernel
theorem dX1_turnLunar_32 : decode cX1_turnLunar 32 = .ok (.iload_n 2, 1) := by decide +kernel
theorem dX1_turnLunar_33 : decode cX1_turnLunar 33 = .ok (.bipush 10, 2) := by decide +kernel
theorem dX1_turnLunar_35 : decode cX1_turnLunar 35 = .ok (.iconst 0, 1) := by decide +kernel
theorem dX1_turnLunar_36 : decode cX1_turnLunar 36 = .ok (.invokestatic 58, 3) := by decide +kernel
theorem dX1_turnLunar_39 : decode cX1_turnLunar 39 = .ok (.invokestatic 62, 3) := by decide +kernel
theorem dX1_turnLunar_42 : decode cX1_turnLunar 42 = .ok (.ifCond .eq 11, 3) := by decide +kernel
theorem dX1_turnLunar_45 : decode cX1_turnLunar 45 = .ok (.aload_n 0, 1) := by decide +kernel
theorem dX1_turnLunar_46 : decode cX1_turnLunar 46 = .ok (.getfield 30, 3) := by decide +kernel
theorem dX1_turnLunar_49 : decode cX1_turnLunar 49 = .ok (.iload_n 2, 1) := by decide +kernel
theorem dX1_turnLunar_50 : decode cX1_turnLunar 50 = .ok (.invokevirtual 73, 3) := by decide +kernel
theorem dX1_turnLunar_53 : decode cX1_turnLunar 53 = .ok (.iinc 2 1, 3) := by decide +kernel
theorem dX1_turnLunar_56 : decode cX1_turnLunar 56 = .ok (.goto (-37), 3) := by decide +kernel
theorem dX1_turnLunar_59 : decode cX1_turnLunar 59 = .ok (.return_, 1) := by decide +kernel
set_option maxRecDepth 20000 in
theorem ggX1_scan_X7_window : GoodIn wsX1_scan wsX7_window := goodIn_r _ [10, 11, 12, 13, 14, 36, 37, 38] (by decide +kernel) (by decide +kernel)
set_option maxRecDepth 20000 in
theorem gX1_scan_X7_window : GoodIn wsX1_scan (wsV RX1 76 RX7 yX7_window wsX7_window) := goodIn_app (goodIn_of _ (by decide +kernel)) ggX1_scan_X7_window
set_option maxRecDepth 20000 in
theorem ggX1_scan_J13_bitCount_95d88 : GoodIn wsX1_scan wsJ13_bitCount_95d88 := goodIn_r _ [18, 19, 20, 21] (by decide +kernel) (by decide +kernel)
set_option maxRecDepth 20000 in
theorem gX1_scan_J13_bitCount_95d88 : GoodIn wsX1_scan (va_wsS RX1 80 yJ13_bitCount_95d88 wsJ13_bitCount_95d88) := goodIn_app (goodIn_of _ (by decide +kernel)) ggX1_scan_J13_bitCount_95d88
set_option maxRecDepth 20000 in
theorem ggX1_scan_X1_keep : GoodIn wsX1_scan wsX1_keep := goodIn_r _ [26, 27, 28, 15, 16, 17, 18, 19, 20, 21, 29, 30, 31, 32, 33, 34, 35] (by decide +kernel) (by decide +kernel)
set_option maxRecDepth 20000 in
theorem gX1_scan_X1_keep : GoodIn wsX1_scan (wsV RX1 86 RX1 yX1_keep wsX1_keep) := goodIn_app (goodIn_of _ (by decide +kernel)) ggX1_scan_X1_keep
theorem dX1_scan_0 : decode cX1_scan 0 = .ok (.iload_n 1, 1) := by decide +kernel
theorem dX1_scan_1 : decode cX1_scan 1 = .ok (.iconst 3, 1) := by decide +kernel
theorem dX1_scan_2 : decode cX1_scan 2 = .ok (.iadd, 1) := by decide +kernel
theorem dX1_scan_3 : decode cX1_scan 3 = .ok (.istore_n 3, 1) := by decide +kernel
theorem dX1_scan_4 : decode cX1_scan 4 = .ok (.iload_n 1, 1) := by decide +kernel
theorem dX1_scan_5 : decode cX1_scan 5 = .ok (.sipush 348, 3) := by decide +kernel
theorem dX1_scan_8 : decode cX1_scan 8 = .ok (.iadd, 1) := by decide +kernel
theorem dX1_scan_9 : decode cX1_scan 9 = .ok (.istore 4, 2) := by decide +kernel
theorem dX1_scan_11 : decode cX1_scan 11 = .ok (.iload_n 1, 1) := by decide +kernel
theorem dX1_scan_12 : decode cX1_scan 12 = .ok (.iload_n 2, 1) := by decide +kernel
theorem dX1_scan_13 : decode cX1_scan 13 = .ok (.iadd, 1) := by decide +kernel
theorem dX1_scan_14 : decode cX1_scan 14 = .ok (.istore 5, 2) := by decide +kernel
theorem dX1_scan_16 : decode cX1_scan 16 = .ok (.iconst 0, 1) := by decide +kernel
theorem dX1_scan_17 : decode cX1_scan 17 = .ok (.istore 6, 2) := by decide +kernel
theorem dX1_scan_19 : decode cX1_scan 19 = .ok (.iload 6, 2) := by decide +kernel
theorem dX1_scan_21 : decode cX1_scan 21 = .ok (.sipush 360, 3) := by decide +kernel
theorem dX1_scan_24 : decode cX1_scan 24 = .ok (.if_icmp .ge 104, 3) := by decide +kernel
theorem dX1_scan_27 : decode cX1_scan 27 = .ok (.aload_n 0, 1) := by decide +kernel
theorem dX1_scan_28 : decode cX1_scan 28 = .ok (.getfield 20, 3) := by decide +kernel
theorem dX1_scan_31 : decode cX1_scan 31 = .ok (.iload 6, 2) := by decide +kernel
theorem dX1_scan_33 : decode cX1_scan 33 = .ok (.invokevirtual 76, 3) := by decide +kernel
theorem dX1_scan_36 : decode cX1_scan 36 = .ok (.lstore 7, 2) := by decide +kernel
theorem dX1_scan_38 : decode cX1_scan 38 = .ok (.lload 7, 2) := by decide +kernel
theorem dX1_scan_40 : decode cX1_scan 40 = .ok (.lconst 0, 1) := by decide +kernel
theorem dX1_scan_41 : decode cX1_scan 41 = .ok (.lcmp, 1) := by decide +kernel
theorem dX1_scan_42 : decode cX1_scan 42 = .ok (.ifCond .eq 56, 3) := by decide +kernel
theorem dX1_scan_45 : decode cX1_scan 45 = .ok (.lload 7, 2) := by decide +kernel
theorem dX1_scan_47 : decode cX1_scan 47 = .ok (.aload_n 0, 1) := by decide +kernel
theorem dX1_scan_48 : decode cX1_scan 48 = .ok (.getfield 24, 3) := by decide +kernel
theorem dX1_scan_51 : decode cX1_scan 51 = .ok (.iload_n 3, 1) := by decide +kernel
theorem dX1_scan_52 : decode cX1_scan 52 = .ok (.iload 6, 2) := by decide +kernel
theorem dX1_scan_54 : decode cX1_scan 54 = .ok (.iadd, 1) := by decide +kernel
theorem dX1_scan_55 : decode cX1_scan 55 = .ok (.bipush 13, 2) := by decide +kernel
theorem dX1_scan_57 : decode cX1_scan 57 = .ok (.irem, 1) := by decide +kernel
theorem dX1_scan_58 : decode cX1_scan 58 = .ok (.invokevirtual 76, 3) := by decide +kernel
theorem dX1_scan_61 : decode cX1_scan 61 = .ok (.aload_n 0, 1) := by decide +kernel
theorem dX1_scan_62 : decode cX1_scan 62 = .ok (.getfield 27, 3) := by decide +kernel
theorem dX1_scan_65 : decode cX1_scan 65 = .ok (.iload 4, 2) := by decide +kernel
theorem dX1_scan_67 : decode cX1_scan 67 = .ok (.iload 6, 2) := by decide +kernel
theorem dX1_scan_69 : decode cX1_scan 69 = .ok (.iadd, 1) := by decide +kernel
theorem dX1_scan_70 : decode cX1_scan 70 = .ok (.sipush 365, 3) := by decide +kernel
theorem dX1_scan_73 : decode cX1_scan 73 = .ok (.irem, 1) := by decide +kernel
theorem dX1_scan_74 : decode cX1_scan 74 = .ok (.invokevirtual 76, 3) := by decide +kernel
theorem dX1_scan_77 : decode cX1_scan 77 = .ok (.land, 1) := by decide +kernel
theorem dX1_scan_78 : decode cX1_scan 78 = .ok (.aload_n 0, 1) := by decide +kernel
theorem dX1_scan_79 : decode cX1_scan 79 = .ok (.getfield 30, 3) := by decide +kernel
theorem dX1_scan_82 : decode cX1_scan 82 = .ok (.iload 5, 2) := by decide +kernel
theorem dX1_scan_84 : decode cX1_scan 84 = .ok (.iload 6, 2) := by decide +kernel
theorem dX1_scan_86 : decode cX1_scan 86 = .ok (.iadd, 1) := by decide +kernel
theorem dX1_scan_87 : decode cX1_scan 87 = .ok (.sipush 4400, 3) := by decide +kernel
theorem dX1_scan_90 : decode cX1_scan 90 = .ok (.irem, 1) := by decide +kernel
theorem dX1_scan_91 : decode cX1_scan 91 = .ok (.invokevirtual 76, 3) := by decide +kernel
theorem dX1_scan_94 : decode cX1_scan 94 = .ok (.land, 1) := by decide +kernel
theorem dX1_scan_95 : decode cX1_scan 95 = .ok (.land, 1) := by decide +kernel
theorem dX1_scan_96 : decode cX1_scan 96 = .ok (.lstore 7, 2) := by decide +kernel
theorem dX1_scan_98 : decode cX1_scan 98 = .ok (.aload_n 0, 1) := by decide +kernel
theorem dX1_scan_99 : decode cX1_scan 99 = .ok (.dup, 1) := by decide +kernel
theorem dX1_scan_100 : decode cX1_scan 100 = .ok (.getfield 37, 3) := by decide +kernel
theorem dX1_scan_103 : decode cX1_scan 103 = .ok (.lload 7, 2) := by decide +kernel
theorem dX1_scan_105 : decode cX1_scan 105 = .ok (.invokestatic 80, 3) := by decide +kernel
theorem dX1_scan_108 : decode cX1_scan 108 = .ok (.iadd, 1) := by decide +kernel
theorem dX1_scan_109 : decode cX1_scan 109 = .ok (.putfield 37, 3) := by decide +kernel
theorem dX1_scan_112 : decode cX1_scan 112 = .ok (.aload_n 0, 1) := by decide +kernel
theorem dX1_scan_113 : decode cX1_scan 113 = .ok (.iload_n 1, 1) := by decide +kernel
theorem dX1_scan_114 : decode cX1_scan 114 = .ok (.iload 6, 2) := by decide +kernel
theorem dX1_scan_116 : decode cX1_scan 116 = .ok (.iadd, 1) := by decide +kernel
theorem dX1_scan_117 : decode cX1_scan 117 = .ok (.lload 7, 2) := by decide +kernel
theorem dX1_scan_119 : decode cX1_scan 119 = .ok (.invokevirtual 86, 3) := by decide +kernel
theorem dX1_scan_122 : decode cX1_scan 122 = .ok (.iinc 6 60, 3) := by decide +kernel
theorem dX1_scan_125 : decode cX1_scan 125 = .ok (.goto (-106), 3) := by decide +kernel
theorem dX1_scan_128 : decode cX1_scan 128 = .ok (.return_, 1) := by decide +kernel
set_option maxRecDepth 20000 in
theorem ggX1_keep_J13_bitCount_95d88 : GoodIn wsX1_keep wsJ13_bitCount_95d88 := goodIn_r _ [6, 7, 8, 9] (by decide +kernel) (by decide +kernel)
set_option maxRecDepth 20000 in
theorem gX1_keep_J13_bitCount_95d88 : GoodIn wsX1_keep (va_wsS RX1 80 yJ13_bitCount_95d88 wsJ13_bitCount_95d88) := goodIn_app (goodIn_of _ (by decide +kernel)) ggX1_keep_J13_bitCount_95d88
theorem dX1_keep_0 : decode cX1_keep 0 = .ok (.lload_n 2, 1) := by decide +kernel
theorem dX1_keep_1 : decode cX1_keep 1 = .ok (.lstore 4, 2) := by decide +kernel
theorem dX1_keep_3 : decode cX1_keep 3 = .ok (.lload 4, 2) := by decide +kernel
theorem dX1_keep_5 : decode cX1_keep 5 = .ok (.lconst 0, 1) := by decide +kernel
theorem dX1_keep_6 : decode cX1_keep 6 = .ok (.lcmp, 1) := by decide +kernel
theorem dX1_keep_7 : decode cX1_keep 7 = .ok (.ifCond .eq 59, 3) := by decide +kernel
theorem dX1_keep_10 : decode cX1_keep 10 = .ok (.aload_n 0, 1) := by decide +kernel
theorem dX1_keep_11 : decode cX1_keep 11 = .ok (.getfield 33, 3) := by decide +kernel
theorem dX1_keep_14 : decode cX1_keep 14 = .ok (.sipush 300, 3) := by decide +kernel
theorem dX1_keep_17 : decode cX1_keep 17 = .ok (.if_icmp .ge 49, 3) := by decide +kernel
theorem dX1_keep_20 : decode cX1_keep 20 = .ok (.lload 4, 2) := by decide +kernel
theorem dX1_keep_22 : decode cX1_keep 22 = .ok (.lload 4, 2) := by decide +kernel
theorem dX1_keep_24 : decode cX1_keep 24 = .ok (.lneg, 1) := by decide +kernel
theorem dX1_keep_25 : decode cX1_keep 25 = .ok (.land, 1) := by decide +kernel
theorem dX1_keep_26 : decode cX1_keep 26 = .ok (.lstore 6, 2) := by decide +kernel
theorem dX1_keep_28 : decode cX1_keep 28 = .ok (.aload_n 0, 1) := by decide +kernel
theorem dX1_keep_29 : decode cX1_keep 29 = .ok (.getfield 9, 3) := by decide +kernel
theorem dX1_keep_32 : decode cX1_keep 32 = .ok (.aload_n 0, 1) := by decide +kernel
theorem dX1_keep_33 : decode cX1_keep 33 = .ok (.getfield 33, 3) := by decide +kernel
theorem dX1_keep_36 : decode cX1_keep 36 = .ok (.iload_n 1, 1) := by decide +kernel
theorem dX1_keep_37 : decode cX1_keep 37 = .ok (.lload 6, 2) := by decide +kernel
theorem dX1_keep_39 : decode cX1_keep 39 = .ok (.lconst 1, 1) := by decide +kernel
theorem dX1_keep_40 : decode cX1_keep 40 = .ok (.lsub, 1) := by decide +kernel
theorem dX1_keep_41 : decode cX1_keep 41 = .ok (.invokestatic 80, 3) := by decide +kernel
theorem dX1_keep_44 : decode cX1_keep 44 = .ok (.iadd, 1) := by decide +kernel
theorem dX1_keep_45 : decode cX1_keep 45 = .ok (.iastore, 1) := by decide +kernel
theorem dX1_keep_46 : decode cX1_keep 46 = .ok (.aload_n 0, 1) := by decide +kernel
theorem dX1_keep_47 : decode cX1_keep 47 = .ok (.dup, 1) := by decide +kernel
theorem dX1_keep_48 : decode cX1_keep 48 = .ok (.getfield 33, 3) := by decide +kernel
theorem dX1_keep_51 : decode cX1_keep 51 = .ok (.iconst 1, 1) := by decide +kernel
theorem dX1_keep_52 : decode cX1_keep 52 = .ok (.iadd, 1) := by decide +kernel
theorem dX1_keep_53 : decode cX1_keep 53 = .ok (.putfield 33, 3) := by decide +kernel
theorem dX1_keep_56 : decode cX1_keep 56 = .ok (.lload 4, 2) := by decide +kernel
theorem dX1_keep_58 : decode cX1_keep 58 = .ok (.lload 6, 2) := by decide +kernel
theorem dX1_keep_60 : decode cX1_keep 60 = .ok (.lxor, 1) := by decide +kernel
theorem dX1_keep_61 : decode cX1_keep 61 = .ok (.lstore 4, 2) := by decide +kernel
theorem dX1_keep_63 : decode cX1_keep 63 = .ok (.goto (-60), 3) := by decide +kernel
theorem dX1_keep_66 : decode cX1_keep 66 = .ok (.return_, 1) := by decide +kernel
theorem dX3_init_0 : decode cX3_init 0 = .ok (.aload_n 0, 1) := by decide +kernel
theorem dX3_init_1 : decode cX3_init 1 = .ok (.invokespecial 3, 3) := by decide +kernel
theorem dX3_init_4 : decode cX3_init 4 = .ok (.aload_n 0, 1) := by decide +kernel
theorem dX3_init_5 : decode cX3_init 5 = .ok (.bipush 30, 2) := by decide +kernel
theorem dX3_init_7 : decode cX3_init 7 = .ok (.anewarray 9, 3) := by decide +kernel
theorem dX3_init_10 : decode cX3_init 10 = .ok (.putfield 11, 3) := by decide +kernel
theorem dX3_init_13 : decode cX3_init 13 = .ok (.aload_n 0, 1) := by decide +kernel
theorem dX3_init_14 : decode cX3_init 14 = .ok (.bipush 12, 2) := by decide +kernel
theorem dX3_init_16 : decode cX3_init 16 = .ok (.newarray .int, 2) := by decide +kernel
theorem dX3_init_18 : decode cX3_init 18 = .ok (.putfield 17, 3) := by decide +kernel
theorem dX3_init_21 : decode cX3_init 21 = .ok (.aload_n 0, 1) := by decide +kernel
theorem dX3_init_22 : decode cX3_init 22 = .ok (.bipush 12, 2) := by decide +kernel
theorem dX3_init_24 : decode cX3_init 24 = .ok (.newarray .int, 2) := by decide +kernel
theorem dX3_init_26 : decode cX3_init 26 = .ok (.putfield 21, 3) := by decide +kernel
theorem dX3_init_29 : decode cX3_init 29 = .ok (.aload_n 0, 1) := by decide +kernel
theorem dX3_init_30 : decode cX3_init 30 = .ok (.bipush 12, 2) := by decide +kernel
theorem dX3_init_32 : decode cX3_init 32 = .ok (.newarray .int, 2) := by decide +kernel
theorem dX3_init_34 : decode cX3_init 34 = .ok (.putfield 24, 3) := by decide +kernel
theorem dX3_init_37 : decode cX3_init 37 = .ok (.aload_n 0, 1) := by decide +kernel
theorem dX3_init_38 : decode cX3_init 38 = .ok (.bipush 13, 2) := by decide +kernel
theorem dX3_init_40 : decode cX3_init 40 = .ok (.bipush 30, 2) := by decide +kernel
theorem dX3_init_42 : decode cX3_init 42 = .ok (.multianewarray 27 2, 4) := by decide +kernel
theorem dX3_init_46 : decode cX3_init 46 = .ok (.putfield 29, 3) := by decide +kernel
theorem dX3_init_49 : decode cX3_init 49 = .ok (.aload_n 0, 1) := by decide +kernel
theorem dX3_init_50 : decode cX3_init 50 = .ok (.bipush 13, 2) := by decide +kernel
theorem dX3_init_52 : decode cX3_init 52 = .ok (.bipush 30, 2) := by decide +kernel
theorem dX3_init_54 : decode cX3_init 54 = .ok (.multianewarray 27 2, 4) := by decide +kernel
theorem dX3_init_58 : decode cX3_init 58 = .ok (.putfield 32, 3) := by decide +kernel
theorem dX3_init_61 : decode cX3_init 61 = .ok (.aload_n 0, 1) := by decide +kernel
theorem dX3_init_62 : decode cX3_init 62 = .ok (.bipush 12, 2) := by decide +kernel
theorem dX3_init_64 : decode cX3_init 64 = .ok (.sipush 300, 3) := by decide +kernel
theorem dX3_init_67 : decode cX3_init 67 = .ok (.multianewarray 27 2, 4) := by decide +kernel
theorem dX3_init_71 : decode cX3_init 71 = .ok (.putfield 35, 3) := by decide +kernel
theorem dX3_init_74 : decode cX3_init 74 = .ok (.aload_n 0, 1) := by decide +kernel
theorem dX3_init_75 : decode cX3_init 75 = .ok (.bipush 12, 2) := by decide +kernel
theorem dX3_init_77 : decode cX3_init 77 = .ok (.newarray .int, 2) := by decide +kernel
theorem dX3_init_79 : decode cX3_init 79 = .ok (.putfield 38, 3) := by decide +kernel
theorem dX3_init_82 : decode cX3_init 82 = .ok (.iconst 0, 1) := by decide +kernel
theorem dX3_init_83 : decode cX3_init 83 = .ok (.istore_n 1, 1) := by decide +kernel
theorem dX3_init_84 : decode cX3_init 84 = .ok (.iload_n 1, 1) := by decide +kernel
theorem dX3_init_85 : decode cX3_init 85 = .ok (.bipush 30, 2) := by decide +kernel
theorem dX3_init_87 : decode cX3_init 87 = .ok (.if_icmp .ge 18, 3) := by decide +kernel
theorem dX3_init_90 : decode cX3_init 90 = .ok (.aload_n 0, 1) := by decide +kernel
theorem dX3_init_91 : decode cX3_init 91 = .ok (.getfield 29, 3) := by decide +kernel
theorem dX3_init_94 : decode cX3_init 94 = .ok (.iconst 0, 1) := by decide +kernel
theorem dX3_init_95 : decode cX3_init 95 = .ok (.aaload, 1) := by decide +kernel
theorem dX3_init_96 : decode cX3_init 96 = .ok (.iload_n 1, 1) := by decide +kernel
theorem dX3_init_97 : decode cX3_init 97 = .ok (.iload_n 1, 1) := by decide +kernel
theorem dX3_init_98 : decode cX3_init 98 = .ok (.iastore, 1) := by decide +kernel
theorem dX3_init_99 : decode cX3_init 99 = .ok (.iinc 1 1, 3) := by decide +kernel
theorem dX3_init_102 : decode cX3_init 102 = .ok (.goto (-18), 3) := by decide +kernel
theorem dX3_init_105 : decode cX3_init 105 = .ok (.return_, 1) := by decide +kernel
theorem dX3_take_0 : decode cX3_take 0 = .ok (.iload_n 1, 1) := by decide +kernel
theorem dX3_take_1 : decode cX3_take 1 = .ok (.ifCond .lt 43, 3) := by decide +kernel
theorem dX3_take_4 : decode cX3_take 4 = .ok (.iload_n 1, 1) := by decide +kernel
theorem dX3_take_5 : decode cX3_take 5 = .ok (.bipush 30, 2) := by decide +kernel
theorem dX3_take_7 : decode cX3_take 7 = .ok (.if_icmp .ge 37, 3) := by decide +kernel
theorem dX3_take_10 : decode cX3_take 10 = .ok (.aload_n 2, 1) := by decide +kernel
theorem dX3_take_11 : decode cX3_take 11 = .ok (.getfield 41, 3) := by decide +kernel
theorem dX3_take_14 : decode cX3_take 14 = .ok (.ifCond .le 30, 3) := by decide +kernel
theorem dX3_take_17 : decode cX3_take 17 = .ok (.aload_n 2, 1) := by decide +kernel
theorem dX3_take_18 : decode cX3_take 18 = .ok (.getfield 41, 3) := by decide +kernel
theorem dX3_take_21 : decode cX3_take 21 = .ok (.sipush 300, 3) := by decide +kernel
theorem dX3_take_24 : decode cX3_take 24 = .ok (.if_icmp .gt 20, 3) := by decide +kernel
theorem dX3_take_27 : decode cX3_take 27 = .ok (.aload_n 0, 1) := by decide +kernel
theorem dX3_take_28 : decode cX3_take 28 = .ok (.getfield 11, 3) := by decide +kernel
theorem dX3_take_31 : decode cX3_take 31 = .ok (.iload_n 1, 1) := by decide +kernel
theorem dX3_take_32 : decode cX3_take 32 = .ok (.aload_n 2, 1) := by decide +kernel
theorem dX3_take_33 : decode cX3_take 33 = .ok (.aastore, 1) := by decide +kernel
theorem dX3_take_34 : decode cX3_take 34 = .ok (.aload_n 0, 1) := by decide +kernel
theorem dX3_take_35 : decode cX3_take 35 = .ok (.dup, 1) := by decide +kernel
theorem dX3_take_36 : decode cX3_take 36 = .ok (.getfield 45, 3) := by decide +kernel
theorem dX3_take_39 : decode cX3_take 39 = .ok (.iconst 1, 1) := by decide +kernel
theorem dX3_take_40 : decode cX3_take 40 = .ok (.iadd, 1) := by decide +kernel
theorem dX3_take_41 : decode cX3_take 41 = .ok (.putfield 45, 3) := by decide +kernel
theorem dX3_take_44 : decode cX3_take 44 = .ok (.return_, 1) := by decide +kernel
theorem dX3_add_0 : decode cX3_add 0 = .ok (.aload_n 0, 1) := by decide +kernel
theorem dX3_add_1 : decode cX3_add 1 = .ok (.getfield 48, 3) := by decide +kernel
theorem dX3_add_4 : decode cX3_add 4 = .ok (.bipush 12, 2) := by decide +kernel
theorem dX3_add_6 : decode cX3_add 6 = .ok (.if_icmp .lt 5, 3) := by decide +kernel
theorem dX3_add_9 : decode cX3_add 9 = .ok (.iconst (-1), 1) := by decide +kernel
theorem dX3_add_10 : decode cX3_add 10 = .ok (.ireturn, 1) := by decide +kernel
theorem dX3_add_11 : decode cX3_add 11 = .ok (.aload_n 0, 1) := by decide +kernel
theorem dX3_add_12 : decode cX3_add 12 = .ok (.getfield 17, 3) := by decide +kernel
theorem dX3_add_15 : decode cX3_add 15 = .ok (.aload_n 0, 1) := by decide +kernel
theorem dX3_add_16 : decode cX3_add 16 = .ok (.getfield 48, 3) := by decide +kernel
theorem dX3_add_19 : decode cX3_add 19 = .ok (.iload_n 1, 1) := by decide +kernel
theorem dX3_add_20 : decode cX3_add 20 = .ok (.iastore, 1) := by decide +kernel
theorem dX3_add_21 : decode cX3_add 21 = .ok (.aload_n 0, 1) := by decide +kernel
theorem dX3_add_22 : decode cX3_add 22 = .ok (.getfield 21, 3) := by decide +kernel
theorem dX3_add_25 : decode cX3_add 25 = .ok (.aload_n 0, 1) := by decide +kernel
theorem dX3_add_26 : decode cX3_add 26 = .ok (.getfield 48, 3) := by decide +kernel
theorem dX3_add_29 : decode cX3_add 29 = .ok (.iload_n 2, 1) := by decide +kernel
theorem dX3_add_30 : decode cX3_add 30 = .ok (.iastore, 1) := by decide +kernel
theorem dX3_add_31 : decode cX3_add 31 = .ok (.aload_n 0, 1) := by decide +kernel
theorem dX3_add_32 : decode cX3_add 32 = .ok (.getfield 24, 3) := by decide +kernel
theorem dX3_add_35 : decode cX3_add 35 = .ok (.aload_n 0, 1) := by decide +kernel
theorem dX3_add_36 : decode cX3_add 36 = .ok (.getfield 48, 3) := by decide +kernel
theorem dX3_add_39 : decode cX3_add 39 = .ok (.iload_n 3, 1) := by decide +kernel
theorem dX3_add_40 : decode cX3_add 40 = .ok (.iastore, 1) := by decide +kernel
theorem dX3_add_41 : decode cX3_add 41 = .ok (.aload_n 0, 1) := by decide +kernel
theorem dX3_add_42 : decode cX3_add 42 = .ok (.dup, 1) := by decide +kernel
theorem dX3_add_43 : decode cX3_add 43 = .ok (.getfield 48, 3) := by decide +kernel
theorem dX3_add_46 : decode cX3_add 46 = .ok (.iconst 1, 1) := by decide +kernel
theorem dX3_add_47 : decode cX3_add 47 = .ok (.iadd, 1) := by decide +kernel
theorem dX3_add_48 : decode cX3_add 48 = .ok (.putfield 48, 3) := by decide +kernel
theorem dX3_add_51 : decode cX3_add 51 = .ok (.aload_n 0, 1) := by decide +kernel
theorem dX3_add_52 : decode cX3_add 52 = .ok (.getfield 48, 3) := by decide +kernel
theorem dX3_add_55 : decode cX3_add 55 = .ok (.iconst 1, 1) := by decide +kernel
theorem dX3_add_56 : decode cX3_add 56 = .ok (.isub, 1) := by decide +kernel
theorem dX3_add_57 : decode cX3_add 57 = .ok (.ireturn, 1) := by decide +kernel
set_option maxRecDepth 20000 in
theorem ggX3_solve_X3_search : GoodIn wsX3_solve wsX3_search := goodIn_r _ [9, 3, 2, 4, 10, 11, 12, 13, 14, 15, 16, 17, 18, 19, 8, 20, 21, 22, 23, 24, 25, 26, 27, 28, 29, 30, 31, 32, 33, 5, 6, 7, 34, 35, 36, 37, 38, 39, 40, 41, 42, 43, 44, 45, 46, 47, 48, 49, 50, 51, 52, 53, 54, 55, 56, 57, 58, 59, 60, 61, 62, 63, 64, 65, 66, 67, 68, 69, 70] (by decide +kernel) (by decide +kernel)
set_option maxRecDepth 20000 in
theorem gX3_solve_X3_search : GoodIn wsX3_solve (wsV RX3 57 RX3 yX3_search wsX3_search) := goodIn_app (goodIn_of _ (by decide +kernel)) ggX3_solve_X3_search
set_option maxRecDepth 20000 in
theorem ggX3_solve_X3_isAsked : GoodIn wsX3_solve wsX3_isAsked := goodIn_r _ [20, 21, 22, 23, 54, 55, 56, 57, 58, 59, 60, 61, 62, 63, 64, 65, 66] (by decide +kernel) (by decide +kernel)
set_option maxRecDepth 20000 in
theorem gX3_solve_X3_isAsked : GoodIn wsX3_solve (wsV RX3 61 RX3 yX3_isAsked wsX3_isAsked) := goodIn_app (goodIn_of _ (by decide +kernel)) ggX3_solve_X3_isAsked
set_option maxRecDepth 20000 in
theorem ggX3_solve_X3_join : GoodIn wsX3_solve wsX3_join := goodIn_r _ [37, 28, 22, 23, 38, 33, 24, 25, 26, 8, 27, 29, 30, 31, 32, 39, 40, 41, 42, 43, 44, 45, 46, 47, 48, 21, 49, 50, 51, 52, 53, 54, 55, 56, 57, 58, 59, 60, 61, 62, 63, 64, 65, 66, 67, 68, 69, 70] (by decide +kernel) (by decide +kernel)
set_option maxRecDepth 20000 in
theorem gX3_solve_X3_join : GoodIn wsX3_solve (wsV RX3 68 RX3 yX3_join wsX3_join) := goodIn_app (goodIn_of _ (by decide +kernel)) ggX3_solve_X3_join
set_option maxRecDepth 20000 in
theorem ggX3_solve_X3_pass : GoodIn wsX3_solve wsX3_pass := goodIn_r _ [27, 28, 29, 30, 31, 32, 33, 54, 55, 56, 57, 58, 59, 60, 61, 62, 63, 64, 65, 66] (by decide +kernel) (by decide +kernel)
set_option maxRecDepth 20000 in
theorem gX3_solve_X3_pass : GoodIn wsX3_solve (wsV RX3 72 RX3 yX3_pass wsX3_pass) := goodIn_app (goodIn_of _ (by decide +kernel)) ggX3_solve_X3_pass
theorem dX3_solve_0 : decode cX3_solve 0 = .ok (.aload_n 0, 1) := by decide +kernel
theorem dX3_solve_1 : decode cX3_solve 1 = .ok (.getfield 51, 3) := by decide +kernel
theorem dX3_solve_4 : decode cX3_solve 4 = .ok (.aload_n 0, 1) := by decide +kernel
theorem dX3_solve_5 : decode cX3_solve 5 = .ok (.getfield 48, 3) := by decide +kernel
theorem dX3_solve_8 : decode cX3_solve 8 = .ok (.if_icmp .ne 4, 3) := by decide +kernel
theorem dX3_solve_11 : decode cX3_solve 11 = .ok (.return_, 1) := by decide +kernel
theorem dX3_solve_12 : decode cX3_solve 12 = .ok (.aload_n 0, 1) := by decide +kernel
theorem dX3_solve_13 : decode cX3_solve 13 = .ok (.aload_n 0, 1) := by decide +kernel
theorem dX3_solve_14 : decode cX3_solve 14 = .ok (.getfield 48, 3) := by decide +kernel
theorem dX3_solve_17 : decode cX3_solve 17 = .ok (.iconst 1, 1) := by decide +kernel
theorem dX3_solve_18 : decode cX3_solve 18 = .ok (.iadd, 1) := by decide +kernel
theorem dX3_solve_19 : decode cX3_solve 19 = .ok (.putfield 54, 3) := by decide +kernel
theorem dX3_solve_22 : decode cX3_solve 22 = .ok (.aload_n 0, 1) := by decide +kernel
theorem dX3_solve_23 : decode cX3_solve 23 = .ok (.iconst 0, 1) := by decide +kernel
theorem dX3_solve_24 : decode cX3_solve 24 = .ok (.iconst 0, 1) := by decide +kernel
theorem dX3_solve_25 : decode cX3_solve 25 = .ok (.invokevirtual 57, 3) := by decide +kernel
theorem dX3_solve_28 : decode cX3_solve 28 = .ok (.iconst 0, 1) := by decide +kernel
theorem dX3_solve_29 : decode cX3_solve 29 = .ok (.istore_n 1, 1) := by decide +kernel
theorem dX3_solve_30 : decode cX3_solve 30 = .ok (.iload_n 1, 1) := by decide +kernel
theorem dX3_solve_31 : decode cX3_solve 31 = .ok (.aload_n 0, 1) := by decide +kernel
theorem dX3_solve_32 : decode cX3_solve 32 = .ok (.getfield 48, 3) := by decide +kernel
theorem dX3_solve_35 : decode cX3_solve 35 = .ok (.if_icmp .ge 41, 3) := by decide +kernel
theorem dX3_solve_38 : decode cX3_solve 38 = .ok (.aload_n 0, 1) := by decide +kernel
theorem dX3_solve_39 : decode cX3_solve 39 = .ok (.iload_n 1, 1) := by decide +kernel
theorem dX3_solve_40 : decode cX3_solve 40 = .ok (.invokevirtual 61, 3) := by decide +kernel
theorem dX3_solve_43 : decode cX3_solve 43 = .ok (.ifCond .eq 22, 3) := by decide +kernel
theorem dX3_solve_46 : decode cX3_solve 46 = .ok (.aload_n 0, 1) := by decide +kernel
theorem dX3_solve_47 : decode cX3_solve 47 = .ok (.getfield 65, 3) := by decide +kernel
theorem dX3_solve_50 : decode cX3_solve 50 = .ok (.iload_n 1, 1) := by decide +kernel
theorem dX3_solve_51 : decode cX3_solve 51 = .ok (.ishr, 1) := by decide +kernel
theorem dX3_solve_52 : decode cX3_solve 52 = .ok (.iconst 1, 1) := by decide +kernel
theorem dX3_solve_53 : decode cX3_solve 53 = .ok (.iand, 1) := by decide +kernel
theorem dX3_solve_54 : decode cX3_solve 54 = .ok (.ifCond .ne 11, 3) := by decide +kernel
theorem dX3_solve_57 : decode cX3_solve 57 = .ok (.aload_n 0, 1) := by decide +kernel
theorem dX3_solve_58 : decode cX3_solve 58 = .ok (.iload_n 1, 1) := by decide +kernel
theorem dX3_solve_59 : decode cX3_solve 59 = .ok (.invokevirtual 68, 3) := by decide +kernel
theorem dX3_solve_62 : decode cX3_solve 62 = .ok (.ifCond .ne 8, 3) := by decide +kernel
theorem dX3_solve_65 : decode cX3_solve 65 = .ok (.aload_n 0, 1) := by decide +kernel
theorem dX3_solve_66 : decode cX3_solve 66 = .ok (.iload_n 1, 1) := by decide +kernel
theorem dX3_solve_67 : decode cX3_solve 67 = .ok (.invokevirtual 72, 3) := by decide +kernel
theorem dX3_solve_70 : decode cX3_solve 70 = .ok (.iinc 1 1, 3) := by decide +kernel
theorem dX3_solve_73 : decode cX3_solve 73 = .ok (.goto (-43), 3) := by decide +kernel
theorem dX3_solve_76 : decode cX3_solve 76 = .ok (.aload_n 0, 1) := by decide +kernel
theorem dX3_solve_77 : decode cX3_solve 77 = .ok (.aload_n 0, 1) := by decide +kernel
theorem dX3_solve_78 : decode cX3_solve 78 = .ok (.getfield 48, 3) := by decide +kernel
theorem dX3_solve_81 : decode cX3_solve 81 = .ok (.putfield 51, 3) := by decide +kernel
theorem dX3_solve_84 : decode cX3_solve 84 = .ok (.return_, 1) := by decide +kernel
set_option maxRecDepth 20000 in
theorem ggX3_search_J6_bitCount_0f7a4 : GoodIn wsX3_search wsJ6_bitCount_0f7a4 := goodIn_r _ [7, 8, 9, 10] (by decide +kernel) (by decide +kernel)
set_option maxRecDepth 20000 in
theorem gX3_search_J6_bitCount_0f7a4 : GoodIn wsX3_search (va_wsS RX3 76 yJ6_bitCount_0f7a4 wsJ6_bitCount_0f7a4) := goodIn_app (goodIn_of _ (by decide +kernel)) ggX3_search_J6_bitCount_0f7a4
set_option maxRecDepth 20000 in
theorem ggX3_search_X3_isAsked : GoodIn wsX3_search wsX3_isAsked := goodIn_r _ [15, 16, 17, 18, 52, 53, 54, 55, 56, 57, 58, 59, 60, 61, 62, 63, 64] (by decide +kernel) (by decide +kernel)
set_option maxRecDepth 20000 in
theorem gX3_search_X3_isAsked : GoodIn wsX3_search (wsV RX3 61 RX3 yX3_isAsked wsX3_isAsked) := goodIn_app (goodIn_of _ (by decide +kernel)) ggX3_search_X3_isAsked
set_option maxRecDepth 20000 in
theorem ggX3_search_X3_pass : GoodIn wsX3_search wsX3_pass := goodIn_r _ [22, 23, 24, 25, 26, 27, 28, 52, 53, 54, 55, 56, 57, 58, 59, 60, 61, 62, 63, 64] (by decide +kernel) (by decide +kernel)
set_option maxRecDepth 20000 in
theorem gX3_search_X3_pass : GoodIn wsX3_search (wsV RX3 72 RX3 yX3_pass wsX3_pass) := goodIn_app (goodIn_of _ (by decide +kernel)) ggX3_search_X3_pass
set_option maxRecDepth 20000 in
theorem ggX3_search_X3_search : GoodIn wsX3_search wsX3_search := goodIn_r _ [0, 1, 2, 3, 4, 5, 6, 7, 8, 9, 10, 11, 12, 13, 14, 15, 16, 17, 18, 19, 20, 21, 22, 23, 24, 25, 26, 27, 28, 29, 30, 31, 32, 33, 34, 35, 36, 37, 38, 39, 40, 41, 42, 43, 44, 45, 46, 47, 48, 49, 50, 51, 52, 53, 54, 55, 56, 57, 58, 59, 60, 61, 62, 63, 64, 65, 66, 67, 68] (by decide +kernel) (by decide +kernel)
set_option maxRecDepth 20000 in
theorem gX3_search_X3_search : GoodIn wsX3_search (wsV RX3 57 RX3 yX3_search wsX3_search) := goodIn_app (goodIn_of _ (by decide +kernel)) ggX3_search_X3_search
set_option maxRecDepth 20000 in
theorem ggX3_search_X3_join : GoodIn wsX3_search wsX3_join := goodIn_r _ [35, 23, 17, 18, 36, 28, 19, 20, 21, 14, 22, 24, 25, 26, 27, 37, 38, 39, 40, 41, 42, 43, 44, 45, 46, 16, 47, 48, 49, 50, 51, 52, 53, 54, 55, 56, 57, 58, 59, 60, 61, 62, 63, 64, 65, 66, 67, 68] (by decide +kernel) (by decide +kernel)
set_option maxRecDepth 20000 in
theorem gX3_search_X3_join : GoodIn wsX3_search (wsV RX3 68 RX3 yX3_join wsX3_join) := goodIn_app (goodIn_of _ (by decide +kernel)) ggX3_search_X3_join
theorem dX3_search_0 : decode cX3_search 0 = .ok (.iload_n 2, 1) := by decide +kernel
theorem dX3_search_1 : decode cX3_search 1 = .ok (.invokestatic 76, 3) := by decide +kernel
theorem dX3_search_4 : decode cX3_search 4 = .ok (.istore_n 3, 1) := by decide +kernel
theorem dX3_search_5 : decode cX3_search 5 = .ok (.iload_n 3, 1) := by decide +kernel
theorem dX3_search_6 : decode cX3_search 6 = .ok (.aload_n 0, 1) := by decide +kernel
theorem dX3_search_7 : decode cX3_search 7 = .ok (.getfield 54, 3) := by decide +kernel
theorem dX3_search_10 : decode cX3_search 10 = .ok (.if_icmp .lt 4, 3) := by decide +kernel
theorem dX3_search_13 : decode cX3_search 13 = .ok (.return_, 1) := by decide +kernel
theorem dX3_search_14 : decode cX3_search 14 = .ok (.iload_n 1, 1) := by decide +kernel
theorem dX3_search_15 : decode cX3_search 15 = .ok (.aload_n 0, 1) := by decide +kernel
theorem dX3_search_16 : decode cX3_search 16 = .ok (.getfield 48, 3) := by decide +kernel
theorem dX3_search_19 : decode cX3_search 19 = .ok (.if_icmp .ge 9, 3) := by decide +kernel
theorem dX3_search_22 : decode cX3_search 22 = .ok (.iload_n 1, 1) := by decide +kernel
theorem dX3_search_23 : decode cX3_search 23 = .ok (.bipush 12, 2) := by decide +kernel
theorem dX3_search_25 : decode cX3_search 25 = .ok (.if_icmp .lt 14, 3) := by decide +kernel
theorem dX3_search_28 : decode cX3_search 28 = .ok (.aload_n 0, 1) := by decide +kernel
theorem dX3_search_29 : decode cX3_search 29 = .ok (.iload_n 3, 1) := by decide +kernel
theorem dX3_search_30 : decode cX3_search 30 = .ok (.putfield 54, 3) := by decide +kernel
theorem dX3_search_33 : decode cX3_search 33 = .ok (.aload_n 0, 1) := by decide +kernel
theorem dX3_search_34 : decode cX3_search 34 = .ok (.iload_n 2, 1) := by decide +kernel
theorem dX3_search_35 : decode cX3_search 35 = .ok (.putfield 65, 3) := by decide +kernel
theorem dX3_search_38 : decode cX3_search 38 = .ok (.return_, 1) := by decide +kernel
theorem dX3_search_39 : decode cX3_search 39 = .ok (.aload_n 0, 1) := by decide +kernel
theorem dX3_search_40 : decode cX3_search 40 = .ok (.iload_n 1, 1) := by decide +kernel
theorem dX3_search_41 : decode cX3_search 41 = .ok (.invokevirtual 61, 3) := by decide +kernel
theorem dX3_search_44 : decode cX3_search 44 = .ok (.ifCond .ne 17, 3) := by decide +kernel
theorem dX3_search_47 : decode cX3_search 47 = .ok (.aload_n 0, 1) := by decide +kernel
theorem dX3_search_48 : decode cX3_search 48 = .ok (.iload_n 1, 1) := by decide +kernel
theorem dX3_search_49 : decode cX3_search 49 = .ok (.invokevirtual 72, 3) := by decide +kernel
theorem dX3_search_52 : decode cX3_search 52 = .ok (.aload_n 0, 1) := by decide +kernel
theorem dX3_search_53 : decode cX3_search 53 = .ok (.iload_n 1, 1) := by decide +kernel
theorem dX3_search_54 : decode cX3_search 54 = .ok (.iconst 1, 1) := by decide +kernel
theorem dX3_search_55 : decode cX3_search 55 = .ok (.iadd, 1) := by decide +kernel
theorem dX3_search_56 : decode cX3_search 56 = .ok (.iload_n 2, 1) := by decide +kernel
theorem dX3_search_57 : decode cX3_search 57 = .ok (.invokevirtual 57, 3) := by decide +kernel
theorem dX3_search_60 : decode cX3_search 60 = .ok (.return_, 1) := by decide +kernel
theorem dX3_search_61 : decode cX3_search 61 = .ok (.aload_n 0, 1) := by decide +kernel
theorem dX3_search_62 : decode cX3_search 62 = .ok (.iload_n 1, 1) := by decide +kernel
theorem dX3_search_63 : decode cX3_search 63 = .ok (.invokevirtual 68, 3) := by decide +kernel
theorem dX3_search_66 : decode cX3_search 66 = .ok (.istore 4, 2) := by decide +kernel
theorem dX3_search_68 : decode cX3_search 68 = .ok (.iload 4, 2) := by decide +kernel
theorem dX3_search_70 : decode cX3_search 70 = .ok (.ifCond .eq 11, 3) := by decide +kernel
theorem dX3_search_73 : decode cX3_search 73 = .ok (.aload_n 0, 1) := by decide +kernel
theorem dX3_search_74 : decode cX3_search 74 = .ok (.iload_n 1, 1) := by decide +kernel
theorem dX3_search_75 : decode cX3_search 75 = .ok (.iconst 1, 1) := by decide +kernel
theorem dX3_search_76 : decode cX3_search 76 = .ok (.iadd, 1) := by decide +kernel
theorem dX3_search_77 : decode cX3_search 77 = .ok (.iload_n 2, 1) := by decide +kernel
theorem dX3_search_78 : decode cX3_search 78 = .ok (.invokevirtual 57, 3) := by decide +kernel
theorem dX3_search_81 : decode cX3_search 81 = .ok (.iload 4, 2) := by decide +kernel
theorem dX3_search_83 : decode cX3_search 83 = .ok (.iconst 2, 1) := by decide +kernel
theorem dX3_search_84 : decode cX3_search 84 = .ok (.if_icmp .eq 20, 3) := by decide +kernel
theorem dX3_search_87 : decode cX3_search 87 = .ok (.aload_n 0, 1) := by decide +kernel
theorem dX3_search_88 : decode cX3_search 88 = .ok (.iload_n 1, 1) := by decide +kernel
theorem dX3_search_89 : decode cX3_search 89 = .ok (.invokevirtual 72, 3) := by decide +kernel
theorem dX3_search_92 : decode cX3_search 92 = .ok (.aload_n 0, 1) := by decide +kernel
theorem dX3_search_93 : decode cX3_search 93 = .ok (.iload_n 1, 1) := by decide +kernel
theorem dX3_search_94 : decode cX3_search 94 = .ok (.iconst 1, 1) := by decide +kernel
theorem dX3_search_95 : decode cX3_search 95 = .ok (.iadd, 1) := by decide +kernel
theorem dX3_search_96 : decode cX3_search 96 = .ok (.iload_n 2, 1) := by decide +kernel
theorem dX3_search_97 : decode cX3_search 97 = .ok (.iconst 1, 1) := by decide +kernel
theorem dX3_search_98 : decode cX3_search 98 = .ok (.iload_n 1, 1) := by decide +kernel
theorem dX3_search_99 : decode cX3_search 99 = .ok (.ishl, 1) := by decide +kernel
theorem dX3_search_100 : decode cX3_search 100 = .ok (.ior, 1) := by decide +kernel
theorem dX3_search_101 : decode cX3_search 101 = .ok (.invokevirtual 57, 3) := by decide +kernel
theorem dX3_search_104 : decode cX3_search 104 = .ok (.return_, 1) := by decide +kernel
theorem dX3_isAsked_0 : decode cX3_isAsked 0 = .ok (.aload_n 0, 1) := by decide +kernel
theorem dX3_isAsked_1 : decode cX3_isAsked 1 = .ok (.getfield 11, 3) := by decide +kernel
theorem dX3_isAsked_4 : decode cX3_isAsked 4 = .ok (.aload_n 0, 1) := by decide +kernel
theorem dX3_isAsked_5 : decode cX3_isAsked 5 = .ok (.getfield 17, 3) := by decide +kernel
theorem dX3_isAsked_8 : decode cX3_isAsked 8 = .ok (.iload_n 1, 1) := by decide +kernel
theorem dX3_isAsked_9 : decode cX3_isAsked 9 = .ok (.iaload, 1) := by decide +kernel
theorem dX3_isAsked_10 : decode cX3_isAsked 10 = .ok (.aaload, 1) := by decide +kernel
theorem dX3_isAsked_11 : decode cX3_isAsked 11 = .ok (.ifnull 21, 3) := by decide +kernel
theorem dX3_isAsked_14 : decode cX3_isAsked 14 = .ok (.aload_n 0, 1) := by decide +kernel
theorem dX3_isAsked_15 : decode cX3_isAsked 15 = .ok (.getfield 11, 3) := by decide +kernel
theorem dX3_isAsked_18 : decode cX3_isAsked 18 = .ok (.aload_n 0, 1) := by decide +kernel
theorem dX3_isAsked_19 : decode cX3_isAsked 19 = .ok (.getfield 21, 3) := by decide +kernel
theorem dX3_isAsked_22 : decode cX3_isAsked 22 = .ok (.iload_n 1, 1) := by decide +kernel
theorem dX3_isAsked_23 : decode cX3_isAsked 23 = .ok (.iaload, 1) := by decide +kernel
theorem dX3_isAsked_24 : decode cX3_isAsked 24 = .ok (.aaload, 1) := by decide +kernel
theorem dX3_isAsked_25 : decode cX3_isAsked 25 = .ok (.ifnull 7, 3) := by decide +kernel
theorem dX3_isAsked_28 : decode cX3_isAsked 28 = .ok (.iconst 1, 1) := by decide +kernel
theorem dX3_isAsked_29 : decode cX3_isAsked 29 = .ok (.goto 4, 3) := by decide +kernel
theorem dX3_isAsked_32 : decode cX3_isAsked 32 = .ok (.iconst 0, 1) := by decide +kernel
theorem dX3_isAsked_33 : decode cX3_isAsked 33 = .ok (.ireturn, 1) := by decide +kernel
theorem dX3_pass_0 : decode cX3_pass 0 = .ok (.aload_n 0, 1) := by decide +kernel
theorem dX3_pass_1 : decode cX3_pass 1 = .ok (.getfield 29, 3) := by decide +kernel
theorem dX3_pass_4 : decode cX3_pass 4 = .ok (.iload_n 1, 1) := by decide +kernel
theorem dX3_pass_5 : decode cX3_pass 5 = .ok (.aaload, 1) := by decide +kernel
theorem dX3_pass_6 : decode cX3_pass 6 = .ok (.iconst 0, 1) := by decide +kernel
theorem dX3_pass_7 : decode cX3_pass 7 = .ok (.aload_n 0, 1) := by decide +kernel
theorem dX3_pass_8 : decode cX3_pass 8 = .ok (.getfield 29, 3) := by decide +kernel
theorem dX3_pass_11 : decode cX3_pass 11 = .ok (.iload_n 1, 1) := by decide +kernel
theorem dX3_pass_12 : decode cX3_pass 12 = .ok (.iconst 1, 1) := by decide +kernel
theorem dX3_pass_13 : decode cX3_pass 13 = .ok (.iadd, 1) := by decide +kernel
theorem dX3_pass_14 : decode cX3_pass 14 = .ok (.aaload, 1) := by decide +kernel
theorem dX3_pass_15 : decode cX3_pass 15 = .ok (.iconst 0, 1) := by decide +kernel
theorem dX3_pass_16 : decode cX3_pass 16 = .ok (.bipush 30, 2) := by decide +kernel
theorem dX3_pass_18 : decode cX3_pass 18 = .ok (.invokestatic 81, 3) := by decide +kernel
theorem dX3_pass_21 : decode cX3_pass 21 = .ok (.aload_n 0, 1) := by decide +kernel
theorem dX3_pass_22 : decode cX3_pass 22 = .ok (.getfield 32, 3) := by decide +kernel
theorem dX3_pass_25 : decode cX3_pass 25 = .ok (.iload_n 1, 1) := by decide +kernel
theorem dX3_pass_26 : decode cX3_pass 26 = .ok (.aaload, 1) := by decide +kernel
theorem dX3_pass_27 : decode cX3_pass 27 = .ok (.iconst 0, 1) := by decide +kernel
theorem dX3_pass_28 : decode cX3_pass 28 = .ok (.aload_n 0, 1) := by decide +kernel
theorem dX3_pass_29 : decode cX3_pass 29 = .ok (.getfield 32, 3) := by decide +kernel
theorem dX3_pass_32 : decode cX3_pass 32 = .ok (.iload_n 1, 1) := by decide +kernel
theorem dX3_pass_33 : decode cX3_pass 33 = .ok (.iconst 1, 1) := by decide +kernel
theorem dX3_pass_34 : decode cX3_pass 34 = .ok (.iadd, 1) := by decide +kernel
theorem dX3_pass_35 : decode cX3_pass 35 = .ok (.aaload, 1) := by decide +kernel
theorem dX3_pass_36 : decode cX3_pass 36 = .ok (.iconst 0, 1) := by decide +kernel
theorem dX3_pass_37 : decode cX3_pass 37 = .ok (.bipush 30, 2) := by decide +kernel
theorem dX3_pass_39 : decode cX3_pass 39 = .ok (.invokestatic 81, 3) := by decide +kernel
theorem dX3_pass_42 : decode cX3_pass 42 = .ok (.return_, 1) := by decide +kernel
set_option maxRecDepth 20000 in
theorem ggX3_join_X3_pass : GoodIn wsX3_join wsX3_pass := goodIn_r _ [10, 1, 11, 12, 13, 14, 5, 31, 32, 33, 34, 35, 36, 37, 38, 39, 40, 41, 42, 43] (by decide +kernel) (by decide +kernel)
set_option maxRecDepth 20000 in
theorem gX3_join_X3_pass : GoodIn wsX3_join (wsV RX3 72 RX3 yX3_pass wsX3_pass) := goodIn_app (goodIn_of _ (by decide +kernel)) ggX3_join_X3_pass
set_option maxRecDepth 20000 in
theorem ggX3_join_X3_meet : GoodIn wsX3_join wsX3_meet := goodIn_r _ [18, 19, 20, 21, 22, 23, 9, 24, 25, 26, 27, 28, 29, 30, 31, 32, 33, 34, 35, 36, 37, 38, 39, 40, 41, 42, 43, 44, 45, 46, 47] (by decide +kernel) (by decide +kernel)
set_option maxRecDepth 20000 in
theorem gX3_join_X3_meet : GoodIn wsX3_join (wsV RX3 87 RX3 yX3_meet wsX3_meet) := goodIn_app (goodIn_of _ (by decide +kernel)) ggX3_join_X3_meet
theorem dX3_join_0 : decode cX3_join 0 = .ok (.aload_n 0, 1) := by decide +kernel
theorem dX3_join_1 : decode cX3_join 1 = .ok (.getfield 29, 3) := by decide +kernel
theorem dX3_join_4 : decode cX3_join 4 = .ok (.iload_n 1, 1) := by decide +kernel
theorem dX3_join_5 : decode cX3_join 5 = .ok (.aaload, 1) := by decide +kernel
theorem dX3_join_6 : decode cX3_join 6 = .ok (.aload_n 0, 1) := by decide +kernel
theorem dX3_join_7 : decode cX3_join 7 = .ok (.getfield 17, 3) := by decide +kernel
theorem dX3_join_10 : decode cX3_join 10 = .ok (.iload_n 1, 1) := by decide +kernel
theorem dX3_join_11 : decode cX3_join 11 = .ok (.iaload, 1) := by decide +kernel
theorem dX3_join_12 : decode cX3_join 12 = .ok (.iaload, 1) := by decide +kernel
theorem dX3_join_13 : decode cX3_join 13 = .ok (.istore_n 2, 1) := by decide +kernel
theorem dX3_join_14 : decode cX3_join 14 = .ok (.aload_n 0, 1) := by decide +kernel
theorem dX3_join_15 : decode cX3_join 15 = .ok (.getfield 29, 3) := by decide +kernel
theorem dX3_join_18 : decode cX3_join 18 = .ok (.iload_n 1, 1) := by decide +kernel
theorem dX3_join_19 : decode cX3_join 19 = .ok (.aaload, 1) := by decide +kernel
theorem dX3_join_20 : decode cX3_join 20 = .ok (.aload_n 0, 1) := by decide +kernel
theorem dX3_join_21 : decode cX3_join 21 = .ok (.getfield 21, 3) := by decide +kernel
theorem dX3_join_24 : decode cX3_join 24 = .ok (.iload_n 1, 1) := by decide +kernel
theorem dX3_join_25 : decode cX3_join 25 = .ok (.iaload, 1) := by decide +kernel
theorem dX3_join_26 : decode cX3_join 26 = .ok (.iaload, 1) := by decide +kernel
theorem dX3_join_27 : decode cX3_join 27 = .ok (.istore_n 3, 1) := by decide +kernel
theorem dX3_join_28 : decode cX3_join 28 = .ok (.aload_n 0, 1) := by decide +kernel
theorem dX3_join_29 : decode cX3_join 29 = .ok (.getfield 24, 3) := by decide +kernel
theorem dX3_join_32 : decode cX3_join 32 = .ok (.iload_n 1, 1) := by decide +kernel
theorem dX3_join_33 : decode cX3_join 33 = .ok (.iaload, 1) := by decide +kernel
theorem dX3_join_34 : decode cX3_join 34 = .ok (.aload_n 0, 1) := by decide +kernel
theorem dX3_join_35 : decode cX3_join 35 = .ok (.getfield 32, 3) := by decide +kernel
theorem dX3_join_38 : decode cX3_join 38 = .ok (.iload_n 1, 1) := by decide +kernel
theorem dX3_join_39 : decode cX3_join 39 = .ok (.aaload, 1) := by decide +kernel
theorem dX3_join_40 : decode cX3_join 40 = .ok (.aload_n 0, 1) := by decide +kernel
theorem dX3_join_41 : decode cX3_join 41 = .ok (.getfield 17, 3) := by decide +kernel
theorem dX3_join_44 : decode cX3_join 44 = .ok (.iload_n 1, 1) := by decide +kernel
theorem dX3_join_45 : decode cX3_join 45 = .ok (.iaload, 1) := by decide +kernel
theorem dX3_join_46 : decode cX3_join 46 = .ok (.iaload, 1) := by decide +kernel
theorem dX3_join_47 : decode cX3_join 47 = .ok (.iadd, 1) := by decide +kernel
theorem dX3_join_48 : decode cX3_join 48 = .ok (.aload_n 0, 1) := by decide +kernel
theorem dX3_join_49 : decode cX3_join 49 = .ok (.getfield 32, 3) := by decide +kernel
theorem dX3_join_52 : decode cX3_join 52 = .ok (.iload_n 1, 1) := by decide +kernel
theorem dX3_join_53 : decode cX3_join 53 = .ok (.aaload, 1) := by decide +kernel
theorem dX3_join_54 : decode cX3_join 54 = .ok (.aload_n 0, 1) := by decide +kernel
theorem dX3_join_55 : decode cX3_join 55 = .ok (.getfield 21, 3) := by decide +kernel
theorem dX3_join_58 : decode cX3_join 58 = .ok (.iload_n 1, 1) := by decide +kernel
theorem dX3_join_59 : decode cX3_join 59 = .ok (.iaload, 1) := by decide +kernel
theorem dX3_join_60 : decode cX3_join 60 = .ok (.iaload, 1) := by decide +kernel
theorem dX3_join_61 : decode cX3_join 61 = .ok (.isub, 1) := by decide +kernel
theorem dX3_join_62 : decode cX3_join 62 = .ok (.istore 4, 2) := by decide +kernel
theorem dX3_join_64 : decode cX3_join 64 = .ok (.iload_n 2, 1) := by decide +kernel
theorem dX3_join_65 : decode cX3_join 65 = .ok (.iload_n 3, 1) := by decide +kernel
theorem dX3_join_66 : decode cX3_join 66 = .ok (.if_icmp .ne 17, 3) := by decide +kernel
theorem dX3_join_69 : decode cX3_join 69 = .ok (.iload 4, 2) := by decide +kernel
theorem dX3_join_71 : decode cX3_join 71 = .ok (.ifCond .eq 5, 3) := by decide +kernel
theorem dX3_join_74 : decode cX3_join 74 = .ok (.iconst 0, 1) := by decide +kernel
theorem dX3_join_75 : decode cX3_join 75 = .ok (.ireturn, 1) := by decide +kernel
theorem dX3_join_76 : decode cX3_join 76 = .ok (.aload_n 0, 1) := by decide +kernel
theorem dX3_join_77 : decode cX3_join 77 = .ok (.iload_n 1, 1) := by decide +kernel
theorem dX3_join_78 : decode cX3_join 78 = .ok (.invokevirtual 72, 3) := by decide +kernel
theorem dX3_join_81 : decode cX3_join 81 = .ok (.iconst 2, 1) := by decide +kernel
theorem dX3_join_82 : decode cX3_join 82 = .ok (.ireturn, 1) := by decide +kernel
theorem dX3_join_83 : decode cX3_join 83 = .ok (.aload_n 0, 1) := by decide +kernel
theorem dX3_join_84 : decode cX3_join 84 = .ok (.iload_n 1, 1) := by decide +kernel
theorem dX3_join_85 : decode cX3_join 85 = .ok (.iload_n 2, 1) := by decide +kernel
theorem dX3_join_86 : decode cX3_join 86 = .ok (.iload_n 3, 1) := by decide +kernel
theorem dX3_join_87 : decode cX3_join 87 = .ok (.iload 4, 2) := by decide +kernel
theorem dX3_join_89 : decode cX3_join 89 = .ok (.invokevirtual 87, 3) := by decide +kernel
theorem dX3_join_92 : decode cX3_join 92 = .ok (.ifCond .ne 5, 3) := by decide +kernel
theorem dX3_join_95 : decode cX3_join 95 = .ok (.iconst 0, 1) := by decide +kernel
theorem dX3_join_96 : decode cX3_join 96 = .ok (.ireturn, 1) := by decide +kernel
theorem dX3_join_97 : decode cX3_join 97 = .ok (.aload_n 0, 1) := by decide +kernel
theorem dX3_join_98 : decode cX3_join 98 = .ok (.iload_n 1, 1) := by decide +kernel
theorem dX3_join_99 : decode cX3_join 99 = .ok (.invokevirtual 72, 3) := by decide +kernel
theorem dX3_join_102 : decode cX3_join 102 = .ok (.iconst 0, 1) := by decide +kernel
theorem dX3_join_103 : decode cX3_join 103 = .ok (.istore 5, 2) := by decide +kernel
theorem dX3_join_105 : decode cX3_join 105 = .ok (.iload 5, 2) := by decide +kernel
theorem dX3_join_107 : decode cX3_join 107 = .ok (.bipush 30, 2) := by decide +kernel
theorem dX3_join_109 : decode cX3_join 109 = .ok (.if_icmp .ge 79, 3) := by decide +kernel
theorem dX3_join_112 : decode cX3_join 112 = .ok (.aload_n 0, 1) := by decide +kernel
theorem dX3_join_113 : decode cX3_join 113 = .ok (.getfield 29, 3) := by decide +kernel
theorem dX3_join_116 : decode cX3_join 116 = .ok (.iload_n 1, 1) := by decide +kernel
theorem dX3_join_117 : decode cX3_join 117 = .ok (.aaload, 1) := by decide +kernel
theorem dX3_join_118 : decode cX3_join 118 = .ok (.iload 5, 2) := by decide +kernel
theorem dX3_join_120 : decode cX3_join 120 = .ok (.iaload, 1) := by decide +kernel
theorem dX3_join_121 : decode cX3_join 121 = .ok (.iload_n 3, 1) := by decide +kernel
theorem dX3_join_122 : decode cX3_join 122 = .ok (.if_icmp .ne 19, 3) := by decide +kernel
theorem dX3_join_125 : decode cX3_join 125 = .ok (.aload_n 0, 1) := by decide +kernel
theorem dX3_join_126 : decode cX3_join 126 = .ok (.getfield 32, 3) := by decide +kernel
theorem dX3_join_129 : decode cX3_join 129 = .ok (.iload_n 1, 1) := by decide +kernel
theorem dX3_join_130 : decode cX3_join 130 = .ok (.iconst 1, 1) := by decide +kernel
theorem dX3_join_131 : decode cX3_join 131 = .ok (.iadd, 1) := by decide +kernel
theorem dX3_join_132 : decode cX3_join 132 = .ok (.aaload, 1) := by decide +kernel
theorem dX3_join_133 : decode cX3_join 133 = .ok (.iload 5, 2) := by decide +kernel
theorem dX3_join_135 : decode cX3_join 135 = .ok (.dup2, 1) := by decide +kernel
theorem dX3_join_136 : decode cX3_join 136 = .ok (.iaload, 1) := by decide +kernel
theorem dX3_join_137 : decode cX3_join 137 = .ok (.iload 4, 2) := by decide +kernel
theorem dX3_join_139 : decode cX3_join 139 = .ok (.iadd, 1) := by decide +kernel
theorem dX3_join_140 : decode cX3_join 140 = .ok (.iastore, 1) := by decide +kernel
theorem dX3_join_141 : decode cX3_join 141 = .ok (.aload_n 0, 1) := by decide +kernel
theorem dX3_join_142 : decode cX3_join 142 = .ok (.getfield 29, 3) := by decide +kernel
theorem dX3_join_145 : decode cX3_join 145 = .ok (.iload_n 1, 1) := by decide +kernel
theorem dX3_join_146 : decode cX3_join 146 = .ok (.aaload, 1) := by decide +kernel
theorem dX3_join_147 : decode cX3_join 147 = .ok (.iload 5, 2) := by decide +kernel
theorem dX3_join_149 : decode cX3_join 149 = .ok (.iaload, 1) := by decide +kernel
theorem dX3_join_150 : decode cX3_join 150 = .ok (.iload_n 2, 1) := by decide +kernel
theorem dX3_join_151 : decode cX3_join 151 = .ok (.if_icmp .eq 16, 3) := by decide +kernel
theorem dX3_join_154 : decode cX3_join 154 = .ok (.aload_n 0, 1) := by decide +kernel
theorem dX3_join_155 : decode cX3_join 155 = .ok (.getfield 29, 3) := by decide +kernel
theorem dX3_join_158 : decode cX3_join 158 = .ok (.iload_n 1, 1) := by decide +kernel
theorem dX3_join_159 : decode cX3_join 159 = .ok (.aaload, 1) := by decide +kernel
theorem dX3_join_160 : decode cX3_join 160 = .ok (.iload 5, 2) := by decide +kernel
theorem dX3_join_162 : decode cX3_join 162 = .ok (.iaload, 1) := by decide +kernel
theorem dX3_join_163 : decode cX3_join 163 = .ok (.iload_n 3, 1) := by decide +kernel
theorem dX3_join_164 : decode cX3_join 164 = .ok (.if_icmp .ne 18, 3) := by decide +kernel
theorem dX3_join_167 : decode cX3_join 167 = .ok (.aload_n 0, 1) := by decide +kernel
theorem dX3_join_168 : decode cX3_join 168 = .ok (.getfield 29, 3) := by decide +kernel
theorem dX3_join_171 : decode cX3_join 171 = .ok (.iload_n 1, 1) := by decide +kernel
theorem dX3_join_172 : decode cX3_join 172 = .ok (.iconst 1, 1) := by decide +kernel
theorem dX3_join_173 : decode cX3_join 173 = .ok (.iadd, 1) := by decide +kernel
theorem dX3_join_174 : decode cX3_join 174 = .ok (.aaload, 1) := by decide +kernel
theorem dX3_join_175 : decode cX3_join 175 = .ok (.iload 5, 2) := by decide +kernel
theorem dX3_join_177 : decode cX3_join 177 = .ok (.bipush 30, 2) := by decide +kernel
theorem dX3_join_179 : decode cX3_join 179 = .ok (.iload_n 1, 1) := by decide +kernel
theorem dX3_join_180 : decode cX3_join 180 = .ok (.iadd, 1) := by decide +kernel
theorem dX3_join_181 : decode cX3_join 181 = .ok (.iastore, 1) := by decide +kernel
theorem dX3_join_182 : decode cX3_join 182 = .ok (.iinc 5 1, 3) := by decide +kernel
theorem dX3_join_185 : decode cX3_join 185 = .ok (.goto (-80), 3) := by decide +kernel
theorem dX3_join_188 : decode cX3_join 188 = .ok (.iconst 1, 1) := by decide +kernel
theorem dX3_join_189 : decode cX3_join 189 = .ok (.ireturn, 1) := by decide +kernel
set_option maxRecDepth 20000 in
theorem ggX3_meet_X3_daysOf : GoodIn wsX3_meet wsX3_daysOf := goodIn_r _ [7, 1, 8, 9, 14, 15, 16, 17, 18, 19, 20, 21, 22, 23, 24, 25, 26, 27, 28, 29, 30] (by decide +kernel) (by decide +kernel)
set_option maxRecDepth 20000 in
theorem gX3_meet_X3_daysOf : GoodIn wsX3_meet (wsV RX3 91 RX3 yX3_daysOf wsX3_daysOf) := goodIn_app (goodIn_of _ (by decide +kernel)) ggX3_meet_X3_daysOf
set_option maxRecDepth 20000 in
theorem ggX3_meet_X3_sizeOf : GoodIn wsX3_meet wsX3_sizeOf := goodIn_r _ [13, 2, 8, 9, 14, 15, 16, 17, 18, 19, 20, 21, 22, 23, 24, 25, 26, 27, 28, 29, 30] (by decide +kernel) (by decide +kernel)
set_option maxRecDepth 20000 in
theorem gX3_meet_X3_sizeOf : GoodIn wsX3_meet (wsV RX3 95 RX3 yX3_sizeOf wsX3_sizeOf) := goodIn_app (goodIn_of _ (by decide +kernel)) ggX3_meet_X3_sizeOf
theorem dX3_meet_0 : decode cX3_meet 0 = .ok (.aload_n 0, 1) := by decide +kernel
theorem dX3_meet_1 : decode cX3_meet 1 = .ok (.iload_n 2, 1) := by decide +kernel
theorem dX3_meet_2 : decode cX3_meet 2 = .ok (.invokevirtual 91, 3) := by decide +kernel
theorem dX3_meet_5 : decode cX3_meet 5 = .ok (.astore 5, 2) := by decide +kernel
theorem dX3_meet_7 : decode cX3_meet 7 = .ok (.aload_n 0, 1) := by decide +kernel
theorem dX3_meet_8 : decode cX3_meet 8 = .ok (.iload_n 3, 1) := by decide +kernel
theorem dX3_meet_9 : decode cX3_meet 9 = .ok (.invokevirtual 91, 3) := by decide +kernel
theorem dX3_meet_12 : decode cX3_meet 12 = .ok (.astore 6, 2) := by decide +kernel
theorem dX3_meet_14 : decode cX3_meet 14 = .ok (.aload_n 0, 1) := by decide +kernel
theorem dX3_meet_15 : decode cX3_meet 15 = .ok (.iload_n 2, 1) := by decide +kernel
theorem dX3_meet_16 : decode cX3_meet 16 = .ok (.invokevirtual 95, 3) := by decide +kernel
theorem dX3_meet_19 : decode cX3_meet 19 = .ok (.istore 7, 2) := by decide +kernel
theorem dX3_meet_21 : decode cX3_meet 21 = .ok (.aload_n 0, 1) := by decide +kernel
theorem dX3_meet_22 : decode cX3_meet 22 = .ok (.iload_n 3, 1) := by decide +kernel
theorem dX3_meet_23 : decode cX3_meet 23 = .ok (.invokevirtual 95, 3) := by decide +kernel
theorem dX3_meet_26 : decode cX3_meet 26 = .ok (.istore 8, 2) := by decide +kernel
theorem dX3_meet_28 : decode cX3_meet 28 = .ok (.iconst 0, 1) := by decide +kernel
theorem dX3_meet_29 : decode cX3_meet 29 = .ok (.istore 9, 2) := by decide +kernel
theorem dX3_meet_31 : decode cX3_meet 31 = .ok (.iconst 0, 1) := by decide +kernel
theorem dX3_meet_32 : decode cX3_meet 32 = .ok (.istore 10, 2) := by decide +kernel
theorem dX3_meet_34 : decode cX3_meet 34 = .ok (.iconst 0, 1) := by decide +kernel
theorem dX3_meet_35 : decode cX3_meet 35 = .ok (.istore 11, 2) := by decide +kernel
theorem dX3_meet_37 : decode cX3_meet 37 = .ok (.iload 9, 2) := by decide +kernel
theorem dX3_meet_39 : decode cX3_meet 39 = .ok (.iload 7, 2) := by decide +kernel
theorem dX3_meet_41 : decode cX3_meet 41 = .ok (.if_icmp .ge 67, 3) := by decide +kernel
theorem dX3_meet_44 : decode cX3_meet 44 = .ok (.iload 10, 2) := by decide +kernel
theorem dX3_meet_46 : decode cX3_meet 46 = .ok (.iload 8, 2) := by decide +kernel
theorem dX3_meet_48 : decode cX3_meet 48 = .ok (.if_icmp .ge 60, 3) := by decide +kernel
theorem dX3_meet_51 : decode cX3_meet 51 = .ok (.aload 6, 2) := by decide +kernel
theorem dX3_meet_53 : decode cX3_meet 53 = .ok (.iload 10, 2) := by decide +kernel
theorem dX3_meet_55 : decode cX3_meet 55 = .ok (.iaload, 1) := by decide +kernel
theorem dX3_meet_56 : decode cX3_meet 56 = .ok (.aload 5, 2) := by decide +kernel
theorem dX3_meet_58 : decode cX3_meet 58 = .ok (.iload 9, 2) := by decide +kernel
theorem dX3_meet_60 : decode cX3_meet 60 = .ok (.iaload, 1) := by decide +kernel
theorem dX3_meet_61 : decode cX3_meet 61 = .ok (.isub, 1) := by decide +kernel
theorem dX3_meet_62 : decode cX3_meet 62 = .ok (.iload 4, 2) := by decide +kernel
theorem dX3_meet_64 : decode cX3_meet 64 = .ok (.isub, 1) := by decide +kernel
theorem dX3_meet_65 : decode cX3_meet 65 = .ok (.istore 12, 2) := by decide +kernel
theorem dX3_meet_67 : decode cX3_meet 67 = .ok (.iload 12, 2) := by decide +kernel
theorem dX3_meet_69 : decode cX3_meet 69 = .ok (.ifCond .ne 20, 3) := by decide +kernel
theorem dX3_meet_72 : decode cX3_meet 72 = .ok (.aload_n 0, 1) := by decide +kernel
theorem dX3_meet_73 : decode cX3_meet 73 = .ok (.getfield 35, 3) := by decide +kernel
theorem dX3_meet_76 : decode cX3_meet 76 = .ok (.iload_n 1, 1) := by decide +kernel
theorem dX3_meet_77 : decode cX3_meet 77 = .ok (.aaload, 1) := by decide +kernel
theorem dX3_meet_78 : decode cX3_meet 78 = .ok (.iload 11, 2) := by decide +kernel
theorem dX3_meet_80 : decode cX3_meet 80 = .ok (.aload 5, 2) := by decide +kernel
theorem dX3_meet_82 : decode cX3_meet 82 = .ok (.iload 9, 2) := by decide +kernel
theorem dX3_meet_84 : decode cX3_meet 84 = .ok (.iaload, 1) := by decide +kernel
theorem dX3_meet_85 : decode cX3_meet 85 = .ok (.iastore, 1) := by decide +kernel
theorem dX3_meet_86 : decode cX3_meet 86 = .ok (.iinc 11 1, 3) := by decide +kernel
theorem dX3_meet_89 : decode cX3_meet 89 = .ok (.iload 12, 2) := by decide +kernel
theorem dX3_meet_91 : decode cX3_meet 91 = .ok (.ifCond .lt 6, 3) := by decide +kernel
theorem dX3_meet_94 : decode cX3_meet 94 = .ok (.iinc 9 1, 3) := by decide +kernel
theorem dX3_meet_97 : decode cX3_meet 97 = .ok (.iload 12, 2) := by decide +kernel
theorem dX3_meet_99 : decode cX3_meet 99 = .ok (.ifCond .gt 6, 3) := by decide +kernel
theorem dX3_meet_102 : decode cX3_meet 102 = .ok (.iinc 10 1, 3) := by decide +kernel
theorem dX3_meet_105 : decode cX3_meet 105 = .ok (.goto (-68), 3) := by decide +kernel
theorem dX3_meet_108 : decode cX3_meet 108 = .ok (.aload_n 0, 1) := by decide +kernel
theorem dX3_meet_109 : decode cX3_meet 109 = .ok (.getfield 38, 3) := by decide +kernel
theorem dX3_meet_112 : decode cX3_meet 112 = .ok (.iload_n 1, 1) := by decide +kernel
theorem dX3_meet_113 : decode cX3_meet 113 = .ok (.iload 11, 2) := by decide +kernel
theorem dX3_meet_115 : decode cX3_meet 115 = .ok (.iastore, 1) := by decide +kernel
theorem dX3_meet_116 : decode cX3_meet 116 = .ok (.iload 11, 2) := by decide +kernel
theorem dX3_meet_118 : decode cX3_meet 118 = .ok (.ifCond .le 7, 3) := by decide +kernel
theorem dX3_meet_121 : decode cX3_meet 121 = .ok (.iconst 1, 1) := by decide +kernel
theorem dX3_meet_122 : decode cX3_meet 122 = .ok (.goto 4, 3) := by decide +kernel
theorem dX3_meet_125 : decode cX3_meet 125 = .ok (.iconst 0, 1) := by decide +kernel
theorem dX3_meet_126 : decode cX3_meet 126 = .ok (.ireturn, 1) := by decide +kernel
theorem dX3_daysOf_0 : decode cX3_daysOf 0 = .ok (.iload_n 1, 1) := by decide +kernel
theorem dX3_daysOf_1 : decode cX3_daysOf 1 = .ok (.bipush 30, 2) := by decide +kernel
theorem dX3_daysOf_3 : decode cX3_daysOf 3 = .ok (.if_icmp .lt 13, 3) := by decide +kernel
theorem dX3_daysOf_6 : decode cX3_daysOf 6 = .ok (.aload_n 0, 1) := by decide +kernel
theorem dX3_daysOf_7 : decode cX3_daysOf 7 = .ok (.getfield 35, 3) := by decide +kernel
theorem dX3_daysOf_10 : decode cX3_daysOf 10 = .ok (.iload_n 1, 1) := by decide +kernel
theorem dX3_daysOf_11 : decode cX3_daysOf 11 = .ok (.bipush 30, 2) := by decide +kernel
theorem dX3_daysOf_13 : decode cX3_daysOf 13 = .ok (.isub, 1) := by decide +kernel
theorem dX3_daysOf_14 : decode cX3_daysOf 14 = .ok (.aaload, 1) := by decide +kernel
theorem dX3_daysOf_15 : decode cX3_daysOf 15 = .ok (.areturn, 1) := by decide +kernel
theorem dX3_daysOf_16 : decode cX3_daysOf 16 = .ok (.aload_n 0, 1) := by decide +kernel
theorem dX3_daysOf_17 : decode cX3_daysOf 17 = .ok (.getfield 11, 3) := by decide +kernel
theorem dX3_daysOf_20 : decode cX3_daysOf 20 = .ok (.iload_n 1, 1) := by decide +kernel
theorem dX3_daysOf_21 : decode cX3_daysOf 21 = .ok (.aaload, 1) := by decide +kernel
theorem dX3_daysOf_22 : decode cX3_daysOf 22 = .ok (.astore_n 2, 1) := by decide +kernel
theorem dX3_daysOf_23 : decode cX3_daysOf 23 = .ok (.aload_n 2, 1) := by decide +kernel
theorem dX3_daysOf_24 : decode cX3_daysOf 24 = .ok (.ifnonnull 12, 3) := by decide +kernel
theorem dX3_daysOf_27 : decode cX3_daysOf 27 = .ok (.aload_n 0, 1) := by decide +kernel
theorem dX3_daysOf_28 : decode cX3_daysOf 28 = .ok (.getfield 35, 3) := by decide +kernel
theorem dX3_daysOf_31 : decode cX3_daysOf 31 = .ok (.iconst 0, 1) := by decide +kernel
theorem dX3_daysOf_32 : decode cX3_daysOf 32 = .ok (.aaload, 1) := by decide +kernel
theorem dX3_daysOf_33 : decode cX3_daysOf 33 = .ok (.goto 7, 3) := by decide +kernel
theorem dX3_daysOf_36 : decode cX3_daysOf 36 = .ok (.aload_n 2, 1) := by decide +kernel
theorem dX3_daysOf_37 : decode cX3_daysOf 37 = .ok (.getfield 98, 3) := by decide +kernel
theorem dX3_daysOf_40 : decode cX3_daysOf 40 = .ok (.areturn, 1) := by decide +kernel
theorem dX3_sizeOf_0 : decode cX3_sizeOf 0 = .ok (.iload_n 1, 1) := by decide +kernel
theorem dX3_sizeOf_1 : decode cX3_sizeOf 1 = .ok (.bipush 30, 2) := by decide +kernel
theorem dX3_sizeOf_3 : decode cX3_sizeOf 3 = .ok (.if_icmp .lt 13, 3) := by decide +kernel
theorem dX3_sizeOf_6 : decode cX3_sizeOf 6 = .ok (.aload_n 0, 1) := by decide +kernel
theorem dX3_sizeOf_7 : decode cX3_sizeOf 7 = .ok (.getfield 38, 3) := by decide +kernel
theorem dX3_sizeOf_10 : decode cX3_sizeOf 10 = .ok (.iload_n 1, 1) := by decide +kernel
theorem dX3_sizeOf_11 : decode cX3_sizeOf 11 = .ok (.bipush 30, 2) := by decide +kernel
theorem dX3_sizeOf_13 : decode cX3_sizeOf 13 = .ok (.isub, 1) := by decide +kernel
theorem dX3_sizeOf_14 : decode cX3_sizeOf 14 = .ok (.iaload, 1) := by decide +kernel
theorem dX3_sizeOf_15 : decode cX3_sizeOf 15 = .ok (.ireturn, 1) := by decide +kernel
theorem dX3_sizeOf_16 : decode cX3_sizeOf 16 = .ok (.aload_n 0, 1) := by decide +kernel
theorem dX3_sizeOf_17 : decode cX3_sizeOf 17 = .ok (.getfield 11, 3) := by decide +kernel
theorem dX3_sizeOf_20 : decode cX3_sizeOf 20 = .ok (.iload_n 1, 1) := by decide +kernel
theorem dX3_sizeOf_21 : decode cX3_sizeOf 21 = .ok (.aaload, 1) := by decide +kernel
theorem dX3_sizeOf_22 : decode cX3_sizeOf 22 = .ok (.astore_n 2, 1) := by decide +kernel
theorem dX3_sizeOf_23 : decode cX3_sizeOf 23 = .ok (.aload_n 2, 1) := by decide +kernel
theorem dX3_sizeOf_24 : decode cX3_sizeOf 24 = .ok (.ifnonnull 7, 3) := by decide +kernel
theorem dX3_sizeOf_27 : decode cX3_sizeOf 27 = .ok (.iconst 0, 1) := by decide +kernel
theorem dX3_sizeOf_28 : decode cX3_sizeOf 28 = .ok (.goto 8, 3) := by decide +kernel
theorem dX3_sizeOf_31 : decode cX3_sizeOf 31 = .ok (.aload_n 2, 1) := by decide +kernel
theorem dX3_sizeOf_32 : decode cX3_sizeOf 32 = .ok (.getfield 98, 3) := by decide +kernel
theorem dX3_sizeOf_35 : decode cX3_sizeOf 35 = .ok (.arraylength, 1) := by decide +kernel
theorem dX3_sizeOf_36 : decode cX3_sizeOf 36 = .ok (.ireturn, 1) := by decide +kernel
theorem dX3_wrongAt_0 : decode cX3_wrongAt 0 = .ok (.iload_n 1, 1) := by decide +kernel
theorem dX3_wrongAt_1 : decode cX3_wrongAt 1 = .ok (.istore_n 2, 1) := by decide +kernel
theorem dX3_wrongAt_2 : decode cX3_wrongAt 2 = .ok (.iconst 0, 1) := by decide +kernel
theorem dX3_wrongAt_3 : decode cX3_wrongAt 3 = .ok (.istore_n 3, 1) := by decide +kernel
theorem dX3_wrongAt_4 : decode cX3_wrongAt 4 = .ok (.iload_n 3, 1) := by decide +kernel
theorem dX3_wrongAt_5 : decode cX3_wrongAt 5 = .ok (.aload_n 0, 1) := by decide +kernel
theorem dX3_wrongAt_6 : decode cX3_wrongAt 6 = .ok (.getfield 48, 3) := by decide +kernel
theorem dX3_wrongAt_9 : decode cX3_wrongAt 9 = .ok (.if_icmp .ge 33, 3) := by decide +kernel
theorem dX3_wrongAt_12 : decode cX3_wrongAt 12 = .ok (.iload_n 2, 1) := by decide +kernel
theorem dX3_wrongAt_13 : decode cX3_wrongAt 13 = .ok (.ifCond .lt 29, 3) := by decide +kernel
theorem dX3_wrongAt_16 : decode cX3_wrongAt 16 = .ok (.aload_n 0, 1) := by decide +kernel
theorem dX3_wrongAt_17 : decode cX3_wrongAt 17 = .ok (.getfield 65, 3) := by decide +kernel
theorem dX3_wrongAt_20 : decode cX3_wrongAt 20 = .ok (.iload_n 3, 1) := by decide +kernel
theorem dX3_wrongAt_21 : decode cX3_wrongAt 21 = .ok (.ishr, 1) := by decide +kernel
theorem dX3_wrongAt_22 : decode cX3_wrongAt 22 = .ok (.iconst 1, 1) := by decide +kernel
theorem dX3_wrongAt_23 : decode cX3_wrongAt 23 = .ok (.iand, 1) := by decide +kernel
theorem dX3_wrongAt_24 : decode cX3_wrongAt 24 = .ok (.ifCond .eq 12, 3) := by decide +kernel
theorem dX3_wrongAt_27 : decode cX3_wrongAt 27 = .ok (.iload_n 2, 1) := by decide +kernel
theorem dX3_wrongAt_28 : decode cX3_wrongAt 28 = .ok (.ifCond .ne 5, 3) := by decide +kernel
theorem dX3_wrongAt_31 : decode cX3_wrongAt 31 = .ok (.iload_n 3, 1) := by decide +kernel
theorem dX3_wrongAt_32 : decode cX3_wrongAt 32 = .ok (.ireturn, 1) := by decide +kernel
theorem dX3_wrongAt_33 : decode cX3_wrongAt 33 = .ok (.iinc 2 (-1), 3) := by decide +kernel
theorem dX3_wrongAt_36 : decode cX3_wrongAt 36 = .ok (.iinc 3 1, 3) := by decide +kernel
theorem dX3_wrongAt_39 : decode cX3_wrongAt 39 = .ok (.goto (-35), 3) := by decide +kernel
theorem dX3_wrongAt_42 : decode cX3_wrongAt 42 = .ok (.iconst (-1), 1) := by decide +kernel
theorem dX3_wrongAt_43 : decode cX3_wrongAt 43 = .ok (.ireturn, 1) := by decide +kernel
set_option maxRecDepth 20000 in
theorem ggX3_settledSize_X3_sizeOf : GoodIn wsX3_settledSize wsX3_sizeOf := goodIn_r _ [8, 9, 1, 10, 11, 12, 13, 14, 15, 16, 17, 18, 19, 20, 21, 22, 23, 24, 25, 26, 27] (by decide +kernel) (by decide +kernel)
set_option maxRecDepth 20000 in
theorem gX3_settledSize_X3_sizeOf : GoodIn wsX3_settledSize (wsV RX3 95 RX3 yX3_sizeOf wsX3_sizeOf) := goodIn_app (goodIn_of _ (by decide +kernel)) ggX3_settledSize_X3_sizeOf
theorem dX3_settledSize_0 : decode cX3_settledSize 0 = .ok (.aload_n 0, 1) := by decide +kernel
theorem dX3_settledSize_1 : decode cX3_settledSize 1 = .ok (.getfield 11, 3) := by decide +kernel
theorem dX3_settledSize_4 : decode cX3_settledSize 4 = .ok (.iload_n 1, 1) := by decide +kernel
theorem dX3_settledSize_5 : decode cX3_settledSize 5 = .ok (.aaload, 1) := by decide +kernel
theorem dX3_settledSize_6 : decode cX3_settledSize 6 = .ok (.ifnonnull 7, 3) := by decide +kernel
theorem dX3_settledSize_9 : decode cX3_settledSize 9 = .ok (.iconst (-1), 1) := by decide +kernel
theorem dX3_settledSize_10 : decode cX3_settledSize 10 = .ok (.goto 18, 3) := by decide +kernel
theorem dX3_settledSize_13 : decode cX3_settledSize 13 = .ok (.aload_n 0, 1) := by decide +kernel
theorem dX3_settledSize_14 : decode cX3_settledSize 14 = .ok (.aload_n 0, 1) := by decide +kernel
theorem dX3_settledSize_15 : decode cX3_settledSize 15 = .ok (.getfield 29, 3) := by decide +kernel
theorem dX3_settledSize_18 : decode cX3_settledSize 18 = .ok (.aload_n 0, 1) := by decide +kernel
theorem dX3_settledSize_19 : decode cX3_settledSize 19 = .ok (.getfield 48, 3) := by decide +kernel
theorem dX3_settledSize_22 : decode cX3_settledSize 22 = .ok (.aaload, 1) := by decide +kernel
theorem dX3_settledSize_23 : decode cX3_settledSize 23 = .ok (.iload_n 1, 1) := by decide +kernel
theorem dX3_settledSize_24 : decode cX3_settledSize 24 = .ok (.iaload, 1) := by decide +kernel
theorem dX3_settledSize_25 : decode cX3_settledSize 25 = .ok (.invokevirtual 95, 3) := by decide +kernel
theorem dX3_settledSize_28 : decode cX3_settledSize 28 = .ok (.ireturn, 1) := by decide +kernel
set_option maxRecDepth 20000 in
theorem ggX3_settledAt_X3_settledSize : GoodIn wsX3_settledAt wsX3_settledSize := goodIn_r _ [8, 9, 1, 2, 10, 11, 12, 7, 13, 14, 15, 21, 22, 23, 24, 25, 26, 27, 28, 29, 30, 31, 32, 33, 34, 35, 36, 37] (by decide +kernel) (by decide +kernel)
set_option maxRecDepth 20000 in
theorem gX3_settledAt_X3_settledSize : GoodIn wsX3_settledAt (wsV RX3 99 RX3 yX3_settledSize wsX3_settledSize) := goodIn_app (goodIn_of _ (by decide +kernel)) ggX3_settledAt_X3_settledSize
set_option maxRecDepth 20000 in
theorem ggX3_settledAt_X3_daysOf : GoodIn wsX3_settledAt wsX3_daysOf := goodIn_r _ [19, 20, 9, 15, 21, 22, 23, 24, 25, 26, 27, 28, 29, 30, 31, 32, 33, 34, 35, 36, 37] (by decide +kernel) (by decide +kernel)
set_option maxRecDepth 20000 in
theorem gX3_settledAt_X3_daysOf : GoodIn wsX3_settledAt (wsV RX3 91 RX3 yX3_daysOf wsX3_daysOf) := goodIn_app (goodIn_of _ (by decide +kernel)) ggX3_settledAt_X3_daysOf
theorem dX3_settledAt_0 : decode cX3_settledAt 0 = .ok (.iload_n 2, 1) := by decide +kernel
theorem dX3_settledAt_1 : decode cX3_settledAt 1 = .ok (.ifCond .lt 12, 3) := by decide +kernel
theorem dX3_settledAt_4 : decode cX3_settledAt 4 = .ok (.iload_n 2, 1) := by decide +kernel
theorem dX3_settledAt_5 : decode cX3_settledAt 5 = .ok (.aload_n 0, 1) := by decide +kernel
theorem dX3_settledAt_6 : decode cX3_settledAt 6 = .ok (.iload_n 1, 1) := by decide +kernel
theorem dX3_settledAt_7 : decode cX3_settledAt 7 = .ok (.invokevirtual 99, 3) := by decide +kernel
theorem dX3_settledAt_10 : decode cX3_settledAt 10 = .ok (.if_icmp .lt 5, 3) := by decide +kernel
theorem dX3_settledAt_13 : decode cX3_settledAt 13 = .ok (.iconst (-1), 1) := by decide +kernel
theorem dX3_settledAt_14 : decode cX3_settledAt 14 = .ok (.ireturn, 1) := by decide +kernel
theorem dX3_settledAt_15 : decode cX3_settledAt 15 = .ok (.aload_n 0, 1) := by decide +kernel
theorem dX3_settledAt_16 : decode cX3_settledAt 16 = .ok (.aload_n 0, 1) := by decide +kernel
theorem dX3_settledAt_17 : decode cX3_settledAt 17 = .ok (.getfield 29, 3) := by decide +kernel
theorem dX3_settledAt_20 : decode cX3_settledAt 20 = .ok (.aload_n 0, 1) := by decide +kernel
theorem dX3_settledAt_21 : decode cX3_settledAt 21 = .ok (.getfield 48, 3) := by decide +kernel
theorem dX3_settledAt_24 : decode cX3_settledAt 24 = .ok (.aaload, 1) := by decide +kernel
theorem dX3_settledAt_25 : decode cX3_settledAt 25 = .ok (.iload_n 1, 1) := by decide +kernel
theorem dX3_settledAt_26 : decode cX3_settledAt 26 = .ok (.iaload, 1) := by decide +kernel
theorem dX3_settledAt_27 : decode cX3_settledAt 27 = .ok (.invokevirtual 91, 3) := by decide +kernel
theorem dX3_settledAt_30 : decode cX3_settledAt 30 = .ok (.iload_n 2, 1) := by decide +kernel
theorem dX3_settledAt_31 : decode cX3_settledAt 31 = .ok (.iaload, 1) := by decide +kernel
theorem dX3_settledAt_32 : decode cX3_settledAt 32 = .ok (.aload_n 0, 1) := by decide +kernel
theorem dX3_settledAt_33 : decode cX3_settledAt 33 = .ok (.getfield 32, 3) := by decide +kernel
theorem dX3_settledAt_36 : decode cX3_settledAt 36 = .ok (.aload_n 0, 1) := by decide +kernel
theorem dX3_settledAt_37 : decode cX3_settledAt 37 = .ok (.getfield 48, 3) := by decide +kernel
theorem dX3_settledAt_40 : decode cX3_settledAt 40 = .ok (.aaload, 1) := by decide +kernel
theorem dX3_settledAt_41 : decode cX3_settledAt 41 = .ok (.iload_n 1, 1) := by decide +kernel
theorem dX3_settledAt_42 : decode cX3_settledAt 42 = .ok (.iaload, 1) := by decide +kernel
theorem dX3_settledAt_43 : decode cX3_settledAt 43 = .ok (.iadd, 1) := by decide +kernel
theorem dX3_settledAt_44 : decode cX3_settledAt 44 = .ok (.ireturn, 1) := by decide +kernel
theorem dX4_init_0 : decode cX4_init 0 = .ok (.aload_n 0, 1) := by decide +kernel
theorem dX4_init_1 : decode cX4_init 1 = .ok (.invokespecial 3, 3) := by decide +kernel
theorem dX4_init_4 : decode cX4_init 4 = .ok (.aload_n 0, 1) := by decide +kernel
theorem dX4_init_5 : decode cX4_init 5 = .ok (.bipush 11, 2) := by decide +kernel
theorem dX4_init_7 : decode cX4_init 7 = .ok (.newarray .int, 2) := by decide +kernel
theorem dX4_init_9 : decode cX4_init 9 = .ok (.putfield 9, 3) := by decide +kernel
theorem dX4_init_12 : decode cX4_init 12 = .ok (.aload_n 0, 1) := by decide +kernel
theorem dX4_init_13 : decode cX4_init 13 = .ok (.sipush 200, 3) := by decide +kernel
theorem dX4_init_16 : decode cX4_init 16 = .ok (.newarray .int, 2) := by decide +kernel
theorem dX4_init_18 : decode cX4_init 18 = .ok (.putfield 15, 3) := by decide +kernel
theorem dX4_init_21 : decode cX4_init 21 = .ok (.return_, 1) := by decide +kernel
theorem dX4_hasRoom_0 : decode cX4_hasRoom 0 = .ok (.aload_n 0, 1) := by decide +kernel
theorem dX4_hasRoom_1 : decode cX4_hasRoom 1 = .ok (.getfield 18, 3) := by decide +kernel
theorem dX4_hasRoom_4 : decode cX4_hasRoom 4 = .ok (.bipush 20, 2) := by decide +kernel
theorem dX4_hasRoom_6 : decode cX4_hasRoom 6 = .ok (.iadd, 1) := by decide +kernel
theorem dX4_hasRoom_7 : decode cX4_hasRoom 7 = .ok (.sipush 200, 3) := by decide +kernel
theorem dX4_hasRoom_10 : decode cX4_hasRoom 10 = .ok (.if_icmp .gt 7, 3) := by decide +kernel
theorem dX4_hasRoom_13 : decode cX4_hasRoom 13 = .ok (.iconst 1, 1) := by decide +kernel
theorem dX4_hasRoom_14 : decode cX4_hasRoom 14 = .ok (.goto 4, 3) := by decide +kernel
theorem dX4_hasRoom_17 : decode cX4_hasRoom 17 = .ok (.iconst 0, 1) := by decide +kernel
theorem dX4_hasRoom_18 : decode cX4_hasRoom 18 = .ok (.ireturn, 1) := by decide +kernel
theorem dX4_put_0 : decode cX4_put 0 = .ok (.bipush 24, 2) := by decide +kernel
theorem dX4_put_2 : decode cX4_put 2 = .ok (.istore_n 2, 1) := by decide +kernel
theorem dX4_put_3 : decode cX4_put 3 = .ok (.iload_n 2, 1) := by decide +kernel
theorem dX4_put_4 : decode cX4_put 4 = .ok (.ifCond .lt 45, 3) := by decide +kernel
theorem dX4_put_7 : decode cX4_put 7 = .ok (.aload_n 0, 1) := by decide +kernel
theorem dX4_put_8 : decode cX4_put 8 = .ok (.getfield 18, 3) := by decide +kernel
theorem dX4_put_11 : decode cX4_put 11 = .ok (.sipush 200, 3) := by decide +kernel
theorem dX4_put_14 : decode cX4_put 14 = .ok (.if_icmp .ge 35, 3) := by decide +kernel
theorem dX4_put_17 : decode cX4_put 17 = .ok (.aload_n 0, 1) := by decide +kernel
theorem dX4_put_18 : decode cX4_put 18 = .ok (.getfield 15, 3) := by decide +kernel
theorem dX4_put_21 : decode cX4_put 21 = .ok (.aload_n 0, 1) := by decide +kernel
theorem dX4_put_22 : decode cX4_put 22 = .ok (.getfield 18, 3) := by decide +kernel
theorem dX4_put_25 : decode cX4_put 25 = .ok (.iload_n 1, 1) := by decide +kernel
theorem dX4_put_26 : decode cX4_put 26 = .ok (.iload_n 2, 1) := by decide +kernel
theorem dX4_put_27 : decode cX4_put 27 = .ok (.ishr, 1) := by decide +kernel
theorem dX4_put_28 : decode cX4_put 28 = .ok (.sipush 255, 3) := by decide +kernel
theorem dX4_put_31 : decode cX4_put 31 = .ok (.iand, 1) := by decide +kernel
theorem dX4_put_32 : decode cX4_put 32 = .ok (.iastore, 1) := by decide +kernel
theorem dX4_put_33 : decode cX4_put 33 = .ok (.aload_n 0, 1) := by decide +kernel
theorem dX4_put_34 : decode cX4_put 34 = .ok (.dup, 1) := by decide +kernel
theorem dX4_put_35 : decode cX4_put 35 = .ok (.getfield 18, 3) := by decide +kernel
theorem dX4_put_38 : decode cX4_put 38 = .ok (.iconst 1, 1) := by decide +kernel
theorem dX4_put_39 : decode cX4_put 39 = .ok (.iadd, 1) := by decide +kernel
theorem dX4_put_40 : decode cX4_put 40 = .ok (.putfield 18, 3) := by decide +kernel
theorem dX4_put_43 : decode cX4_put 43 = .ok (.iinc 2 (-8), 3) := by decide +kernel
theorem dX4_put_46 : decode cX4_put 46 = .ok (.goto (-43), 3) := by decide +kernel
theorem dX4_put_49 : decode cX4_put 49 = .ok (.return_, 1) := by decide +kernel
set_option maxRecDepth 20000 in
theorem ggX4_read_J7_fill_53178 : GoodIn wsX4_read wsJ7_fill_53178 := goodIn_r _ [14] (by decide +kernel) (by decide +kernel)
set_option maxRecDepth 20000 in
theorem gX4_read_J7_fill_53178 : GoodIn wsX4_read (va_wsS RX4 37 yJ7_fill_53178 wsJ7_fill_53178) := goodIn_app (goodIn_of _ (by decide +kernel)) ggX4_read_J7_fill_53178
set_option maxRecDepth 20000 in
theorem ggX4_read_X4_skipBlanks : GoodIn wsX4_read wsX4_skipBlanks := goodIn_r _ [19, 9, 8, 20, 120, 121, 122, 123, 124, 125, 126] (by decide +kernel) (by decide +kernel)
set_option maxRecDepth 20000 in
theorem gX4_read_X4_skipBlanks : GoodIn wsX4_read (wsV RX4 43 RX4 yX4_skipBlanks wsX4_skipBlanks) := goodIn_app (goodIn_of _ (by decide +kernel)) ggX4_read_X4_skipBlanks
set_option maxRecDepth 20000 in
theorem ggX4_read_X4_readClause : GoodIn wsX4_read wsX4_readClause := goodIn_r _ [24, 9, 25, 26, 27, 28, 29, 18, 30, 8, 20, 31, 32, 33, 34, 35, 36, 37, 38, 39, 40, 41, 42, 43, 44, 45, 46, 47, 48, 49, 50, 51, 52, 53, 54, 55, 56, 57, 58, 59, 60, 61, 62, 63, 64, 65, 66, 67, 68, 69, 70, 71, 72, 73, 74, 75, 76, 77, 78, 79, 80, 81, 82, 83, 84, 85, 86, 87, 88, 89, 90, 91, 92, 93, 94, 95, 96, 97, 98, 15, 16, 17, 19, 99, 100, 101, 102, 103, 104, 105, 106, 107, 108, 109, 110, 111, 112, 113, 114, 115, 116, 117, 118, 119, 10, 120, 121, 122, 123, 124, 125, 126] (by decide +kernel) (by decide +kernel)
set_option maxRecDepth 20000 in
theorem gX4_read_X4_readClause : GoodIn wsX4_read (wsV RX4 46 RX4 yX4_readClause wsX4_readClause) := goodIn_app (goodIn_of _ (by decide +kernel)) ggX4_read_X4_readClause
set_option maxRecDepth 20000 in
theorem ggX4_read_X4_refuse : GoodIn wsX4_read wsX4_refuse := goodIn_r _ [89, 90, 120, 121, 122, 123, 124, 125, 126] (by decide +kernel) (by decide +kernel)
set_option maxRecDepth 20000 in
theorem gX4_read_X4_refuse : GoodIn wsX4_read (wsV RX4 50 RX4 yX4_refuse wsX4_refuse) := goodIn_app (goodIn_of _ (by decide +kernel)) ggX4_read_X4_refuse
theorem dX4_read_0 : decode cX4_read 0 = .ok (.aload_n 0, 1) := by decide +kernel
theorem dX4_read_1 : decode cX4_read 1 = .ok (.iconst 0, 1) := by decide +kernel
theorem dX4_read_2 : decode cX4_read 2 = .ok (.iload_n 1, 1) := by decide +kernel
theorem dX4_read_3 : decode cX4_read 3 = .ok (.sipush 200, 3) := by decide +kernel
theorem dX4_read_6 : decode cX4_read 6 = .ok (.invokestatic 22, 3) := by decide +kernel
theorem dX4_read_9 : decode cX4_read 9 = .ok (.invokestatic 28, 3) := by decide +kernel
theorem dX4_read_12 : decode cX4_read 12 = .ok (.putfield 31, 3) := by decide +kernel
theorem dX4_read_15 : decode cX4_read 15 = .ok (.aload_n 0, 1) := by decide +kernel
theorem dX4_read_16 : decode cX4_read 16 = .ok (.iconst 0, 1) := by decide +kernel
theorem dX4_read_17 : decode cX4_read 17 = .ok (.putfield 34, 3) := by decide +kernel
theorem dX4_read_20 : decode cX4_read 20 = .ok (.aload_n 0, 1) := by decide +kernel
theorem dX4_read_21 : decode cX4_read 21 = .ok (.getfield 9, 3) := by decide +kernel
theorem dX4_read_24 : decode cX4_read 24 = .ok (.iconst (-1), 1) := by decide +kernel
theorem dX4_read_25 : decode cX4_read 25 = .ok (.invokestatic 37, 3) := by decide +kernel
theorem dX4_read_28 : decode cX4_read 28 = .ok (.aload_n 0, 1) := by decide +kernel
theorem dX4_read_29 : decode cX4_read 29 = .ok (.invokevirtual 43, 3) := by decide +kernel
theorem dX4_read_32 : decode cX4_read 32 = .ok (.iconst 0, 1) := by decide +kernel
theorem dX4_read_33 : decode cX4_read 33 = .ok (.istore_n 2, 1) := by decide +kernel
theorem dX4_read_34 : decode cX4_read 34 = .ok (.iload_n 2, 1) := by decide +kernel
theorem dX4_read_35 : decode cX4_read 35 = .ok (.bipush 12, 2) := by decide +kernel
theorem dX4_read_37 : decode cX4_read 37 = .ok (.if_icmp .ge 33, 3) := by decide +kernel
theorem dX4_read_40 : decode cX4_read 40 = .ok (.aload_n 0, 1) := by decide +kernel
theorem dX4_read_41 : decode cX4_read 41 = .ok (.getfield 34, 3) := by decide +kernel
theorem dX4_read_44 : decode cX4_read 44 = .ok (.aload_n 0, 1) := by decide +kernel
theorem dX4_read_45 : decode cX4_read 45 = .ok (.getfield 31, 3) := by decide +kernel
theorem dX4_read_48 : decode cX4_read 48 = .ok (.if_icmp .ge 22, 3) := by decide +kernel
theorem dX4_read_51 : decode cX4_read 51 = .ok (.aload_n 0, 1) := by decide +kernel
theorem dX4_read_52 : decode cX4_read 52 = .ok (.invokevirtual 46, 3) := by decide +kernel
theorem dX4_read_55 : decode cX4_read 55 = .ok (.ifCond .ne 5, 3) := by decide +kernel
theorem dX4_read_58 : decode cX4_read 58 = .ok (.iconst 0, 1) := by decide +kernel
theorem dX4_read_59 : decode cX4_read 59 = .ok (.ireturn, 1) := by decide +kernel
theorem dX4_read_60 : decode cX4_read 60 = .ok (.aload_n 0, 1) := by decide +kernel
theorem dX4_read_61 : decode cX4_read 61 = .ok (.invokevirtual 43, 3) := by decide +kernel
theorem dX4_read_64 : decode cX4_read 64 = .ok (.iinc 2 1, 3) := by decide +kernel
theorem dX4_read_67 : decode cX4_read 67 = .ok (.goto (-33), 3) := by decide +kernel
theorem dX4_read_70 : decode cX4_read 70 = .ok (.aload_n 0, 1) := by decide +kernel
theorem dX4_read_71 : decode cX4_read 71 = .ok (.getfield 34, 3) := by decide +kernel
theorem dX4_read_74 : decode cX4_read 74 = .ok (.aload_n 0, 1) := by decide +kernel
theorem dX4_read_75 : decode cX4_read 75 = .ok (.getfield 31, 3) := by decide +kernel
theorem dX4_read_78 : decode cX4_read 78 = .ok (.if_icmp .ge 14, 3) := by decide +kernel
theorem dX4_read_81 : decode cX4_read 81 = .ok (.aload_n 0, 1) := by decide +kernel
theorem dX4_read_82 : decode cX4_read 82 = .ok (.aload_n 0, 1) := by decide +kernel
theorem dX4_read_83 : decode cX4_read 83 = .ok (.getfield 34, 3) := by decide +kernel
theorem dX4_read_86 : decode cX4_read 86 = .ok (.invokevirtual 50, 3) := by decide +kernel
theorem dX4_read_89 : decode cX4_read 89 = .ok (.ifCond .eq 7, 3) := by decide +kernel
theorem dX4_read_92 : decode cX4_read 92 = .ok (.iconst 1, 1) := by decide +kernel
theorem dX4_read_93 : decode cX4_read 93 = .ok (.goto 4, 3) := by decide +kernel
theorem dX4_read_96 : decode cX4_read 96 = .ok (.iconst 0, 1) := by decide +kernel
theorem dX4_read_97 : decode cX4_read 97 = .ok (.ireturn, 1) := by decide +kernel
set_option maxRecDepth 20000 in
theorem ggX4_readClause_X4_readWord : GoodIn wsX4_readClause wsX4_readWord := goodIn_r _ [8, 1, 9, 10, 11, 12, 13, 14, 15, 7, 16, 17, 18, 19, 20, 21, 22, 23, 24, 25, 26, 27, 28, 29, 30, 31, 32, 33, 34, 35, 36, 37, 38, 39, 40, 41, 42, 43, 44, 45, 46, 47, 48, 49, 50, 51, 52, 53, 54, 55, 56, 57, 58, 59, 60, 61, 62, 63, 64, 65, 105, 106, 107, 108, 109, 110, 111] (by decide +kernel) (by decide +kernel)
set_option maxRecDepth 20000 in
theorem gX4_readClause_X4_readWord : GoodIn wsX4_readClause (wsV RX4 54 RX4 yX4_readWord wsX4_readWord) := goodIn_app (goodIn_of _ (by decide +kernel)) ggX4_readClause_X4_readWord
set_option maxRecDepth 20000 in
theorem ggX4_readClause_X4_refuse : GoodIn wsX4_readClause wsX4_refuse := goodIn_r _ [69, 70, 105, 106, 107, 108, 109, 110, 111] (by decide +kernel) (by decide +kernel)
set_option maxRecDepth 20000 in
theorem gX4_readClause_X4_refuse : GoodIn wsX4_readClause (wsV RX4 50 RX4 yX4_refuse wsX4_refuse) := goodIn_app (goodIn_of _ (by decide +kernel)) ggX4_readClause_X4_refuse
set_option maxRecDepth 20000 in
theorem ggX4_readClause_X4_demand : GoodIn wsX4_readClause wsX4_demand := goodIn_r _ [74, 1, 75, 76, 77, 7, 78, 9, 10, 79, 80, 81, 82, 66, 67, 68, 69, 70, 105, 106, 107, 108, 109, 110, 111] (by decide +kernel) (by decide +kernel)
set_option maxRecDepth 20000 in
theorem gX4_readClause_X4_demand : GoodIn wsX4_readClause (wsV RX4 63 RX4 yX4_demand wsX4_demand) := goodIn_app (goodIn_of _ (by decide +kernel)) ggX4_readClause_X4_demand
set_option maxRecDepth 20000 in
theorem ggX4_readClause_X4_readPart : GoodIn wsX4_readClause wsX4_readPart := goodIn_r _ [86, 87, 75, 76, 77, 7, 78, 1, 9, 10, 79, 80, 81, 82, 88, 89, 90, 91, 92, 93, 94, 95, 96, 97, 98, 99, 66, 67, 68, 69, 70, 105, 106, 107, 108, 109, 110, 111] (by decide +kernel) (by decide +kernel)
set_option maxRecDepth 20000 in
theorem gX4_readClause_X4_readPart : GoodIn wsX4_readClause (wsV RX4 67 RX4 yX4_readPart wsX4_readPart) := goodIn_app (goodIn_of _ (by decide +kernel)) ggX4_readClause_X4_readPart
set_option maxRecDepth 20000 in
theorem ggX4_readClause_X4_narrow : GoodIn wsX4_readClause wsX4_narrow := goodIn_r _ [103, 104, 87, 105, 106, 107, 108, 109, 110, 111] (by decide +kernel) (by decide +kernel)
set_option maxRecDepth 20000 in
theorem gX4_readClause_X4_narrow : GoodIn wsX4_readClause (wsV RX4 73 RX4 yX4_narrow wsX4_narrow) := goodIn_app (goodIn_of _ (by decide +kernel)) ggX4_readClause_X4_narrow
theorem dX4_readClause_0 : decode cX4_readClause 0 = .ok (.aload_n 0, 1) := by decide +kernel
theorem dX4_readClause_1 : decode cX4_readClause 1 = .ok (.getfield 34, 3) := by decide +kernel
theorem dX4_readClause_4 : decode cX4_readClause 4 = .ok (.istore_n 1, 1) := by decide +kernel
theorem dX4_readClause_5 : decode cX4_readClause 5 = .ok (.aload_n 0, 1) := by decide +kernel
theorem dX4_readClause_6 : decode cX4_readClause 6 = .ok (.invokevirtual 54, 3) := by decide +kernel
theorem dX4_readClause_9 : decode cX4_readClause 9 = .ok (.astore_n 2, 1) := by decide +kernel
theorem dX4_readClause_10 : decode cX4_readClause 10 = .ok (.aload_n 2, 1) := by decide +kernel
theorem dX4_readClause_11 : decode cX4_readClause 11 = .ok (.ifnonnull 9, 3) := by decide +kernel
theorem dX4_readClause_14 : decode cX4_readClause 14 = .ok (.aload_n 0, 1) := by decide +kernel
theorem dX4_readClause_15 : decode cX4_readClause 15 = .ok (.iload_n 1, 1) := by decide +kernel
theorem dX4_readClause_16 : decode cX4_readClause 16 = .ok (.invokevirtual 50, 3) := by decide +kernel
theorem dX4_readClause_19 : decode cX4_readClause 19 = .ok (.ireturn, 1) := by decide +kernel
theorem dX4_readClause_20 : decode cX4_readClause 20 = .ok (.iconst 0, 1) := by decide +kernel
theorem dX4_readClause_21 : decode cX4_readClause 21 = .ok (.istore_n 3, 1) := by decide +kernel
theorem dX4_readClause_22 : decode cX4_readClause 22 = .ok (.iload_n 3, 1) := by decide +kernel
theorem dX4_readClause_23 : decode cX4_readClause 23 = .ok (.aload_n 2, 1) := by decide +kernel
theorem dX4_readClause_24 : decode cX4_readClause 24 = .ok (.getfield 58, 3) := by decide +kernel
theorem dX4_readClause_27 : decode cX4_readClause 27 = .ok (.if_icmp .ge 43, 3) := by decide +kernel
theorem dX4_readClause_30 : decode cX4_readClause 30 = .ok (.iload_n 3, 1) := by decide +kernel
theorem dX4_readClause_31 : decode cX4_readClause 31 = .ok (.ifCond .le 14, 3) := by decide +kernel
theorem dX4_readClause_34 : decode cX4_readClause 34 = .ok (.aload_n 0, 1) := by decide +kernel
theorem dX4_readClause_35 : decode cX4_readClause 35 = .ok (.bipush 46, 2) := by decide +kernel
theorem dX4_readClause_37 : decode cX4_readClause 37 = .ok (.invokevirtual 63, 3) := by decide +kernel
theorem dX4_readClause_40 : decode cX4_readClause 40 = .ok (.ifCond .ne 5, 3) := by decide +kernel
theorem dX4_readClause_43 : decode cX4_readClause 43 = .ok (.iconst 0, 1) := by decide +kernel
theorem dX4_readClause_44 : decode cX4_readClause 44 = .ok (.ireturn, 1) := by decide +kernel
theorem dX4_readClause_45 : decode cX4_readClause 45 = .ok (.aload_n 0, 1) := by decide +kernel
theorem dX4_readClause_46 : decode cX4_readClause 46 = .ok (.invokevirtual 67, 3) := by decide +kernel
theorem dX4_readClause_49 : decode cX4_readClause 49 = .ok (.ifCond .ne 5, 3) := by decide +kernel
theorem dX4_readClause_52 : decode cX4_readClause 52 = .ok (.iconst 0, 1) := by decide +kernel
theorem dX4_readClause_53 : decode cX4_readClause 53 = .ok (.ireturn, 1) := by decide +kernel
theorem dX4_readClause_54 : decode cX4_readClause 54 = .ok (.aload_n 0, 1) := by decide +kernel
theorem dX4_readClause_55 : decode cX4_readClause 55 = .ok (.aload_n 2, 1) := by decide +kernel
theorem dX4_readClause_56 : decode cX4_readClause 56 = .ok (.getfield 70, 3) := by decide +kernel
theorem dX4_readClause_59 : decode cX4_readClause 59 = .ok (.iload_n 3, 1) := by decide +kernel
theorem dX4_readClause_60 : decode cX4_readClause 60 = .ok (.iadd, 1) := by decide +kernel
theorem dX4_readClause_61 : decode cX4_readClause 61 = .ok (.invokevirtual 73, 3) := by decide +kernel
theorem dX4_readClause_64 : decode cX4_readClause 64 = .ok (.iinc 3 1, 3) := by decide +kernel
theorem dX4_readClause_67 : decode cX4_readClause 67 = .ok (.goto (-45), 3) := by decide +kernel
theorem dX4_readClause_70 : decode cX4_readClause 70 = .ok (.aload_n 0, 1) := by decide +kernel
theorem dX4_readClause_71 : decode cX4_readClause 71 = .ok (.bipush 59, 2) := by decide +kernel
theorem dX4_readClause_73 : decode cX4_readClause 73 = .ok (.invokevirtual 63, 3) := by decide +kernel
theorem dX4_readClause_76 : decode cX4_readClause 76 = .ok (.ireturn, 1) := by decide +kernel
set_option maxRecDepth 20000 in
theorem ggX4_readWord_X4_isWord : GoodIn wsX4_readWord wsX4_isWord := goodIn_r _ [10, 3, 11, 12, 13, 14, 15, 16, 17, 18, 19, 20, 21, 22, 23, 24, 25, 26, 27, 28, 29, 30, 31, 32, 33, 34, 35, 36, 37, 38, 39, 40, 41, 42, 43, 44, 45, 46, 47, 48, 49, 50, 51, 52, 53, 54, 55, 56, 57, 58, 59, 60, 61, 62, 63, 64, 65, 66] (by decide +kernel) (by decide +kernel)
set_option maxRecDepth 20000 in
theorem gX4_readWord_X4_isWord : GoodIn wsX4_readWord (wsV RX4 85 RX4 yX4_isWord wsX4_isWord) := goodIn_app (goodIn_of _ (by decide +kernel)) ggX4_readWord_X4_isWord
theorem dX4_readWord_0 : decode cX4_readWord 0 = .ok (.aload_n 0, 1) := by decide +kernel
theorem dX4_readWord_1 : decode cX4_readWord 1 = .ok (.getfield 34, 3) := by decide +kernel
theorem dX4_readWord_4 : decode cX4_readWord 4 = .ok (.istore_n 1, 1) := by decide +kernel
theorem dX4_readWord_5 : decode cX4_readWord 5 = .ok (.aload_n 0, 1) := by decide +kernel
theorem dX4_readWord_6 : decode cX4_readWord 6 = .ok (.getfield 34, 3) := by decide +kernel
theorem dX4_readWord_9 : decode cX4_readWord 9 = .ok (.aload_n 0, 1) := by decide +kernel
theorem dX4_readWord_10 : decode cX4_readWord 10 = .ok (.getfield 31, 3) := by decide +kernel
theorem dX4_readWord_13 : decode cX4_readWord 13 = .ok (.if_icmp .ge 44, 3) := by decide +kernel
theorem dX4_readWord_16 : decode cX4_readWord 16 = .ok (.aload_n 0, 1) := by decide +kernel
theorem dX4_readWord_17 : decode cX4_readWord 17 = .ok (.getfield 15, 3) := by decide +kernel
theorem dX4_readWord_20 : decode cX4_readWord 20 = .ok (.aload_n 0, 1) := by decide +kernel
theorem dX4_readWord_21 : decode cX4_readWord 21 = .ok (.getfield 34, 3) := by decide +kernel
theorem dX4_readWord_24 : decode cX4_readWord 24 = .ok (.iaload, 1) := by decide +kernel
theorem dX4_readWord_25 : decode cX4_readWord 25 = .ok (.bipush 97, 2) := by decide +kernel
theorem dX4_readWord_27 : decode cX4_readWord 27 = .ok (.if_icmp .lt 30, 3) := by decide +kernel
theorem dX4_readWord_30 : decode cX4_readWord 30 = .ok (.aload_n 0, 1) := by decide +kernel
theorem dX4_readWord_31 : decode cX4_readWord 31 = .ok (.getfield 15, 3) := by decide +kernel
theorem dX4_readWord_34 : decode cX4_readWord 34 = .ok (.aload_n 0, 1) := by decide +kernel
theorem dX4_readWord_35 : decode cX4_readWord 35 = .ok (.getfield 34, 3) := by decide +kernel
theorem dX4_readWord_38 : decode cX4_readWord 38 = .ok (.iaload, 1) := by decide +kernel
theorem dX4_readWord_39 : decode cX4_readWord 39 = .ok (.bipush 122, 2) := by decide +kernel
theorem dX4_readWord_41 : decode cX4_readWord 41 = .ok (.if_icmp .gt 16, 3) := by decide +kernel
theorem dX4_readWord_44 : decode cX4_readWord 44 = .ok (.aload_n 0, 1) := by decide +kernel
theorem dX4_readWord_45 : decode cX4_readWord 45 = .ok (.dup, 1) := by decide +kernel
theorem dX4_readWord_46 : decode cX4_readWord 46 = .ok (.getfield 34, 3) := by decide +kernel
theorem dX4_readWord_49 : decode cX4_readWord 49 = .ok (.iconst 1, 1) := by decide +kernel
theorem dX4_readWord_50 : decode cX4_readWord 50 = .ok (.iadd, 1) := by decide +kernel
theorem dX4_readWord_51 : decode cX4_readWord 51 = .ok (.putfield 34, 3) := by decide +kernel
theorem dX4_readWord_54 : decode cX4_readWord 54 = .ok (.goto (-49), 3) := by decide +kernel
theorem dX4_readWord_57 : decode cX4_readWord 57 = .ok (.getstatic 77, 3) := by decide +kernel
theorem dX4_readWord_60 : decode cX4_readWord 60 = .ok (.astore_n 2, 1) := by decide +kernel
theorem dX4_readWord_61 : decode cX4_readWord 61 = .ok (.aload_n 2, 1) := by decide +kernel
theorem dX4_readWord_62 : decode cX4_readWord 62 = .ok (.arraylength, 1) := by decide +kernel
theorem dX4_readWord_63 : decode cX4_readWord 63 = .ok (.istore_n 3, 1) := by decide +kernel
theorem dX4_readWord_64 : decode cX4_readWord 64 = .ok (.iconst 0, 1) := by decide +kernel
theorem dX4_readWord_65 : decode cX4_readWord 65 = .ok (.istore 4, 2) := by decide +kernel
theorem dX4_readWord_67 : decode cX4_readWord 67 = .ok (.iload 4, 2) := by decide +kernel
theorem dX4_readWord_69 : decode cX4_readWord 69 = .ok (.iload_n 3, 1) := by decide +kernel
theorem dX4_readWord_70 : decode cX4_readWord 70 = .ok (.if_icmp .ge 35, 3) := by decide +kernel
theorem dX4_readWord_73 : decode cX4_readWord 73 = .ok (.aload_n 2, 1) := by decide +kernel
theorem dX4_readWord_74 : decode cX4_readWord 74 = .ok (.iload 4, 2) := by decide +kernel
theorem dX4_readWord_76 : decode cX4_readWord 76 = .ok (.aaload, 1) := by decide +kernel
theorem dX4_readWord_77 : decode cX4_readWord 77 = .ok (.astore 5, 2) := by decide +kernel
theorem dX4_readWord_79 : decode cX4_readWord 79 = .ok (.aload_n 0, 1) := by decide +kernel
theorem dX4_readWord_80 : decode cX4_readWord 80 = .ok (.aload 5, 2) := by decide +kernel
theorem dX4_readWord_82 : decode cX4_readWord 82 = .ok (.getfield 81, 3) := by decide +kernel
theorem dX4_readWord_85 : decode cX4_readWord 85 = .ok (.iload_n 1, 1) := by decide +kernel
theorem dX4_readWord_86 : decode cX4_readWord 86 = .ok (.aload_n 0, 1) := by decide +kernel
theorem dX4_readWord_87 : decode cX4_readWord 87 = .ok (.getfield 34, 3) := by decide +kernel
theorem dX4_readWord_90 : decode cX4_readWord 90 = .ok (.invokevirtual 85, 3) := by decide +kernel
theorem dX4_readWord_93 : decode cX4_readWord 93 = .ok (.ifCond .eq 6, 3) := by decide +kernel
theorem dX4_readWord_96 : decode cX4_readWord 96 = .ok (.aload 5, 2) := by decide +kernel
theorem dX4_readWord_98 : decode cX4_readWord 98 = .ok (.areturn, 1) := by decide +kernel
theorem dX4_readWord_99 : decode cX4_readWord 99 = .ok (.iinc 4 1, 3) := by decide +kernel
theorem dX4_readWord_102 : decode cX4_readWord 102 = .ok (.goto (-35), 3) := by decide +kernel
theorem dX4_readWord_105 : decode cX4_readWord 105 = .ok (.aconst_null, 1) := by decide +kernel
theorem dX4_readWord_106 : decode cX4_readWord 106 = .ok (.areturn, 1) := by decide +kernel
set_option maxRecDepth 20000 in
theorem ggX4_isWord_J0_length_8abf5 : GoodIn wsX4_isWord wsJ0_length_8abf5 := goodIn_r _ [6, 7, 8, 9, 10, 5, 11, 12, 13] (by decide +kernel) (by decide +kernel)
set_option maxRecDepth 20000 in
theorem gX4_isWord_J0_length_8abf5 : GoodIn wsX4_isWord (wsV RX4 89 RJ0 yJ0_length_8abf5 wsJ0_length_8abf5) := goodIn_app (goodIn_of _ (by decide +kernel)) ggX4_isWord_J0_length_8abf5
set_option maxRecDepth 20000 in
theorem ggX4_isWord_J0_charAt_5068e : GoodIn wsX4_isWord wsJ0_charAt_5068e := goodIn_r _ [17, 7, 18, 19, 20, 5, 21, 12, 13, 22, 23, 24, 25, 26, 27, 28, 29, 30, 31, 32, 33, 34, 35, 36, 37, 38, 39, 40, 41, 42, 43, 44, 45, 46, 47, 48, 49, 50] (by decide +kernel) (by decide +kernel)
set_option maxRecDepth 20000 in
theorem gX4_isWord_J0_charAt_5068e : GoodIn wsX4_isWord (wsV RX4 94 RJ0 yJ0_charAt_5068e wsJ0_charAt_5068e) := goodIn_app (goodIn_of _ (by decide +kernel)) ggX4_isWord_J0_charAt_5068e
theorem dX4_isWord_0 : decode cX4_isWord 0 = .ok (.aload_n 1, 1) := by decide +kernel
theorem dX4_isWord_1 : decode cX4_isWord 1 = .ok (.invokevirtual 89, 3) := by decide +kernel
theorem dX4_isWord_4 : decode cX4_isWord 4 = .ok (.iload_n 3, 1) := by decide +kernel
theorem dX4_isWord_5 : decode cX4_isWord 5 = .ok (.iload_n 2, 1) := by decide +kernel
theorem dX4_isWord_6 : decode cX4_isWord 6 = .ok (.isub, 1) := by decide +kernel
theorem dX4_isWord_7 : decode cX4_isWord 7 = .ok (.if_icmp .eq 5, 3) := by decide +kernel
theorem dX4_isWord_10 : decode cX4_isWord 10 = .ok (.iconst 0, 1) := by decide +kernel
theorem dX4_isWord_11 : decode cX4_isWord 11 = .ok (.ireturn, 1) := by decide +kernel
theorem dX4_isWord_12 : decode cX4_isWord 12 = .ok (.iconst 0, 1) := by decide +kernel
theorem dX4_isWord_13 : decode cX4_isWord 13 = .ok (.istore 4, 2) := by decide +kernel
theorem dX4_isWord_15 : decode cX4_isWord 15 = .ok (.iload 4, 2) := by decide +kernel
theorem dX4_isWord_17 : decode cX4_isWord 17 = .ok (.aload_n 1, 1) := by decide +kernel
theorem dX4_isWord_18 : decode cX4_isWord 18 = .ok (.invokevirtual 89, 3) := by decide +kernel
theorem dX4_isWord_21 : decode cX4_isWord 21 = .ok (.if_icmp .ge 29, 3) := by decide +kernel
theorem dX4_isWord_24 : decode cX4_isWord 24 = .ok (.aload_n 1, 1) := by decide +kernel
theorem dX4_isWord_25 : decode cX4_isWord 25 = .ok (.iload 4, 2) := by decide +kernel
theorem dX4_isWord_27 : decode cX4_isWord 27 = .ok (.invokevirtual 94, 3) := by decide +kernel
theorem dX4_isWord_30 : decode cX4_isWord 30 = .ok (.aload_n 0, 1) := by decide +kernel
theorem dX4_isWord_31 : decode cX4_isWord 31 = .ok (.getfield 15, 3) := by decide +kernel
theorem dX4_isWord_34 : decode cX4_isWord 34 = .ok (.iload_n 2, 1) := by decide +kernel
theorem dX4_isWord_35 : decode cX4_isWord 35 = .ok (.iload 4, 2) := by decide +kernel
theorem dX4_isWord_37 : decode cX4_isWord 37 = .ok (.iadd, 1) := by decide +kernel
theorem dX4_isWord_38 : decode cX4_isWord 38 = .ok (.iaload, 1) := by decide +kernel
theorem dX4_isWord_39 : decode cX4_isWord 39 = .ok (.if_icmp .eq 5, 3) := by decide +kernel
theorem dX4_isWord_42 : decode cX4_isWord 42 = .ok (.iconst 0, 1) := by decide +kernel
theorem dX4_isWord_43 : decode cX4_isWord 43 = .ok (.ireturn, 1) := by decide +kernel
theorem dX4_isWord_44 : decode cX4_isWord 44 = .ok (.iinc 4 1, 3) := by decide +kernel
theorem dX4_isWord_47 : decode cX4_isWord 47 = .ok (.goto (-32), 3) := by decide +kernel
theorem dX4_isWord_50 : decode cX4_isWord 50 = .ok (.iconst 1, 1) := by decide +kernel
theorem dX4_isWord_51 : decode cX4_isWord 51 = .ok (.ireturn, 1) := by decide +kernel
set_option maxRecDepth 20000 in
theorem ggX4_readPart_X4_takes : GoodIn wsX4_readPart wsX4_takes := goodIn_r _ [6, 7, 8, 9, 10, 11, 12, 5, 13, 31, 32, 33, 34, 35, 36, 37] (by decide +kernel) (by decide +kernel)
set_option maxRecDepth 20000 in
theorem gX4_readPart_X4_takes : GoodIn wsX4_readPart (wsV RX4 98 RX4 yX4_takes wsX4_takes) := goodIn_app (goodIn_of _ (by decide +kernel)) ggX4_readPart_X4_takes
set_option maxRecDepth 20000 in
theorem ggX4_readPart_X4_readRange : GoodIn wsX4_readPart wsX4_readRange := goodIn_r _ [17, 7, 1, 18, 19, 20, 5, 21, 9, 10, 11, 12, 13, 8, 22, 23, 24, 25, 26, 27, 28, 29, 30, 2, 3, 4, 6, 31, 32, 33, 34, 35, 36, 37] (by decide +kernel) (by decide +kernel)
set_option maxRecDepth 20000 in
theorem gX4_readPart_X4_readRange : GoodIn wsX4_readPart (wsV RX4 104 RX4 yX4_readRange wsX4_readRange) := goodIn_app (goodIn_of _ (by decide +kernel)) ggX4_readPart_X4_readRange
theorem dX4_readPart_0 : decode cX4_readPart 0 = .ok (.aload_n 0, 1) := by decide +kernel
theorem dX4_readPart_1 : decode cX4_readPart 1 = .ok (.bipush 63, 2) := by decide +kernel
theorem dX4_readPart_3 : decode cX4_readPart 3 = .ok (.invokevirtual 98, 3) := by decide +kernel
theorem dX4_readPart_6 : decode cX4_readPart 6 = .ok (.ifCond .eq 10, 3) := by decide +kernel
theorem dX4_readPart_9 : decode cX4_readPart 9 = .ok (.aload_n 0, 1) := by decide +kernel
theorem dX4_readPart_10 : decode cX4_readPart 10 = .ok (.iconst (-1), 1) := by decide +kernel
theorem dX4_readPart_11 : decode cX4_readPart 11 = .ok (.putfield 101, 3) := by decide +kernel
theorem dX4_readPart_14 : decode cX4_readPart 14 = .ok (.iconst 1, 1) := by decide +kernel
theorem dX4_readPart_15 : decode cX4_readPart 15 = .ok (.ireturn, 1) := by decide +kernel
theorem dX4_readPart_16 : decode cX4_readPart 16 = .ok (.aload_n 0, 1) := by decide +kernel
theorem dX4_readPart_17 : decode cX4_readPart 17 = .ok (.iconst 0, 1) := by decide +kernel
theorem dX4_readPart_18 : decode cX4_readPart 18 = .ok (.putfield 101, 3) := by decide +kernel
theorem dX4_readPart_21 : decode cX4_readPart 21 = .ok (.iconst 0, 1) := by decide +kernel
theorem dX4_readPart_22 : decode cX4_readPart 22 = .ok (.istore_n 1, 1) := by decide +kernel
theorem dX4_readPart_23 : decode cX4_readPart 23 = .ok (.iload_n 1, 1) := by decide +kernel
theorem dX4_readPart_24 : decode cX4_readPart 24 = .ok (.sipush 200, 3) := by decide +kernel
theorem dX4_readPart_27 : decode cX4_readPart 27 = .ok (.if_icmp .ge 29, 3) := by decide +kernel
theorem dX4_readPart_30 : decode cX4_readPart 30 = .ok (.aload_n 0, 1) := by decide +kernel
theorem dX4_readPart_31 : decode cX4_readPart 31 = .ok (.invokevirtual 104, 3) := by decide +kernel
theorem dX4_readPart_34 : decode cX4_readPart 34 = .ok (.ifCond .ne 5, 3) := by decide +kernel
theorem dX4_readPart_37 : decode cX4_readPart 37 = .ok (.iconst 0, 1) := by decide +kernel
theorem dX4_readPart_38 : decode cX4_readPart 38 = .ok (.ireturn, 1) := by decide +kernel
theorem dX4_readPart_39 : decode cX4_readPart 39 = .ok (.aload_n 0, 1) := by decide +kernel
theorem dX4_readPart_40 : decode cX4_readPart 40 = .ok (.bipush 47, 2) := by decide +kernel
theorem dX4_readPart_42 : decode cX4_readPart 42 = .ok (.invokevirtual 98, 3) := by decide +kernel
theorem dX4_readPart_45 : decode cX4_readPart 45 = .ok (.ifCond .ne 5, 3) := by decide +kernel
theorem dX4_readPart_48 : decode cX4_readPart 48 = .ok (.iconst 1, 1) := by decide +kernel
theorem dX4_readPart_49 : decode cX4_readPart 49 = .ok (.ireturn, 1) := by decide +kernel
theorem dX4_readPart_50 : decode cX4_readPart 50 = .ok (.iinc 1 1, 3) := by decide +kernel
theorem dX4_readPart_53 : decode cX4_readPart 53 = .ok (.goto (-30), 3) := by decide +kernel
theorem dX4_readPart_56 : decode cX4_readPart 56 = .ok (.iconst 1, 1) := by decide +kernel
theorem dX4_readPart_57 : decode cX4_readPart 57 = .ok (.ireturn, 1) := by decide +kernel
set_option maxRecDepth 20000 in
theorem ggX4_readRange_X4_readNumber : GoodIn wsX4_readRange wsX4_readNumber := goodIn_r _ [7, 1, 8, 9, 10, 11, 6, 12, 13, 14, 15, 16, 17, 18, 19, 20, 21, 22, 27, 28, 29, 30, 31, 32, 33] (by decide +kernel) (by decide +kernel)
set_option maxRecDepth 20000 in
theorem gX4_readRange_X4_readNumber : GoodIn wsX4_readRange (wsV RX4 107 RX4 yX4_readNumber wsX4_readNumber) := goodIn_app (goodIn_of _ (by decide +kernel)) ggX4_readRange_X4_readNumber
set_option maxRecDepth 20000 in
theorem ggX4_readRange_X4_takes : GoodIn wsX4_readRange wsX4_takes := goodIn_r _ [26, 1, 13, 8, 9, 10, 11, 6, 12, 27, 28, 29, 30, 31, 32, 33] (by decide +kernel) (by decide +kernel)
set_option maxRecDepth 20000 in
theorem gX4_readRange_X4_takes : GoodIn wsX4_readRange (wsV RX4 98 RX4 yX4_takes wsX4_takes) := goodIn_app (goodIn_of _ (by decide +kernel)) ggX4_readRange_X4_takes
set_option maxRecDepth 20000 in
theorem ggX4_readRange_X4_skipBlanks : GoodIn wsX4_readRange wsX4_skipBlanks := goodIn_r _ [12, 1, 13, 8, 27, 28, 29, 30, 31, 32, 33] (by decide +kernel) (by decide +kernel)
set_option maxRecDepth 20000 in
theorem gX4_readRange_X4_skipBlanks : GoodIn wsX4_readRange (wsV RX4 43 RX4 yX4_skipBlanks wsX4_skipBlanks) := goodIn_app (goodIn_of _ (by decide +kernel)) ggX4_readRange_X4_skipBlanks
set_option maxRecDepth 20000 in
theorem ggX4_readRange_X4_refuse : GoodIn wsX4_readRange wsX4_refuse := goodIn_r _ [21, 22, 27, 28, 29, 30, 31, 32, 33] (by decide +kernel) (by decide +kernel)
set_option maxRecDepth 20000 in
theorem gX4_readRange_X4_refuse : GoodIn wsX4_readRange (wsV RX4 50 RX4 yX4_refuse wsX4_refuse) := goodIn_app (goodIn_of _ (by decide +kernel)) ggX4_readRange_X4_refuse
theorem dX4_readRange_0 : decode cX4_readRange 0 = .ok (.aload_n 0, 1) := by decide +kernel
theorem dX4_readRange_1 : decode cX4_readRange 1 = .ok (.invokevirtual 107, 3) := by decide +kernel
theorem dX4_readRange_4 : decode cX4_readRange 4 = .ok (.istore_n 1, 1) := by decide +kernel
theorem dX4_readRange_5 : decode cX4_readRange 5 = .ok (.iload_n 1, 1) := by decide +kernel
theorem dX4_readRange_6 : decode cX4_readRange 6 = .ok (.ifCond .ge 5, 3) := by decide +kernel
theorem dX4_readRange_9 : decode cX4_readRange 9 = .ok (.iconst 0, 1) := by decide +kernel
theorem dX4_readRange_10 : decode cX4_readRange 10 = .ok (.ireturn, 1) := by decide +kernel
theorem dX4_readRange_11 : decode cX4_readRange 11 = .ok (.iload_n 1, 1) := by decide +kernel
theorem dX4_readRange_12 : decode cX4_readRange 12 = .ok (.istore_n 2, 1) := by decide +kernel
theorem dX4_readRange_13 : decode cX4_readRange 13 = .ok (.aload_n 0, 1) := by decide +kernel
theorem dX4_readRange_14 : decode cX4_readRange 14 = .ok (.bipush 45, 2) := by decide +kernel
theorem dX4_readRange_16 : decode cX4_readRange 16 = .ok (.invokevirtual 98, 3) := by decide +kernel
theorem dX4_readRange_19 : decode cX4_readRange 19 = .ok (.ifCond .eq 34, 3) := by decide +kernel
theorem dX4_readRange_22 : decode cX4_readRange 22 = .ok (.aload_n 0, 1) := by decide +kernel
theorem dX4_readRange_23 : decode cX4_readRange 23 = .ok (.invokevirtual 43, 3) := by decide +kernel
theorem dX4_readRange_26 : decode cX4_readRange 26 = .ok (.aload_n 0, 1) := by decide +kernel
theorem dX4_readRange_27 : decode cX4_readRange 27 = .ok (.getfield 34, 3) := by decide +kernel
theorem dX4_readRange_30 : decode cX4_readRange 30 = .ok (.istore_n 3, 1) := by decide +kernel
theorem dX4_readRange_31 : decode cX4_readRange 31 = .ok (.aload_n 0, 1) := by decide +kernel
theorem dX4_readRange_32 : decode cX4_readRange 32 = .ok (.invokevirtual 107, 3) := by decide +kernel
theorem dX4_readRange_35 : decode cX4_readRange 35 = .ok (.istore_n 2, 1) := by decide +kernel
theorem dX4_readRange_36 : decode cX4_readRange 36 = .ok (.iload_n 2, 1) := by decide +kernel
theorem dX4_readRange_37 : decode cX4_readRange 37 = .ok (.ifCond .ge 5, 3) := by decide +kernel
theorem dX4_readRange_40 : decode cX4_readRange 40 = .ok (.iconst 0, 1) := by decide +kernel
theorem dX4_readRange_41 : decode cX4_readRange 41 = .ok (.ireturn, 1) := by decide +kernel
theorem dX4_readRange_42 : decode cX4_readRange 42 = .ok (.iload_n 2, 1) := by decide +kernel
theorem dX4_readRange_43 : decode cX4_readRange 43 = .ok (.iload_n 1, 1) := by decide +kernel
theorem dX4_readRange_44 : decode cX4_readRange 44 = .ok (.if_icmp .ge 9, 3) := by decide +kernel
theorem dX4_readRange_47 : decode cX4_readRange 47 = .ok (.aload_n 0, 1) := by decide +kernel
theorem dX4_readRange_48 : decode cX4_readRange 48 = .ok (.iload_n 3, 1) := by decide +kernel
theorem dX4_readRange_49 : decode cX4_readRange 49 = .ok (.invokevirtual 50, 3) := by decide +kernel
theorem dX4_readRange_52 : decode cX4_readRange 52 = .ok (.ireturn, 1) := by decide +kernel
theorem dX4_readRange_53 : decode cX4_readRange 53 = .ok (.iload_n 1, 1) := by decide +kernel
theorem dX4_readRange_54 : decode cX4_readRange 54 = .ok (.istore_n 3, 1) := by decide +kernel
theorem dX4_readRange_55 : decode cX4_readRange 55 = .ok (.iload_n 3, 1) := by decide +kernel
theorem dX4_readRange_56 : decode cX4_readRange 56 = .ok (.iload_n 2, 1) := by decide +kernel
theorem dX4_readRange_57 : decode cX4_readRange 57 = .ok (.if_icmp .gt 27, 3) := by decide +kernel
theorem dX4_readRange_60 : decode cX4_readRange 60 = .ok (.iload_n 3, 1) := by decide +kernel
theorem dX4_readRange_61 : decode cX4_readRange 61 = .ok (.bipush 31, 2) := by decide +kernel
theorem dX4_readRange_63 : decode cX4_readRange 63 = .ok (.if_icmp .ge 21, 3) := by decide +kernel
theorem dX4_readRange_66 : decode cX4_readRange 66 = .ok (.aload_n 0, 1) := by decide +kernel
theorem dX4_readRange_67 : decode cX4_readRange 67 = .ok (.dup, 1) := by decide +kernel
theorem dX4_readRange_68 : decode cX4_readRange 68 = .ok (.getfield 101, 3) := by decide +kernel
theorem dX4_readRange_71 : decode cX4_readRange 71 = .ok (.iconst 1, 1) := by decide +kernel
theorem dX4_readRange_72 : decode cX4_readRange 72 = .ok (.iload_n 3, 1) := by decide +kernel
theorem dX4_readRange_73 : decode cX4_readRange 73 = .ok (.ishl, 1) := by decide +kernel
theorem dX4_readRange_74 : decode cX4_readRange 74 = .ok (.ior, 1) := by decide +kernel
theorem dX4_readRange_75 : decode cX4_readRange 75 = .ok (.putfield 101, 3) := by decide +kernel
theorem dX4_readRange_78 : decode cX4_readRange 78 = .ok (.iinc 3 1, 3) := by decide +kernel
theorem dX4_readRange_81 : decode cX4_readRange 81 = .ok (.goto (-26), 3) := by decide +kernel
theorem dX4_readRange_84 : decode cX4_readRange 84 = .ok (.iconst 1, 1) := by decide +kernel
theorem dX4_readRange_85 : decode cX4_readRange 85 = .ok (.ireturn, 1) := by decide +kernel
set_option maxRecDepth 20000 in
theorem ggX4_readNumber_X4_skipBlanks : GoodIn wsX4_readNumber wsX4_skipBlanks := goodIn_r _ [7, 1, 8, 2, 18, 19, 20, 21, 22, 23, 24] (by decide +kernel) (by decide +kernel)
set_option maxRecDepth 20000 in
theorem gX4_readNumber_X4_skipBlanks : GoodIn wsX4_readNumber (wsV RX4 43 RX4 yX4_skipBlanks wsX4_skipBlanks) := goodIn_app (goodIn_of _ (by decide +kernel)) ggX4_readNumber_X4_skipBlanks
set_option maxRecDepth 20000 in
theorem ggX4_readNumber_X4_isDigitAt : GoodIn wsX4_readNumber wsX4_isDigitAt := goodIn_r _ [12, 8, 2, 18, 19, 20, 21, 22, 23, 24] (by decide +kernel) (by decide +kernel)
set_option maxRecDepth 20000 in
theorem gX4_readNumber_X4_isDigitAt : GoodIn wsX4_readNumber (wsV RX4 110 RX4 yX4_isDigitAt wsX4_isDigitAt) := goodIn_app (goodIn_of _ (by decide +kernel)) ggX4_readNumber_X4_isDigitAt
set_option maxRecDepth 20000 in
theorem ggX4_readNumber_X4_refuse : GoodIn wsX4_readNumber wsX4_refuse := goodIn_r _ [16, 17, 18, 19, 20, 21, 22, 23, 24] (by decide +kernel) (by decide +kernel)
set_option maxRecDepth 20000 in
theorem gX4_readNumber_X4_refuse : GoodIn wsX4_readNumber (wsV RX4 50 RX4 yX4_refuse wsX4_refuse) := goodIn_app (goodIn_of _ (by decide +kernel)) ggX4_readNumber_X4_refuse
theorem dX4_readNumber_0 : decode cX4_readNumber 0 = .ok (.aload_n 0, 1) := by decide +kernel
theorem dX4_readNumber_1 : decode cX4_readNumber 1 = .ok (.invokevirtual 43, 3) := by decide +kernel
theorem dX4_readNumber_4 : decode cX4_readNumber 4 = .ok (.aload_n 0, 1) := by decide +kernel
theorem dX4_readNumber_5 : decode cX4_readNumber 5 = .ok (.getfield 34, 3) := by decide +kernel
theorem dX4_readNumber_8 : decode cX4_readNumber 8 = .ok (.istore_n 1, 1) := by decide +kernel
theorem dX4_readNumber_9 : decode cX4_readNumber 9 = .ok (.iconst 0, 1) := by decide +kernel
theorem dX4_readNumber_10 : decode cX4_readNumber 10 = .ok (.istore_n 2, 1) := by decide +kernel
theorem dX4_readNumber_11 : decode cX4_readNumber 11 = .ok (.aload_n 0, 1) := by decide +kernel
theorem dX4_readNumber_12 : decode cX4_readNumber 12 = .ok (.aload_n 0, 1) := by decide +kernel
theorem dX4_readNumber_13 : decode cX4_readNumber 13 = .ok (.getfield 34, 3) := by decide +kernel
theorem dX4_readNumber_16 : decode cX4_readNumber 16 = .ok (.invokevirtual 110, 3) := by decide +kernel
theorem dX4_readNumber_19 : decode cX4_readNumber 19 = .ok (.ifCond .eq 44, 3) := by decide +kernel
theorem dX4_readNumber_22 : decode cX4_readNumber 22 = .ok (.aload_n 0, 1) := by decide +kernel
theorem dX4_readNumber_23 : decode cX4_readNumber 23 = .ok (.getfield 34, 3) := by decide +kernel
theorem dX4_readNumber_26 : decode cX4_readNumber 26 = .ok (.iload_n 1, 1) := by decide +kernel
theorem dX4_readNumber_27 : decode cX4_readNumber 27 = .ok (.isub, 1) := by decide +kernel
theorem dX4_readNumber_28 : decode cX4_readNumber 28 = .ok (.iconst 2, 1) := by decide +kernel
theorem dX4_readNumber_29 : decode cX4_readNumber 29 = .ok (.if_icmp .ge 34, 3) := by decide +kernel
theorem dX4_readNumber_32 : decode cX4_readNumber 32 = .ok (.iload_n 2, 1) := by decide +kernel
theorem dX4_readNumber_33 : decode cX4_readNumber 33 = .ok (.bipush 10, 2) := by decide +kernel
theorem dX4_readNumber_35 : decode cX4_readNumber 35 = .ok (.imul, 1) := by decide +kernel
theorem dX4_readNumber_36 : decode cX4_readNumber 36 = .ok (.aload_n 0, 1) := by decide +kernel
theorem dX4_readNumber_37 : decode cX4_readNumber 37 = .ok (.getfield 15, 3) := by decide +kernel
theorem dX4_readNumber_40 : decode cX4_readNumber 40 = .ok (.aload_n 0, 1) := by decide +kernel
theorem dX4_readNumber_41 : decode cX4_readNumber 41 = .ok (.getfield 34, 3) := by decide +kernel
theorem dX4_readNumber_44 : decode cX4_readNumber 44 = .ok (.iaload, 1) := by decide +kernel
theorem dX4_readNumber_45 : decode cX4_readNumber 45 = .ok (.iadd, 1) := by decide +kernel
theorem dX4_readNumber_46 : decode cX4_readNumber 46 = .ok (.bipush 48, 2) := by decide +kernel
theorem dX4_readNumber_48 : decode cX4_readNumber 48 = .ok (.isub, 1) := by decide +kernel
theorem dX4_readNumber_49 : decode cX4_readNumber 49 = .ok (.istore_n 2, 1) := by decide +kernel
theorem dX4_readNumber_50 : decode cX4_readNumber 50 = .ok (.aload_n 0, 1) := by decide +kernel
theorem dX4_readNumber_51 : decode cX4_readNumber 51 = .ok (.dup, 1) := by decide +kernel
theorem dX4_readNumber_52 : decode cX4_readNumber 52 = .ok (.getfield 34, 3) := by decide +kernel
theorem dX4_readNumber_55 : decode cX4_readNumber 55 = .ok (.iconst 1, 1) := by decide +kernel
theorem dX4_readNumber_56 : decode cX4_readNumber 56 = .ok (.iadd, 1) := by decide +kernel
theorem dX4_readNumber_57 : decode cX4_readNumber 57 = .ok (.putfield 34, 3) := by decide +kernel
theorem dX4_readNumber_60 : decode cX4_readNumber 60 = .ok (.goto (-49), 3) := by decide +kernel
theorem dX4_readNumber_63 : decode cX4_readNumber 63 = .ok (.aload_n 0, 1) := by decide +kernel
theorem dX4_readNumber_64 : decode cX4_readNumber 64 = .ok (.getfield 34, 3) := by decide +kernel
theorem dX4_readNumber_67 : decode cX4_readNumber 67 = .ok (.iload_n 1, 1) := by decide +kernel
theorem dX4_readNumber_68 : decode cX4_readNumber 68 = .ok (.if_icmp .eq 14, 3) := by decide +kernel
theorem dX4_readNumber_71 : decode cX4_readNumber 71 = .ok (.aload_n 0, 1) := by decide +kernel
theorem dX4_readNumber_72 : decode cX4_readNumber 72 = .ok (.aload_n 0, 1) := by decide +kernel
theorem dX4_readNumber_73 : decode cX4_readNumber 73 = .ok (.getfield 34, 3) := by decide +kernel
theorem dX4_readNumber_76 : decode cX4_readNumber 76 = .ok (.invokevirtual 110, 3) := by decide +kernel
theorem dX4_readNumber_79 : decode cX4_readNumber 79 = .ok (.ifCond .eq 14, 3) := by decide +kernel
theorem dX4_readNumber_82 : decode cX4_readNumber 82 = .ok (.aload_n 0, 1) := by decide +kernel
theorem dX4_readNumber_83 : decode cX4_readNumber 83 = .ok (.aload_n 0, 1) := by decide +kernel
theorem dX4_readNumber_84 : decode cX4_readNumber 84 = .ok (.getfield 34, 3) := by decide +kernel
theorem dX4_readNumber_87 : decode cX4_readNumber 87 = .ok (.invokevirtual 50, 3) := by decide +kernel
theorem dX4_readNumber_90 : decode cX4_readNumber 90 = .ok (.pop, 1) := by decide +kernel
theorem dX4_readNumber_91 : decode cX4_readNumber 91 = .ok (.iconst (-1), 1) := by decide +kernel
theorem dX4_readNumber_92 : decode cX4_readNumber 92 = .ok (.ireturn, 1) := by decide +kernel
theorem dX4_readNumber_93 : decode cX4_readNumber 93 = .ok (.iload_n 2, 1) := by decide +kernel
theorem dX4_readNumber_94 : decode cX4_readNumber 94 = .ok (.ireturn, 1) := by decide +kernel
theorem dX4_isDigitAt_0 : decode cX4_isDigitAt 0 = .ok (.iload_n 1, 1) := by decide +kernel
theorem dX4_isDigitAt_1 : decode cX4_isDigitAt 1 = .ok (.aload_n 0, 1) := by decide +kernel
theorem dX4_isDigitAt_2 : decode cX4_isDigitAt 2 = .ok (.getfield 31, 3) := by decide +kernel
theorem dX4_isDigitAt_5 : decode cX4_isDigitAt 5 = .ok (.if_icmp .ge 29, 3) := by decide +kernel
theorem dX4_isDigitAt_8 : decode cX4_isDigitAt 8 = .ok (.aload_n 0, 1) := by decide +kernel
theorem dX4_isDigitAt_9 : decode cX4_isDigitAt 9 = .ok (.getfield 15, 3) := by decide +kernel
theorem dX4_isDigitAt_12 : decode cX4_isDigitAt 12 = .ok (.iload_n 1, 1) := by decide +kernel
theorem dX4_isDigitAt_13 : decode cX4_isDigitAt 13 = .ok (.iaload, 1) := by decide +kernel
theorem dX4_isDigitAt_14 : decode cX4_isDigitAt 14 = .ok (.bipush 48, 2) := by decide +kernel
theorem dX4_isDigitAt_16 : decode cX4_isDigitAt 16 = .ok (.if_icmp .lt 18, 3) := by decide +kernel
theorem dX4_isDigitAt_19 : decode cX4_isDigitAt 19 = .ok (.aload_n 0, 1) := by decide +kernel
theorem dX4_isDigitAt_20 : decode cX4_isDigitAt 20 = .ok (.getfield 15, 3) := by decide +kernel
theorem dX4_isDigitAt_23 : decode cX4_isDigitAt 23 = .ok (.iload_n 1, 1) := by decide +kernel
theorem dX4_isDigitAt_24 : decode cX4_isDigitAt 24 = .ok (.iaload, 1) := by decide +kernel
theorem dX4_isDigitAt_25 : decode cX4_isDigitAt 25 = .ok (.bipush 57, 2) := by decide +kernel
theorem dX4_isDigitAt_27 : decode cX4_isDigitAt 27 = .ok (.if_icmp .gt 7, 3) := by decide +kernel
theorem dX4_isDigitAt_30 : decode cX4_isDigitAt 30 = .ok (.iconst 1, 1) := by decide +kernel
theorem dX4_isDigitAt_31 : decode cX4_isDigitAt 31 = .ok (.goto 4, 3) := by decide +kernel
theorem dX4_isDigitAt_34 : decode cX4_isDigitAt 34 = .ok (.iconst 0, 1) := by decide +kernel
theorem dX4_isDigitAt_35 : decode cX4_isDigitAt 35 = .ok (.ireturn, 1) := by decide +kernel
theorem dX4_narrow_0 : decode cX4_narrow 0 = .ok (.iload_n 1, 1) := by decide +kernel
theorem dX4_narrow_1 : decode cX4_narrow 1 = .ok (.ifCond .lt 22, 3) := by decide +kernel
theorem dX4_narrow_4 : decode cX4_narrow 4 = .ok (.iload_n 1, 1) := by decide +kernel
theorem dX4_narrow_5 : decode cX4_narrow 5 = .ok (.bipush 11, 2) := by decide +kernel
theorem dX4_narrow_7 : decode cX4_narrow 7 = .ok (.if_icmp .ge 16, 3) := by decide +kernel
theorem dX4_narrow_10 : decode cX4_narrow 10 = .ok (.aload_n 0, 1) := by decide +kernel
theorem dX4_narrow_11 : decode cX4_narrow 11 = .ok (.getfield 9, 3) := by decide +kernel
theorem dX4_narrow_14 : decode cX4_narrow 14 = .ok (.iload_n 1, 1) := by decide +kernel
theorem dX4_narrow_15 : decode cX4_narrow 15 = .ok (.dup2, 1) := by decide +kernel
theorem dX4_narrow_16 : decode cX4_narrow 16 = .ok (.iaload, 1) := by decide +kernel
theorem dX4_narrow_17 : decode cX4_narrow 17 = .ok (.aload_n 0, 1) := by decide +kernel
theorem dX4_narrow_18 : decode cX4_narrow 18 = .ok (.getfield 101, 3) := by decide +kernel
theorem dX4_narrow_21 : decode cX4_narrow 21 = .ok (.iand, 1) := by decide +kernel
theorem dX4_narrow_22 : decode cX4_narrow 22 = .ok (.iastore, 1) := by decide +kernel
theorem dX4_narrow_23 : decode cX4_narrow 23 = .ok (.return_, 1) := by decide +kernel
set_option maxRecDepth 20000 in
theorem ggX4_takes_X4_skipBlanks : GoodIn wsX4_takes wsX4_skipBlanks := goodIn_r _ [8, 1, 2, 3, 9, 10, 11, 12, 13, 14, 15] (by decide +kernel) (by decide +kernel)
set_option maxRecDepth 20000 in
theorem gX4_takes_X4_skipBlanks : GoodIn wsX4_takes (wsV RX4 43 RX4 yX4_skipBlanks wsX4_skipBlanks) := goodIn_app (goodIn_of _ (by decide +kernel)) ggX4_takes_X4_skipBlanks
theorem dX4_takes_0 : decode cX4_takes 0 = .ok (.aload_n 0, 1) := by decide +kernel
theorem dX4_takes_1 : decode cX4_takes 1 = .ok (.invokevirtual 43, 3) := by decide +kernel
theorem dX4_takes_4 : decode cX4_takes 4 = .ok (.aload_n 0, 1) := by decide +kernel
theorem dX4_takes_5 : decode cX4_takes 5 = .ok (.getfield 34, 3) := by decide +kernel
theorem dX4_takes_8 : decode cX4_takes 8 = .ok (.aload_n 0, 1) := by decide +kernel
theorem dX4_takes_9 : decode cX4_takes 9 = .ok (.getfield 31, 3) := by decide +kernel
theorem dX4_takes_12 : decode cX4_takes 12 = .ok (.if_icmp .ge 28, 3) := by decide +kernel
theorem dX4_takes_15 : decode cX4_takes 15 = .ok (.aload_n 0, 1) := by decide +kernel
theorem dX4_takes_16 : decode cX4_takes 16 = .ok (.getfield 15, 3) := by decide +kernel
theorem dX4_takes_19 : decode cX4_takes 19 = .ok (.aload_n 0, 1) := by decide +kernel
theorem dX4_takes_20 : decode cX4_takes 20 = .ok (.getfield 34, 3) := by decide +kernel
theorem dX4_takes_23 : decode cX4_takes 23 = .ok (.iaload, 1) := by decide +kernel
theorem dX4_takes_24 : decode cX4_takes 24 = .ok (.iload_n 1, 1) := by decide +kernel
theorem dX4_takes_25 : decode cX4_takes 25 = .ok (.if_icmp .ne 15, 3) := by decide +kernel
theorem dX4_takes_28 : decode cX4_takes 28 = .ok (.aload_n 0, 1) := by decide +kernel
theorem dX4_takes_29 : decode cX4_takes 29 = .ok (.dup, 1) := by decide +kernel
theorem dX4_takes_30 : decode cX4_takes 30 = .ok (.getfield 34, 3) := by decide +kernel
theorem dX4_takes_33 : decode cX4_takes 33 = .ok (.iconst 1, 1) := by decide +kernel
theorem dX4_takes_34 : decode cX4_takes 34 = .ok (.iadd, 1) := by decide +kernel
theorem dX4_takes_35 : decode cX4_takes 35 = .ok (.putfield 34, 3) := by decide +kernel
theorem dX4_takes_38 : decode cX4_takes 38 = .ok (.iconst 1, 1) := by decide +kernel
theorem dX4_takes_39 : decode cX4_takes 39 = .ok (.ireturn, 1) := by decide +kernel
theorem dX4_takes_40 : decode cX4_takes 40 = .ok (.iconst 0, 1) := by decide +kernel
theorem dX4_takes_41 : decode cX4_takes 41 = .ok (.ireturn, 1) := by decide +kernel
set_option maxRecDepth 20000 in
theorem ggX4_demand_X4_takes : GoodIn wsX4_demand wsX4_takes := goodIn_r _ [6, 1, 7, 8, 9, 10, 11, 5, 12, 18, 19, 20, 21, 22, 23, 24] (by decide +kernel) (by decide +kernel)
set_option maxRecDepth 20000 in
theorem gX4_demand_X4_takes : GoodIn wsX4_demand (wsV RX4 98 RX4 yX4_takes wsX4_takes) := goodIn_app (goodIn_of _ (by decide +kernel)) ggX4_demand_X4_takes
set_option maxRecDepth 20000 in
theorem ggX4_demand_X4_refuse : GoodIn wsX4_demand wsX4_refuse := goodIn_r _ [16, 17, 18, 19, 20, 21, 22, 23, 24] (by decide +kernel) (by decide +kernel)
set_option maxRecDepth 20000 in
theorem gX4_demand_X4_refuse : GoodIn wsX4_demand (wsV RX4 50 RX4 yX4_refuse wsX4_refuse) := goodIn_app (goodIn_of _ (by decide +kernel)) ggX4_demand_X4_refuse
theorem dX4_demand_0 : decode cX4_demand 0 = .ok (.aload_n 0, 1) := by decide +kernel
theorem dX4_demand_1 : decode cX4_demand 1 = .ok (.iload_n 1, 1) := by decide +kernel
theorem dX4_demand_2 : decode cX4_demand 2 = .ok (.invokevirtual 98, 3) := by decide +kernel
theorem dX4_demand_5 : decode cX4_demand 5 = .ok (.ifCond .ne 14, 3) := by decide +kernel
theorem dX4_demand_8 : decode cX4_demand 8 = .ok (.aload_n 0, 1) := by decide +kernel
theorem dX4_demand_9 : decode cX4_demand 9 = .ok (.aload_n 0, 1) := by decide +kernel
theorem dX4_demand_10 : decode cX4_demand 10 = .ok (.getfield 34, 3) := by decide +kernel
theorem dX4_demand_13 : decode cX4_demand 13 = .ok (.invokevirtual 50, 3) := by decide +kernel
theorem dX4_demand_16 : decode cX4_demand 16 = .ok (.ifCond .eq 7, 3) := by decide +kernel
theorem dX4_demand_19 : decode cX4_demand 19 = .ok (.iconst 1, 1) := by decide +kernel
theorem dX4_demand_20 : decode cX4_demand 20 = .ok (.goto 4, 3) := by decide +kernel
theorem dX4_demand_23 : decode cX4_demand 23 = .ok (.iconst 0, 1) := by decide +kernel
theorem dX4_demand_24 : decode cX4_demand 24 = .ok (.ireturn, 1) := by decide +kernel
theorem dX4_refuse_0 : decode cX4_refuse 0 = .ok (.aload_n 0, 1) := by decide +kernel
theorem dX4_refuse_1 : decode cX4_refuse 1 = .ok (.iload_n 1, 1) := by decide +kernel
theorem dX4_refuse_2 : decode cX4_refuse 2 = .ok (.putfield 113, 3) := by decide +kernel
theorem dX4_refuse_5 : decode cX4_refuse 5 = .ok (.iconst 0, 1) := by decide +kernel
theorem dX4_refuse_6 : decode cX4_refuse 6 = .ok (.ireturn, 1) := by decide +kernel
theorem dX4_skipBlanks_0 : decode cX4_skipBlanks 0 = .ok (.aload_n 0, 1) := by decide +kernel
theorem dX4_skipBlanks_1 : decode cX4_skipBlanks 1 = .ok (.getfield 34, 3) := by decide +kernel
theorem dX4_skipBlanks_4 : decode cX4_skipBlanks 4 = .ok (.aload_n 0, 1) := by decide +kernel
theorem dX4_skipBlanks_5 : decode cX4_skipBlanks 5 = .ok (.getfield 31, 3) := by decide +kernel
theorem dX4_skipBlanks_8 : decode cX4_skipBlanks 8 = .ok (.if_icmp .ge 30, 3) := by decide +kernel
theorem dX4_skipBlanks_11 : decode cX4_skipBlanks 11 = .ok (.aload_n 0, 1) := by decide +kernel
theorem dX4_skipBlanks_12 : decode cX4_skipBlanks 12 = .ok (.getfield 15, 3) := by decide +kernel
theorem dX4_skipBlanks_15 : decode cX4_skipBlanks 15 = .ok (.aload_n 0, 1) := by decide +kernel
theorem dX4_skipBlanks_16 : decode cX4_skipBlanks 16 = .ok (.getfield 34, 3) := by decide +kernel
theorem dX4_skipBlanks_19 : decode cX4_skipBlanks 19 = .ok (.iaload, 1) := by decide +kernel
theorem dX4_skipBlanks_20 : decode cX4_skipBlanks 20 = .ok (.bipush 32, 2) := by decide +kernel
theorem dX4_skipBlanks_22 : decode cX4_skipBlanks 22 = .ok (.if_icmp .ne 16, 3) := by decide +kernel
theorem dX4_skipBlanks_25 : decode cX4_skipBlanks 25 = .ok (.aload_n 0, 1) := by decide +kernel
theorem dX4_skipBlanks_26 : decode cX4_skipBlanks 26 = .ok (.dup, 1) := by decide +kernel
theorem dX4_skipBlanks_27 : decode cX4_skipBlanks 27 = .ok (.getfield 34, 3) := by decide +kernel
theorem dX4_skipBlanks_30 : decode cX4_skipBlanks 30 = .ok (.iconst 1, 1) := by decide +kernel
theorem dX4_skipBlanks_31 : decode cX4_skipBlanks 31 = .ok (.iadd, 1) := by decide +kernel
theorem dX4_skipBlanks_32 : decode cX4_skipBlanks 32 = .ok (.putfield 34, 3) := by decide +kernel
theorem dX4_skipBlanks_35 : decode cX4_skipBlanks 35 = .ok (.goto (-35), 3) := by decide +kernel
theorem dX4_skipBlanks_38 : decode cX4_skipBlanks 38 = .ok (.return_, 1) := by decide +kernel
theorem dX5_init_0 : decode cX5_init 0 = .ok (.aload_n 0, 1) := by decide +kernel
theorem dX5_init_1 : decode cX5_init 1 = .ok (.invokespecial 3, 3) := by decide +kernel
theorem dX5_init_4 : decode cX5_init 4 = .ok (.aload_n 0, 1) := by decide +kernel
theorem dX5_init_5 : decode cX5_init 5 = .ok (.bipush 40, 2) := by decide +kernel
theorem dX5_init_7 : decode cX5_init 7 = .ok (.newarray .int, 2) := by decide +kernel
theorem dX5_init_9 : decode cX5_init 9 = .ok (.putfield 9, 3) := by decide +kernel
theorem dX5_init_12 : decode cX5_init 12 = .ok (.aload_n 0, 1) := by decide +kernel
theorem dX5_init_13 : decode cX5_init 13 = .ok (.bipush 30, 2) := by decide +kernel
theorem dX5_init_15 : decode cX5_init 15 = .ok (.newarray .boolean, 2) := by decide +kernel
theorem dX5_init_17 : decode cX5_init 17 = .ok (.putfield 15, 3) := by decide +kernel
theorem dX5_init_20 : decode cX5_init 20 = .ok (.aload_n 0, 1) := by decide +kernel
theorem dX5_init_21 : decode cX5_init 21 = .ok (.bipush 30, 2) := by decide +kernel
theorem dX5_init_23 : decode cX5_init 23 = .ok (.newarray .int, 2) := by decide +kernel
theorem dX5_init_25 : decode cX5_init 25 = .ok (.putfield 19, 3) := by decide +kernel
theorem dX5_init_28 : decode cX5_init 28 = .ok (.aload_n 0, 1) := by decide +kernel
theorem dX5_init_29 : decode cX5_init 29 = .ok (.bipush 120, 2) := by decide +kernel
theorem dX5_init_31 : decode cX5_init 31 = .ok (.newarray .int, 2) := by decide +kernel
theorem dX5_init_33 : decode cX5_init 33 = .ok (.putfield 22, 3) := by decide +kernel
theorem dX5_init_36 : decode cX5_init 36 = .ok (.aload_n 0, 1) := by decide +kernel
theorem dX5_init_37 : decode cX5_init 37 = .ok (.bipush 30, 2) := by decide +kernel
theorem dX5_init_39 : decode cX5_init 39 = .ok (.newarray .int, 2) := by decide +kernel
theorem dX5_init_41 : decode cX5_init 41 = .ok (.putfield 25, 3) := by decide +kernel
theorem dX5_init_44 : decode cX5_init 44 = .ok (.aload_n 0, 1) := by decide +kernel
theorem dX5_init_45 : decode cX5_init 45 = .ok (.bipush 30, 2) := by decide +kernel
theorem dX5_init_47 : decode cX5_init 47 = .ok (.newarray .int, 2) := by decide +kernel
theorem dX5_init_49 : decode cX5_init 49 = .ok (.putfield 28, 3) := by decide +kernel
theorem dX5_init_52 : decode cX5_init 52 = .ok (.aload_n 0, 1) := by decide +kernel
theorem dX5_init_53 : decode cX5_init 53 = .ok (.iconst (-1), 1) := by decide +kernel
theorem dX5_init_54 : decode cX5_init 54 = .ok (.putfield 31, 3) := by decide +kernel
theorem dX5_init_57 : decode cX5_init 57 = .ok (.return_, 1) := by decide +kernel
theorem dX5_add_0 : decode cX5_add 0 = .ok (.aload_n 0, 1) := by decide +kernel
theorem dX5_add_1 : decode cX5_add 1 = .ok (.getfield 35, 3) := by decide +kernel
theorem dX5_add_4 : decode cX5_add 4 = .ok (.istore_n 2, 1) := by decide +kernel
theorem dX5_add_5 : decode cX5_add 5 = .ok (.aload_n 0, 1) := by decide +kernel
theorem dX5_add_6 : decode cX5_add 6 = .ok (.getfield 35, 3) := by decide +kernel
theorem dX5_add_9 : decode cX5_add 9 = .ok (.iconst 1, 1) := by decide +kernel
theorem dX5_add_10 : decode cX5_add 10 = .ok (.isub, 1) := by decide +kernel
theorem dX5_add_11 : decode cX5_add 11 = .ok (.istore_n 3, 1) := by decide +kernel
theorem dX5_add_12 : decode cX5_add 12 = .ok (.iload_n 3, 1) := by decide +kernel
theorem dX5_add_13 : decode cX5_add 13 = .ok (.ifCond .lt 21, 3) := by decide +kernel
theorem dX5_add_16 : decode cX5_add 16 = .ok (.aload_n 0, 1) := by decide +kernel
theorem dX5_add_17 : decode cX5_add 17 = .ok (.getfield 9, 3) := by decide +kernel
theorem dX5_add_20 : decode cX5_add 20 = .ok (.iload_n 3, 1) := by decide +kernel
theorem dX5_add_21 : decode cX5_add 21 = .ok (.iaload, 1) := by decide +kernel
theorem dX5_add_22 : decode cX5_add 22 = .ok (.iload_n 1, 1) := by decide +kernel
theorem dX5_add_23 : decode cX5_add 23 = .ok (.if_icmp .lt 11, 3) := by decide +kernel
theorem dX5_add_26 : decode cX5_add 26 = .ok (.iload_n 3, 1) := by decide +kernel
theorem dX5_add_27 : decode cX5_add 27 = .ok (.istore_n 2, 1) := by decide +kernel
theorem dX5_add_28 : decode cX5_add 28 = .ok (.iinc 3 (-1), 3) := by decide +kernel
theorem dX5_add_31 : decode cX5_add 31 = .ok (.goto (-19), 3) := by decide +kernel
theorem dX5_add_34 : decode cX5_add 34 = .ok (.iload_n 2, 1) := by decide +kernel
theorem dX5_add_35 : decode cX5_add 35 = .ok (.aload_n 0, 1) := by decide +kernel
theorem dX5_add_36 : decode cX5_add 36 = .ok (.getfield 35, 3) := by decide +kernel
theorem dX5_add_39 : decode cX5_add 39 = .ok (.if_icmp .ge 15, 3) := by decide +kernel
theorem dX5_add_42 : decode cX5_add 42 = .ok (.aload_n 0, 1) := by decide +kernel
theorem dX5_add_43 : decode cX5_add 43 = .ok (.getfield 9, 3) := by decide +kernel
theorem dX5_add_46 : decode cX5_add 46 = .ok (.iload_n 2, 1) := by decide +kernel
theorem dX5_add_47 : decode cX5_add 47 = .ok (.iaload, 1) := by decide +kernel
theorem dX5_add_48 : decode cX5_add 48 = .ok (.iload_n 1, 1) := by decide +kernel
theorem dX5_add_49 : decode cX5_add 49 = .ok (.if_icmp .ne 5, 3) := by decide +kernel
theorem dX5_add_52 : decode cX5_add 52 = .ok (.iconst (-1), 1) := by decide +kernel
theorem dX5_add_53 : decode cX5_add 53 = .ok (.ireturn, 1) := by decide +kernel
theorem dX5_add_54 : decode cX5_add 54 = .ok (.aload_n 0, 1) := by decide +kernel
theorem dX5_add_55 : decode cX5_add 55 = .ok (.getfield 35, 3) := by decide +kernel
theorem dX5_add_58 : decode cX5_add 58 = .ok (.bipush 40, 2) := by decide +kernel
theorem dX5_add_60 : decode cX5_add 60 = .ok (.if_icmp .lt 6, 3) := by decide +kernel
theorem dX5_add_63 : decode cX5_add 63 = .ok (.bipush (-2), 2) := by decide +kernel
theorem dX5_add_65 : decode cX5_add 65 = .ok (.ireturn, 1) := by decide +kernel
theorem dX5_add_66 : decode cX5_add 66 = .ok (.aload_n 0, 1) := by decide +kernel
theorem dX5_add_67 : decode cX5_add 67 = .ok (.getfield 9, 3) := by decide +kernel
theorem dX5_add_70 : decode cX5_add 70 = .ok (.iload_n 2, 1) := by decide +kernel
theorem dX5_add_71 : decode cX5_add 71 = .ok (.aload_n 0, 1) := by decide +kernel
theorem dX5_add_72 : decode cX5_add 72 = .ok (.getfield 9, 3) := by decide +kernel
theorem dX5_add_75 : decode cX5_add 75 = .ok (.iload_n 2, 1) := by decide +kernel
theorem dX5_add_76 : decode cX5_add 76 = .ok (.iconst 1, 1) := by decide +kernel
theorem dX5_add_77 : decode cX5_add 77 = .ok (.iadd, 1) := by decide +kernel
theorem dX5_add_78 : decode cX5_add 78 = .ok (.aload_n 0, 1) := by decide +kernel
theorem dX5_add_79 : decode cX5_add 79 = .ok (.getfield 35, 3) := by decide +kernel
theorem dX5_add_82 : decode cX5_add 82 = .ok (.iload_n 2, 1) := by decide +kernel
theorem dX5_add_83 : decode cX5_add 83 = .ok (.isub, 1) := by decide +kernel
theorem dX5_add_84 : decode cX5_add 84 = .ok (.invokestatic 38, 3) := by decide +kernel
theorem dX5_add_87 : decode cX5_add 87 = .ok (.aload_n 0, 1) := by decide +kernel
theorem dX5_add_88 : decode cX5_add 88 = .ok (.getfield 9, 3) := by decide +kernel
theorem dX5_add_91 : decode cX5_add 91 = .ok (.iload_n 2, 1) := by decide +kernel
theorem dX5_add_92 : decode cX5_add 92 = .ok (.iload_n 1, 1) := by decide +kernel
theorem dX5_add_93 : decode cX5_add 93 = .ok (.iastore, 1) := by decide +kernel
theorem dX5_add_94 : decode cX5_add 94 = .ok (.aload_n 0, 1) := by decide +kernel
theorem dX5_add_95 : decode cX5_add 95 = .ok (.dup, 1) := by decide +kernel
theorem dX5_add_96 : decode cX5_add 96 = .ok (.getfield 35, 3) := by decide +kernel
theorem dX5_add_99 : decode cX5_add 99 = .ok (.iconst 1, 1) := by decide +kernel
theorem dX5_add_100 : decode cX5_add 100 = .ok (.iadd, 1) := by decide +kernel
theorem dX5_add_101 : decode cX5_add 101 = .ok (.putfield 35, 3) := by decide +kernel
theorem dX5_add_104 : decode cX5_add 104 = .ok (.aload_n 0, 1) := by decide +kernel
theorem dX5_add_105 : decode cX5_add 105 = .ok (.iconst (-1), 1) := by decide +kernel
theorem dX5_add_106 : decode cX5_add 106 = .ok (.putfield 31, 3) := by decide +kernel
theorem dX5_add_109 : decode cX5_add 109 = .ok (.aload_n 0, 1) := by decide +kernel
theorem dX5_add_110 : decode cX5_add 110 = .ok (.getfield 35, 3) := by decide +kernel
theorem dX5_add_113 : decode cX5_add 113 = .ok (.ireturn, 1) := by decide +kernel
theorem dX5_tell_0 : decode cX5_tell 0 = .ok (.iload_n 1, 1) := by decide +kernel
theorem dX5_tell_1 : decode cX5_tell 1 = .ok (.ifCond .lt 9, 3) := by decide +kernel
theorem dX5_tell_4 : decode cX5_tell 4 = .ok (.iload_n 1, 1) := by decide +kernel
theorem dX5_tell_5 : decode cX5_tell 5 = .ok (.bipush 30, 2) := by decide +kernel
theorem dX5_tell_7 : decode cX5_tell 7 = .ok (.if_icmp .lt 5, 3) := by decide +kernel
theorem dX5_tell_10 : decode cX5_tell 10 = .ok (.iconst 0, 1) := by decide +kernel
theorem dX5_tell_11 : decode cX5_tell 11 = .ok (.ireturn, 1) := by decide +kernel
theorem dX5_tell_12 : decode cX5_tell 12 = .ok (.aload_n 0, 1) := by decide +kernel
theorem dX5_tell_13 : decode cX5_tell 13 = .ok (.getfield 15, 3) := by decide +kernel
theorem dX5_tell_16 : decode cX5_tell 16 = .ok (.iload_n 1, 1) := by decide +kernel
theorem dX5_tell_17 : decode cX5_tell 17 = .ok (.baload, 1) := by decide +kernel
theorem dX5_tell_18 : decode cX5_tell 18 = .ok (.istore 4, 2) := by decide +kernel
theorem dX5_tell_20 : decode cX5_tell 20 = .ok (.iload 4, 2) := by decide +kernel
theorem dX5_tell_22 : decode cX5_tell 22 = .ok (.iload_n 3, 1) := by decide +kernel
theorem dX5_tell_23 : decode cX5_tell 23 = .ok (.if_icmp .eq 40, 3) := by decide +kernel
theorem dX5_tell_26 : decode cX5_tell 26 = .ok (.aload_n 0, 1) := by decide +kernel
theorem dX5_tell_27 : decode cX5_tell 27 = .ok (.getfield 15, 3) := by decide +kernel
theorem dX5_tell_30 : decode cX5_tell 30 = .ok (.iload_n 1, 1) := by decide +kernel
theorem dX5_tell_31 : decode cX5_tell 31 = .ok (.iload_n 3, 1) := by decide +kernel
theorem dX5_tell_32 : decode cX5_tell 32 = .ok (.bastore, 1) := by decide +kernel
theorem dX5_tell_33 : decode cX5_tell 33 = .ok (.aload_n 0, 1) := by decide +kernel
theorem dX5_tell_34 : decode cX5_tell 34 = .ok (.getfield 19, 3) := by decide +kernel
theorem dX5_tell_37 : decode cX5_tell 37 = .ok (.iload_n 1, 1) := by decide +kernel
theorem dX5_tell_38 : decode cX5_tell 38 = .ok (.iload_n 2, 1) := by decide +kernel
theorem dX5_tell_39 : decode cX5_tell 39 = .ok (.iastore, 1) := by decide +kernel
theorem dX5_tell_40 : decode cX5_tell 40 = .ok (.aload_n 0, 1) := by decide +kernel
theorem dX5_tell_41 : decode cX5_tell 41 = .ok (.dup, 1) := by decide +kernel
theorem dX5_tell_42 : decode cX5_tell 42 = .ok (.getfield 44, 3) := by decide +kernel
theorem dX5_tell_45 : decode cX5_tell 45 = .ok (.iload_n 3, 1) := by decide +kernel
theorem dX5_tell_46 : decode cX5_tell 46 = .ok (.ifCond .eq 7, 3) := by decide +kernel
theorem dX5_tell_49 : decode cX5_tell 49 = .ok (.iconst 1, 1) := by decide +kernel
theorem dX5_tell_50 : decode cX5_tell 50 = .ok (.goto 4, 3) := by decide +kernel
theorem dX5_tell_53 : decode cX5_tell 53 = .ok (.iconst (-1), 1) := by decide +kernel
theorem dX5_tell_54 : decode cX5_tell 54 = .ok (.iadd, 1) := by decide +kernel
theorem dX5_tell_55 : decode cX5_tell 55 = .ok (.putfield 44, 3) := by decide +kernel
theorem dX5_tell_58 : decode cX5_tell 58 = .ok (.aload_n 0, 1) := by decide +kernel
theorem dX5_tell_59 : decode cX5_tell 59 = .ok (.iconst (-1), 1) := by decide +kernel
theorem dX5_tell_60 : decode cX5_tell 60 = .ok (.putfield 31, 3) := by decide +kernel
theorem dX5_tell_63 : decode cX5_tell 63 = .ok (.iload 4, 2) := by decide +kernel
theorem dX5_tell_65 : decode cX5_tell 65 = .ok (.ireturn, 1) := by decide +kernel
set_option maxRecDepth 20000 in
theorem ggX5_solve_X5_placeTurns : GoodIn wsX5_solve wsX5_placeTurns := goodIn_r _ [14, 6, 15, 16, 17, 18, 19, 20, 21, 22, 7, 44, 45, 46, 47, 48, 49, 50, 51, 52, 53, 54, 55, 56, 57, 58] (by decide +kernel) (by decide +kernel)
set_option maxRecDepth 20000 in
theorem gX5_solve_X5_placeTurns : GoodIn wsX5_solve (wsV RX5 47 RX5 yX5_placeTurns wsX5_placeTurns) := goodIn_app (goodIn_of _ (by decide +kernel)) ggX5_solve_X5_placeTurns
set_option maxRecDepth 20000 in
theorem ggX5_solve_X5_gatherDates : GoodIn wsX5_solve wsX5_gatherDates := goodIn_r _ [26, 27, 9, 28, 8, 44, 45, 46, 47, 48, 49, 50, 51, 52, 53, 54, 55, 56, 57, 58] (by decide +kernel) (by decide +kernel)
set_option maxRecDepth 20000 in
theorem gX5_solve_X5_gatherDates : GoodIn wsX5_solve (wsV RX5 51 RX5 yX5_gatherDates wsX5_gatherDates) := goodIn_app (goodIn_of _ (by decide +kernel)) ggX5_solve_X5_gatherDates
set_option maxRecDepth 20000 in
theorem ggX5_solve_X5_firstToTurn : GoodIn wsX5_solve wsX5_firstToTurn := goodIn_r _ [32, 8, 6, 7, 9, 44, 45, 46, 47, 48, 49, 50, 51, 52, 53, 54, 55, 56, 57, 58] (by decide +kernel) (by decide +kernel)
set_option maxRecDepth 20000 in
theorem gX5_solve_X5_firstToTurn : GoodIn wsX5_solve (wsV RX5 68 RX5 yX5_firstToTurn wsX5_firstToTurn) := goodIn_app (goodIn_of _ (by decide +kernel)) ggX5_solve_X5_firstToTurn
set_option maxRecDepth 20000 in
theorem ggX5_solve_X5_consider : GoodIn wsX5_solve wsX5_consider := goodIn_r _ [36, 4, 3, 2, 5, 37, 38, 44, 45, 46, 47, 48, 49, 50, 51, 52, 53, 54, 55, 56, 57, 58] (by decide +kernel) (by decide +kernel)
set_option maxRecDepth 20000 in
theorem gX5_solve_X5_consider : GoodIn wsX5_solve (wsV RX5 72 RX5 yX5_consider wsX5_consider) := goodIn_app (goodIn_of _ (by decide +kernel)) ggX5_solve_X5_consider
set_option maxRecDepth 20000 in
theorem ggX5_solve_X5_turn : GoodIn wsX5_solve wsX5_turn := goodIn_r _ [42, 8, 7, 9, 4, 43, 3, 2, 44, 45, 46, 47, 48, 49, 50, 51, 52, 53, 54, 55, 56, 57, 58] (by decide +kernel) (by decide +kernel)
set_option maxRecDepth 20000 in
theorem gX5_solve_X5_turn : GoodIn wsX5_solve (wsV RX5 75 RX5 yX5_turn wsX5_turn) := goodIn_app (goodIn_of _ (by decide +kernel)) ggX5_solve_X5_turn
theorem dX5_solve_0 : decode cX5_solve 0 = .ok (.aload_n 0, 1) := by decide +kernel
theorem dX5_solve_1 : decode cX5_solve 1 = .ok (.getfield 31, 3) := by decide +kernel
theorem dX5_solve_4 : decode cX5_solve 4 = .ok (.iload_n 1, 1) := by decide +kernel
theorem dX5_solve_5 : decode cX5_solve 5 = .ok (.if_icmp .ne 4, 3) := by decide +kernel
theorem dX5_solve_8 : decode cX5_solve 8 = .ok (.return_, 1) := by decide +kernel
theorem dX5_solve_9 : decode cX5_solve 9 = .ok (.aload_n 0, 1) := by decide +kernel
theorem dX5_solve_10 : decode cX5_solve 10 = .ok (.iload_n 1, 1) := by decide +kernel
theorem dX5_solve_11 : decode cX5_solve 11 = .ok (.putfield 31, 3) := by decide +kernel
theorem dX5_solve_14 : decode cX5_solve 14 = .ok (.aload_n 0, 1) := by decide +kernel
theorem dX5_solve_15 : decode cX5_solve 15 = .ok (.iload_n 1, 1) := by decide +kernel
theorem dX5_solve_16 : decode cX5_solve 16 = .ok (.invokevirtual 47, 3) := by decide +kernel
theorem dX5_solve_19 : decode cX5_solve 19 = .ok (.aload_n 0, 1) := by decide +kernel
theorem dX5_solve_20 : decode cX5_solve 20 = .ok (.invokevirtual 51, 3) := by decide +kernel
theorem dX5_solve_23 : decode cX5_solve 23 = .ok (.istore_n 2, 1) := by decide +kernel
theorem dX5_solve_24 : decode cX5_solve 24 = .ok (.aload_n 0, 1) := by decide +kernel
theorem dX5_solve_25 : decode cX5_solve 25 = .ok (.iconst 0, 1) := by decide +kernel
theorem dX5_solve_26 : decode cX5_solve 26 = .ok (.putfield 55, 3) := by decide +kernel
theorem dX5_solve_29 : decode cX5_solve 29 = .ok (.aload_n 0, 1) := by decide +kernel
theorem dX5_solve_30 : decode cX5_solve 30 = .ok (.iconst 0, 1) := by decide +kernel
theorem dX5_solve_31 : decode cX5_solve 31 = .ok (.putfield 58, 3) := by decide +kernel
theorem dX5_solve_34 : decode cX5_solve 34 = .ok (.aload_n 0, 1) := by decide +kernel
theorem dX5_solve_35 : decode cX5_solve 35 = .ok (.lconst 0, 1) := by decide +kernel
theorem dX5_solve_36 : decode cX5_solve 36 = .ok (.putfield 61, 3) := by decide +kernel
theorem dX5_solve_39 : decode cX5_solve 39 = .ok (.aload_n 0, 1) := by decide +kernel
theorem dX5_solve_40 : decode cX5_solve 40 = .ok (.iconst 0, 1) := by decide +kernel
theorem dX5_solve_41 : decode cX5_solve 41 = .ok (.putfield 65, 3) := by decide +kernel
theorem dX5_solve_44 : decode cX5_solve 44 = .ok (.iconst 0, 1) := by decide +kernel
theorem dX5_solve_45 : decode cX5_solve 45 = .ok (.istore_n 3, 1) := by decide +kernel
theorem dX5_solve_46 : decode cX5_solve 46 = .ok (.iconst 3, 1) := by decide +kernel
theorem dX5_solve_47 : decode cX5_solve 47 = .ok (.aload_n 0, 1) := by decide +kernel
theorem dX5_solve_48 : decode cX5_solve 48 = .ok (.getfield 35, 3) := by decide +kernel
theorem dX5_solve_51 : decode cX5_solve 51 = .ok (.imul, 1) := by decide +kernel
theorem dX5_solve_52 : decode cX5_solve 52 = .ok (.iload_n 2, 1) := by decide +kernel
theorem dX5_solve_53 : decode cX5_solve 53 = .ok (.imul, 1) := by decide +kernel
theorem dX5_solve_54 : decode cX5_solve 54 = .ok (.istore 4, 2) := by decide +kernel
theorem dX5_solve_56 : decode cX5_solve 56 = .ok (.iconst 0, 1) := by decide +kernel
theorem dX5_solve_57 : decode cX5_solve 57 = .ok (.istore 5, 2) := by decide +kernel
theorem dX5_solve_59 : decode cX5_solve 59 = .ok (.iload 5, 2) := by decide +kernel
theorem dX5_solve_61 : decode cX5_solve 61 = .ok (.iload 4, 2) := by decide +kernel
theorem dX5_solve_63 : decode cX5_solve 63 = .ok (.if_icmp .ge 77, 3) := by decide +kernel
theorem dX5_solve_66 : decode cX5_solve 66 = .ok (.aload_n 0, 1) := by decide +kernel
theorem dX5_solve_67 : decode cX5_solve 67 = .ok (.iload_n 2, 1) := by decide +kernel
theorem dX5_solve_68 : decode cX5_solve 68 = .ok (.invokevirtual 68, 3) := by decide +kernel
theorem dX5_solve_71 : decode cX5_solve 71 = .ok (.istore 6, 2) := by decide +kernel
theorem dX5_solve_73 : decode cX5_solve 73 = .ok (.iload 6, 2) := by decide +kernel
theorem dX5_solve_75 : decode cX5_solve 75 = .ok (.ifCond .ge 4, 3) := by decide +kernel
theorem dX5_solve_78 : decode cX5_solve 78 = .ok (.return_, 1) := by decide +kernel
theorem dX5_solve_79 : decode cX5_solve 79 = .ok (.aload_n 0, 1) := by decide +kernel
theorem dX5_solve_80 : decode cX5_solve 80 = .ok (.getfield 22, 3) := by decide +kernel
theorem dX5_solve_83 : decode cX5_solve 83 = .ok (.aload_n 0, 1) := by decide +kernel
theorem dX5_solve_84 : decode cX5_solve 84 = .ok (.getfield 28, 3) := by decide +kernel
theorem dX5_solve_87 : decode cX5_solve 87 = .ok (.iload 6, 2) := by decide +kernel
theorem dX5_solve_89 : decode cX5_solve 89 = .ok (.iaload, 1) := by decide +kernel
theorem dX5_solve_90 : decode cX5_solve 90 = .ok (.iaload, 1) := by decide +kernel
theorem dX5_solve_91 : decode cX5_solve 91 = .ok (.aload_n 0, 1) := by decide +kernel
theorem dX5_solve_92 : decode cX5_solve 92 = .ok (.getfield 25, 3) := by decide +kernel
theorem dX5_solve_95 : decode cX5_solve 95 = .ok (.iload 6, 2) := by decide +kernel
theorem dX5_solve_97 : decode cX5_solve 97 = .ok (.iaload, 1) := by decide +kernel
theorem dX5_solve_98 : decode cX5_solve 98 = .ok (.isub, 1) := by decide +kernel
theorem dX5_solve_99 : decode cX5_solve 99 = .ok (.istore 7, 2) := by decide +kernel
theorem dX5_solve_101 : decode cX5_solve 101 = .ok (.iload 5, 2) := by decide +kernel
theorem dX5_solve_103 : decode cX5_solve 103 = .ok (.ifCond .le 22, 3) := by decide +kernel
theorem dX5_solve_106 : decode cX5_solve 106 = .ok (.iload 7, 2) := by decide +kernel
theorem dX5_solve_108 : decode cX5_solve 108 = .ok (.iload_n 3, 1) := by decide +kernel
theorem dX5_solve_109 : decode cX5_solve 109 = .ok (.if_icmp .le 16, 3) := by decide +kernel
theorem dX5_solve_112 : decode cX5_solve 112 = .ok (.aload_n 0, 1) := by decide +kernel
theorem dX5_solve_113 : decode cX5_solve 113 = .ok (.iload_n 3, 1) := by decide +kernel
theorem dX5_solve_114 : decode cX5_solve 114 = .ok (.invokevirtual 72, 3) := by decide +kernel
theorem dX5_solve_117 : decode cX5_solve 117 = .ok (.aload_n 0, 1) := by decide +kernel
theorem dX5_solve_118 : decode cX5_solve 118 = .ok (.iload 7, 2) := by decide +kernel
theorem dX5_solve_120 : decode cX5_solve 120 = .ok (.iconst 1, 1) := by decide +kernel
theorem dX5_solve_121 : decode cX5_solve 121 = .ok (.isub, 1) := by decide +kernel
theorem dX5_solve_122 : decode cX5_solve 122 = .ok (.invokevirtual 72, 3) := by decide +kernel
theorem dX5_solve_125 : decode cX5_solve 125 = .ok (.iload 7, 2) := by decide +kernel
theorem dX5_solve_127 : decode cX5_solve 127 = .ok (.istore_n 3, 1) := by decide +kernel
theorem dX5_solve_128 : decode cX5_solve 128 = .ok (.aload_n 0, 1) := by decide +kernel
theorem dX5_solve_129 : decode cX5_solve 129 = .ok (.iload 6, 2) := by decide +kernel
theorem dX5_solve_131 : decode cX5_solve 131 = .ok (.invokevirtual 75, 3) := by decide +kernel
theorem dX5_solve_134 : decode cX5_solve 134 = .ok (.iinc 5 1, 3) := by decide +kernel
theorem dX5_solve_137 : decode cX5_solve 137 = .ok (.goto (-78), 3) := by decide +kernel
theorem dX5_solve_140 : decode cX5_solve 140 = .ok (.return_, 1) := by decide +kernel
theorem dX5_placeTurns_0 : decode cX5_placeTurns 0 = .ok (.iconst 0, 1) := by decide +kernel
theorem dX5_placeTurns_1 : decode cX5_placeTurns 1 = .ok (.istore_n 2, 1) := by decide +kernel
theorem dX5_placeTurns_2 : decode cX5_placeTurns 2 = .ok (.iload_n 2, 1) := by decide +kernel
theorem dX5_placeTurns_3 : decode cX5_placeTurns 3 = .ok (.aload_n 0, 1) := by decide +kernel
theorem dX5_placeTurns_4 : decode cX5_placeTurns 4 = .ok (.getfield 35, 3) := by decide +kernel
theorem dX5_placeTurns_7 : decode cX5_placeTurns 7 = .ok (.if_icmp .ge 129, 3) := by decide +kernel
theorem dX5_placeTurns_10 : decode cX5_placeTurns 10 = .ok (.aload_n 0, 1) := by decide +kernel
theorem dX5_placeTurns_11 : decode cX5_placeTurns 11 = .ok (.getfield 9, 3) := by decide +kernel
theorem dX5_placeTurns_14 : decode cX5_placeTurns 14 = .ok (.iload_n 2, 1) := by decide +kernel
theorem dX5_placeTurns_15 : decode cX5_placeTurns 15 = .ok (.iaload, 1) := by decide +kernel
theorem dX5_placeTurns_16 : decode cX5_placeTurns 16 = .ok (.iload_n 1, 1) := by decide +kernel
theorem dX5_placeTurns_17 : decode cX5_placeTurns 17 = .ok (.isub, 1) := by decide +kernel
theorem dX5_placeTurns_18 : decode cX5_placeTurns 18 = .ok (.istore_n 3, 1) := by decide +kernel
theorem dX5_placeTurns_19 : decode cX5_placeTurns 19 = .ok (.aload_n 0, 1) := by decide +kernel
theorem dX5_placeTurns_20 : decode cX5_placeTurns 20 = .ok (.getfield 9, 3) := by decide +kernel
theorem dX5_placeTurns_23 : decode cX5_placeTurns 23 = .ok (.iload_n 2, 1) := by decide +kernel
theorem dX5_placeTurns_24 : decode cX5_placeTurns 24 = .ok (.iaload, 1) := by decide +kernel
theorem dX5_placeTurns_25 : decode cX5_placeTurns 25 = .ok (.iload_n 1, 1) := by decide +kernel
theorem dX5_placeTurns_26 : decode cX5_placeTurns 26 = .ok (.iadd, 1) := by decide +kernel
theorem dX5_placeTurns_27 : decode cX5_placeTurns 27 = .ok (.istore 4, 2) := by decide +kernel
theorem dX5_placeTurns_29 : decode cX5_placeTurns 29 = .ok (.iload_n 2, 1) := by decide +kernel
theorem dX5_placeTurns_30 : decode cX5_placeTurns 30 = .ok (.ifCond .le 27, 3) := by decide +kernel
theorem dX5_placeTurns_33 : decode cX5_placeTurns 33 = .ok (.iload_n 3, 1) := by decide +kernel
theorem dX5_placeTurns_34 : decode cX5_placeTurns 34 = .ok (.aload_n 0, 1) := by decide +kernel
theorem dX5_placeTurns_35 : decode cX5_placeTurns 35 = .ok (.getfield 9, 3) := by decide +kernel
theorem dX5_placeTurns_38 : decode cX5_placeTurns 38 = .ok (.iload_n 2, 1) := by decide +kernel
theorem dX5_placeTurns_39 : decode cX5_placeTurns 39 = .ok (.iconst 1, 1) := by decide +kernel
theorem dX5_placeTurns_40 : decode cX5_placeTurns 40 = .ok (.isub, 1) := by decide +kernel
theorem dX5_placeTurns_41 : decode cX5_placeTurns 41 = .ok (.iaload, 1) := by decide +kernel
theorem dX5_placeTurns_42 : decode cX5_placeTurns 42 = .ok (.aload_n 0, 1) := by decide +kernel
theorem dX5_placeTurns_43 : decode cX5_placeTurns 43 = .ok (.getfield 9, 3) := by decide +kernel
theorem dX5_placeTurns_46 : decode cX5_placeTurns 46 = .ok (.iload_n 2, 1) := by decide +kernel
theorem dX5_placeTurns_47 : decode cX5_placeTurns 47 = .ok (.iaload, 1) := by decide +kernel
theorem dX5_placeTurns_48 : decode cX5_placeTurns 48 = .ok (.iadd, 1) := by decide +kernel
theorem dX5_placeTurns_49 : decode cX5_placeTurns 49 = .ok (.iconst 2, 1) := by decide +kernel
theorem dX5_placeTurns_50 : decode cX5_placeTurns 50 = .ok (.idiv, 1) := by decide +kernel
theorem dX5_placeTurns_51 : decode cX5_placeTurns 51 = .ok (.iconst 1, 1) := by decide +kernel
theorem dX5_placeTurns_52 : decode cX5_placeTurns 52 = .ok (.iadd, 1) := by decide +kernel
theorem dX5_placeTurns_53 : decode cX5_placeTurns 53 = .ok (.invokestatic 78, 3) := by decide +kernel
theorem dX5_placeTurns_56 : decode cX5_placeTurns 56 = .ok (.istore_n 3, 1) := by decide +kernel
theorem dX5_placeTurns_57 : decode cX5_placeTurns 57 = .ok (.iload_n 2, 1) := by decide +kernel
theorem dX5_placeTurns_58 : decode cX5_placeTurns 58 = .ok (.iconst 1, 1) := by decide +kernel
theorem dX5_placeTurns_59 : decode cX5_placeTurns 59 = .ok (.iadd, 1) := by decide +kernel
theorem dX5_placeTurns_60 : decode cX5_placeTurns 60 = .ok (.aload_n 0, 1) := by decide +kernel
theorem dX5_placeTurns_61 : decode cX5_placeTurns 61 = .ok (.getfield 35, 3) := by decide +kernel
theorem dX5_placeTurns_64 : decode cX5_placeTurns 64 = .ok (.if_icmp .ge 27, 3) := by decide +kernel
theorem dX5_placeTurns_67 : decode cX5_placeTurns 67 = .ok (.iload 4, 2) := by decide +kernel
theorem dX5_placeTurns_69 : decode cX5_placeTurns 69 = .ok (.aload_n 0, 1) := by decide +kernel
theorem dX5_placeTurns_70 : decode cX5_placeTurns 70 = .ok (.getfield 9, 3) := by decide +kernel
theorem dX5_placeTurns_73 : decode cX5_placeTurns 73 = .ok (.iload_n 2, 1) := by decide +kernel
theorem dX5_placeTurns_74 : decode cX5_placeTurns 74 = .ok (.iaload, 1) := by decide +kernel
theorem dX5_placeTurns_75 : decode cX5_placeTurns 75 = .ok (.aload_n 0, 1) := by decide +kernel
theorem dX5_placeTurns_76 : decode cX5_placeTurns 76 = .ok (.getfield 9, 3) := by decide +kernel
theorem dX5_placeTurns_79 : decode cX5_placeTurns 79 = .ok (.iload_n 2, 1) := by decide +kernel
theorem dX5_placeTurns_80 : decode cX5_placeTurns 80 = .ok (.iconst 1, 1) := by decide +kernel
theorem dX5_placeTurns_81 : decode cX5_placeTurns 81 = .ok (.iadd, 1) := by decide +kernel
theorem dX5_placeTurns_82 : decode cX5_placeTurns 82 = .ok (.iaload, 1) := by decide +kernel
theorem dX5_placeTurns_83 : decode cX5_placeTurns 83 = .ok (.iadd, 1) := by decide +kernel
theorem dX5_placeTurns_84 : decode cX5_placeTurns 84 = .ok (.iconst 2, 1) := by decide +kernel
theorem dX5_placeTurns_85 : decode cX5_placeTurns 85 = .ok (.idiv, 1) := by decide +kernel
theorem dX5_placeTurns_86 : decode cX5_placeTurns 86 = .ok (.invokestatic 84, 3) := by decide +kernel
theorem dX5_placeTurns_89 : decode cX5_placeTurns 89 = .ok (.istore 4, 2) := by decide +kernel
theorem dX5_placeTurns_91 : decode cX5_placeTurns 91 = .ok (.aload_n 0, 1) := by decide +kernel
theorem dX5_placeTurns_92 : decode cX5_placeTurns 92 = .ok (.getfield 22, 3) := by decide +kernel
theorem dX5_placeTurns_95 : decode cX5_placeTurns 95 = .ok (.iconst 3, 1) := by decide +kernel
theorem dX5_placeTurns_96 : decode cX5_placeTurns 96 = .ok (.iload_n 2, 1) := by decide +kernel
theorem dX5_placeTurns_97 : decode cX5_placeTurns 97 = .ok (.imul, 1) := by decide +kernel
theorem dX5_placeTurns_98 : decode cX5_placeTurns 98 = .ok (.iload_n 3, 1) := by decide +kernel
theorem dX5_placeTurns_99 : decode cX5_placeTurns 99 = .ok (.iastore, 1) := by decide +kernel
theorem dX5_placeTurns_100 : decode cX5_placeTurns 100 = .ok (.aload_n 0, 1) := by decide +kernel
theorem dX5_placeTurns_101 : decode cX5_placeTurns 101 = .ok (.getfield 22, 3) := by decide +kernel
theorem dX5_placeTurns_104 : decode cX5_placeTurns 104 = .ok (.iconst 3, 1) := by decide +kernel
theorem dX5_placeTurns_105 : decode cX5_placeTurns 105 = .ok (.iload_n 2, 1) := by decide +kernel
theorem dX5_placeTurns_106 : decode cX5_placeTurns 106 = .ok (.imul, 1) := by decide +kernel
theorem dX5_placeTurns_107 : decode cX5_placeTurns 107 = .ok (.iconst 1, 1) := by decide +kernel
theorem dX5_placeTurns_108 : decode cX5_placeTurns 108 = .ok (.iadd, 1) := by decide +kernel
theorem dX5_placeTurns_109 : decode cX5_placeTurns 109 = .ok (.aload_n 0, 1) := by decide +kernel
theorem dX5_placeTurns_110 : decode cX5_placeTurns 110 = .ok (.getfield 9, 3) := by decide +kernel
theorem dX5_placeTurns_113 : decode cX5_placeTurns 113 = .ok (.iload_n 2, 1) := by decide +kernel
theorem dX5_placeTurns_114 : decode cX5_placeTurns 114 = .ok (.iaload, 1) := by decide +kernel
theorem dX5_placeTurns_115 : decode cX5_placeTurns 115 = .ok (.iastore, 1) := by decide +kernel
theorem dX5_placeTurns_116 : decode cX5_placeTurns 116 = .ok (.aload_n 0, 1) := by decide +kernel
theorem dX5_placeTurns_117 : decode cX5_placeTurns 117 = .ok (.getfield 22, 3) := by decide +kernel
theorem dX5_placeTurns_120 : decode cX5_placeTurns 120 = .ok (.iconst 3, 1) := by decide +kernel
theorem dX5_placeTurns_121 : decode cX5_placeTurns 121 = .ok (.iload_n 2, 1) := by decide +kernel
theorem dX5_placeTurns_122 : decode cX5_placeTurns 122 = .ok (.imul, 1) := by decide +kernel
theorem dX5_placeTurns_123 : decode cX5_placeTurns 123 = .ok (.iconst 2, 1) := by decide +kernel
theorem dX5_placeTurns_124 : decode cX5_placeTurns 124 = .ok (.iadd, 1) := by decide +kernel
theorem dX5_placeTurns_125 : decode cX5_placeTurns 125 = .ok (.iload 4, 2) := by decide +kernel
theorem dX5_placeTurns_127 : decode cX5_placeTurns 127 = .ok (.iconst 1, 1) := by decide +kernel
theorem dX5_placeTurns_128 : decode cX5_placeTurns 128 = .ok (.iadd, 1) := by decide +kernel
theorem dX5_placeTurns_129 : decode cX5_placeTurns 129 = .ok (.iastore, 1) := by decide +kernel
theorem dX5_placeTurns_130 : decode cX5_placeTurns 130 = .ok (.iinc 2 1, 3) := by decide +kernel
theorem dX5_placeTurns_133 : decode cX5_placeTurns 133 = .ok (.goto (-131), 3) := by decide +kernel
theorem dX5_placeTurns_136 : decode cX5_placeTurns 136 = .ok (.return_, 1) := by decide +kernel
theorem dX5_gatherDates_0 : decode cX5_gatherDates 0 = .ok (.iconst 0, 1) := by decide +kernel
theorem dX5_gatherDates_1 : decode cX5_gatherDates 1 = .ok (.istore_n 1, 1) := by decide +kernel
theorem dX5_gatherDates_2 : decode cX5_gatherDates 2 = .ok (.iconst 0, 1) := by decide +kernel
theorem dX5_gatherDates_3 : decode cX5_gatherDates 3 = .ok (.istore_n 2, 1) := by decide +kernel
theorem dX5_gatherDates_4 : decode cX5_gatherDates 4 = .ok (.iload_n 2, 1) := by decide +kernel
theorem dX5_gatherDates_5 : decode cX5_gatherDates 5 = .ok (.bipush 30, 2) := by decide +kernel
theorem dX5_gatherDates_7 : decode cX5_gatherDates 7 = .ok (.if_icmp .ge 40, 3) := by decide +kernel
theorem dX5_gatherDates_10 : decode cX5_gatherDates 10 = .ok (.aload_n 0, 1) := by decide +kernel
theorem dX5_gatherDates_11 : decode cX5_gatherDates 11 = .ok (.getfield 15, 3) := by decide +kernel
theorem dX5_gatherDates_14 : decode cX5_gatherDates 14 = .ok (.iload_n 2, 1) := by decide +kernel
theorem dX5_gatherDates_15 : decode cX5_gatherDates 15 = .ok (.baload, 1) := by decide +kernel
theorem dX5_gatherDates_16 : decode cX5_gatherDates 16 = .ok (.ifCond .eq 25, 3) := by decide +kernel
theorem dX5_gatherDates_19 : decode cX5_gatherDates 19 = .ok (.aload_n 0, 1) := by decide +kernel
theorem dX5_gatherDates_20 : decode cX5_gatherDates 20 = .ok (.getfield 25, 3) := by decide +kernel
theorem dX5_gatherDates_23 : decode cX5_gatherDates 23 = .ok (.iload_n 1, 1) := by decide +kernel
theorem dX5_gatherDates_24 : decode cX5_gatherDates 24 = .ok (.aload_n 0, 1) := by decide +kernel
theorem dX5_gatherDates_25 : decode cX5_gatherDates 25 = .ok (.getfield 19, 3) := by decide +kernel
theorem dX5_gatherDates_28 : decode cX5_gatherDates 28 = .ok (.iload_n 2, 1) := by decide +kernel
theorem dX5_gatherDates_29 : decode cX5_gatherDates 29 = .ok (.iaload, 1) := by decide +kernel
theorem dX5_gatherDates_30 : decode cX5_gatherDates 30 = .ok (.iastore, 1) := by decide +kernel
theorem dX5_gatherDates_31 : decode cX5_gatherDates 31 = .ok (.aload_n 0, 1) := by decide +kernel
theorem dX5_gatherDates_32 : decode cX5_gatherDates 32 = .ok (.getfield 28, 3) := by decide +kernel
theorem dX5_gatherDates_35 : decode cX5_gatherDates 35 = .ok (.iload_n 1, 1) := by decide +kernel
theorem dX5_gatherDates_36 : decode cX5_gatherDates 36 = .ok (.iconst 0, 1) := by decide +kernel
theorem dX5_gatherDates_37 : decode cX5_gatherDates 37 = .ok (.iastore, 1) := by decide +kernel
theorem dX5_gatherDates_38 : decode cX5_gatherDates 38 = .ok (.iinc 1 1, 3) := by decide +kernel
theorem dX5_gatherDates_41 : decode cX5_gatherDates 41 = .ok (.iinc 2 1, 3) := by decide +kernel
theorem dX5_gatherDates_44 : decode cX5_gatherDates 44 = .ok (.goto (-40), 3) := by decide +kernel
theorem dX5_gatherDates_47 : decode cX5_gatherDates 47 = .ok (.iload_n 1, 1) := by decide +kernel
theorem dX5_gatherDates_48 : decode cX5_gatherDates 48 = .ok (.ireturn, 1) := by decide +kernel
theorem dX5_firstToTurn_0 : decode cX5_firstToTurn 0 = .ok (.iconst (-1), 1) := by decide +kernel
theorem dX5_firstToTurn_1 : decode cX5_firstToTurn 1 = .ok (.istore_n 2, 1) := by decide +kernel
theorem dX5_firstToTurn_2 : decode cX5_firstToTurn 2 = .ok (.iconst 0, 1) := by decide +kernel
theorem dX5_firstToTurn_3 : decode cX5_firstToTurn 3 = .ok (.istore_n 3, 1) := by decide +kernel
theorem dX5_firstToTurn_4 : decode cX5_firstToTurn 4 = .ok (.iconst 0, 1) := by decide +kernel
theorem dX5_firstToTurn_5 : decode cX5_firstToTurn 5 = .ok (.istore 4, 2) := by decide +kernel
theorem dX5_firstToTurn_7 : decode cX5_firstToTurn 7 = .ok (.iload 4, 2) := by decide +kernel
theorem dX5_firstToTurn_9 : decode cX5_firstToTurn 9 = .ok (.iload_n 1, 1) := by decide +kernel
theorem dX5_firstToTurn_10 : decode cX5_firstToTurn 10 = .ok (.if_icmp .ge 64, 3) := by decide +kernel
theorem dX5_firstToTurn_13 : decode cX5_firstToTurn 13 = .ok (.aload_n 0, 1) := by decide +kernel
theorem dX5_firstToTurn_14 : decode cX5_firstToTurn 14 = .ok (.getfield 28, 3) := by decide +kernel
theorem dX5_firstToTurn_17 : decode cX5_firstToTurn 17 = .ok (.iload 4, 2) := by decide +kernel
theorem dX5_firstToTurn_19 : decode cX5_firstToTurn 19 = .ok (.iaload, 1) := by decide +kernel
theorem dX5_firstToTurn_20 : decode cX5_firstToTurn 20 = .ok (.iconst 3, 1) := by decide +kernel
theorem dX5_firstToTurn_21 : decode cX5_firstToTurn 21 = .ok (.aload_n 0, 1) := by decide +kernel
theorem dX5_firstToTurn_22 : decode cX5_firstToTurn 22 = .ok (.getfield 35, 3) := by decide +kernel
theorem dX5_firstToTurn_25 : decode cX5_firstToTurn 25 = .ok (.imul, 1) := by decide +kernel
theorem dX5_firstToTurn_26 : decode cX5_firstToTurn 26 = .ok (.if_icmp .ge 42, 3) := by decide +kernel
theorem dX5_firstToTurn_29 : decode cX5_firstToTurn 29 = .ok (.aload_n 0, 1) := by decide +kernel
theorem dX5_firstToTurn_30 : decode cX5_firstToTurn 30 = .ok (.getfield 22, 3) := by decide +kernel
theorem dX5_firstToTurn_33 : decode cX5_firstToTurn 33 = .ok (.aload_n 0, 1) := by decide +kernel
theorem dX5_firstToTurn_34 : decode cX5_firstToTurn 34 = .ok (.getfield 28, 3) := by decide +kernel
theorem dX5_firstToTurn_37 : decode cX5_firstToTurn 37 = .ok (.iload 4, 2) := by decide +kernel
theorem dX5_firstToTurn_39 : decode cX5_firstToTurn 39 = .ok (.iaload, 1) := by decide +kernel
theorem dX5_firstToTurn_40 : decode cX5_firstToTurn 40 = .ok (.iaload, 1) := by decide +kernel
theorem dX5_firstToTurn_41 : decode cX5_firstToTurn 41 = .ok (.aload_n 0, 1) := by decide +kernel
theorem dX5_firstToTurn_42 : decode cX5_firstToTurn 42 = .ok (.getfield 25, 3) := by decide +kernel
theorem dX5_firstToTurn_45 : decode cX5_firstToTurn 45 = .ok (.iload 4, 2) := by decide +kernel
theorem dX5_firstToTurn_47 : decode cX5_firstToTurn 47 = .ok (.iaload, 1) := by decide +kernel
theorem dX5_firstToTurn_48 : decode cX5_firstToTurn 48 = .ok (.isub, 1) := by decide +kernel
theorem dX5_firstToTurn_49 : decode cX5_firstToTurn 49 = .ok (.istore 5, 2) := by decide +kernel
theorem dX5_firstToTurn_51 : decode cX5_firstToTurn 51 = .ok (.iload_n 2, 1) := by decide +kernel
theorem dX5_firstToTurn_52 : decode cX5_firstToTurn 52 = .ok (.iconst (-1), 1) := by decide +kernel
theorem dX5_firstToTurn_53 : decode cX5_firstToTurn 53 = .ok (.if_icmp .eq 9, 3) := by decide +kernel
theorem dX5_firstToTurn_56 : decode cX5_firstToTurn 56 = .ok (.iload 5, 2) := by decide +kernel
theorem dX5_firstToTurn_58 : decode cX5_firstToTurn 58 = .ok (.iload_n 3, 1) := by decide +kernel
theorem dX5_firstToTurn_59 : decode cX5_firstToTurn 59 = .ok (.if_icmp .ge 9, 3) := by decide +kernel
theorem dX5_firstToTurn_62 : decode cX5_firstToTurn 62 = .ok (.iload 4, 2) := by decide +kernel
theorem dX5_firstToTurn_64 : decode cX5_firstToTurn 64 = .ok (.istore_n 2, 1) := by decide +kernel
theorem dX5_firstToTurn_65 : decode cX5_firstToTurn 65 = .ok (.iload 5, 2) := by decide +kernel
theorem dX5_firstToTurn_67 : decode cX5_firstToTurn 67 = .ok (.istore_n 3, 1) := by decide +kernel
theorem dX5_firstToTurn_68 : decode cX5_firstToTurn 68 = .ok (.iinc 4 1, 3) := by decide +kernel
theorem dX5_firstToTurn_71 : decode cX5_firstToTurn 71 = .ok (.goto (-64), 3) := by decide +kernel
theorem dX5_firstToTurn_74 : decode cX5_firstToTurn 74 = .ok (.iload_n 2, 1) := by decide +kernel
theorem dX5_firstToTurn_75 : decode cX5_firstToTurn 75 = .ok (.ireturn, 1) := by decide +kernel
theorem dX5_turn_0 : decode cX5_turn 0 = .ok (.aload_n 0, 1) := by decide +kernel
theorem dX5_turn_1 : decode cX5_turn 1 = .ok (.getfield 28, 3) := by decide +kernel
theorem dX5_turn_4 : decode cX5_turn 4 = .ok (.iload_n 1, 1) := by decide +kernel
theorem dX5_turn_5 : decode cX5_turn 5 = .ok (.iaload, 1) := by decide +kernel
theorem dX5_turn_6 : decode cX5_turn 6 = .ok (.iconst 3, 1) := by decide +kernel
theorem dX5_turn_7 : decode cX5_turn 7 = .ok (.irem, 1) := by decide +kernel
theorem dX5_turn_8 : decode cX5_turn 8 = .ok (.istore_n 2, 1) := by decide +kernel
theorem dX5_turn_9 : decode cX5_turn 9 = .ok (.aload_n 0, 1) := by decide +kernel
theorem dX5_turn_10 : decode cX5_turn 10 = .ok (.getfield 22, 3) := by decide +kernel
theorem dX5_turn_13 : decode cX5_turn 13 = .ok (.aload_n 0, 1) := by decide +kernel
theorem dX5_turn_14 : decode cX5_turn 14 = .ok (.getfield 28, 3) := by decide +kernel
theorem dX5_turn_17 : decode cX5_turn 17 = .ok (.iload_n 1, 1) := by decide +kernel
theorem dX5_turn_18 : decode cX5_turn 18 = .ok (.iaload, 1) := by decide +kernel
theorem dX5_turn_19 : decode cX5_turn 19 = .ok (.iload_n 2, 1) := by decide +kernel
theorem dX5_turn_20 : decode cX5_turn 20 = .ok (.isub, 1) := by decide +kernel
theorem dX5_turn_21 : decode cX5_turn 21 = .ok (.iconst 1, 1) := by decide +kernel
theorem dX5_turn_22 : decode cX5_turn 22 = .ok (.iadd, 1) := by decide +kernel
theorem dX5_turn_23 : decode cX5_turn 23 = .ok (.iaload, 1) := by decide +kernel
theorem dX5_turn_24 : decode cX5_turn 24 = .ok (.aload_n 0, 1) := by decide +kernel
theorem dX5_turn_25 : decode cX5_turn 25 = .ok (.getfield 25, 3) := by decide +kernel
theorem dX5_turn_28 : decode cX5_turn 28 = .ok (.iload_n 1, 1) := by decide +kernel
theorem dX5_turn_29 : decode cX5_turn 29 = .ok (.iaload, 1) := by decide +kernel
theorem dX5_turn_30 : decode cX5_turn 30 = .ok (.isub, 1) := by decide +kernel
theorem dX5_turn_31 : decode cX5_turn 31 = .ok (.istore_n 3, 1) := by decide +kernel
theorem dX5_turn_32 : decode cX5_turn 32 = .ok (.iload_n 2, 1) := by decide +kernel
theorem dX5_turn_33 : decode cX5_turn 33 = .ok (.iconst 1, 1) := by decide +kernel
theorem dX5_turn_34 : decode cX5_turn 34 = .ok (.if_icmp .ne 31, 3) := by decide +kernel
theorem dX5_turn_37 : decode cX5_turn 37 = .ok (.aload_n 0, 1) := by decide +kernel
theorem dX5_turn_38 : decode cX5_turn 38 = .ok (.dup, 1) := by decide +kernel
theorem dX5_turn_39 : decode cX5_turn 39 = .ok (.getfield 61, 3) := by decide +kernel
theorem dX5_turn_42 : decode cX5_turn 42 = .ok (.ldc2_w 87, 3) := by decide +kernel
theorem dX5_turn_45 : decode cX5_turn 45 = .ok (.iload_n 3, 1) := by decide +kernel
theorem dX5_turn_46 : decode cX5_turn 46 = .ok (.i2l, 1) := by decide +kernel
theorem dX5_turn_47 : decode cX5_turn 47 = .ok (.lmul, 1) := by decide +kernel
theorem dX5_turn_48 : decode cX5_turn 48 = .ok (.lsub, 1) := by decide +kernel
theorem dX5_turn_49 : decode cX5_turn 49 = .ok (.putfield 61, 3) := by decide +kernel
theorem dX5_turn_52 : decode cX5_turn 52 = .ok (.aload_n 0, 1) := by decide +kernel
theorem dX5_turn_53 : decode cX5_turn 53 = .ok (.dup, 1) := by decide +kernel
theorem dX5_turn_54 : decode cX5_turn 54 = .ok (.getfield 58, 3) := by decide +kernel
theorem dX5_turn_57 : decode cX5_turn 57 = .ok (.iconst 2, 1) := by decide +kernel
theorem dX5_turn_58 : decode cX5_turn 58 = .ok (.iadd, 1) := by decide +kernel
theorem dX5_turn_59 : decode cX5_turn 59 = .ok (.putfield 58, 3) := by decide +kernel
theorem dX5_turn_62 : decode cX5_turn 62 = .ok (.goto 42, 3) := by decide +kernel
theorem dX5_turn_65 : decode cX5_turn 65 = .ok (.aload_n 0, 1) := by decide +kernel
theorem dX5_turn_66 : decode cX5_turn 66 = .ok (.dup, 1) := by decide +kernel
theorem dX5_turn_67 : decode cX5_turn 67 = .ok (.getfield 61, 3) := by decide +kernel
theorem dX5_turn_70 : decode cX5_turn 70 = .ok (.iload_n 3, 1) := by decide +kernel
theorem dX5_turn_71 : decode cX5_turn 71 = .ok (.i2l, 1) := by decide +kernel
theorem dX5_turn_72 : decode cX5_turn 72 = .ok (.ladd, 1) := by decide +kernel
theorem dX5_turn_73 : decode cX5_turn 73 = .ok (.putfield 61, 3) := by decide +kernel
theorem dX5_turn_76 : decode cX5_turn 76 = .ok (.aload_n 0, 1) := by decide +kernel
theorem dX5_turn_77 : decode cX5_turn 77 = .ok (.dup, 1) := by decide +kernel
theorem dX5_turn_78 : decode cX5_turn 78 = .ok (.getfield 58, 3) := by decide +kernel
theorem dX5_turn_81 : decode cX5_turn 81 = .ok (.iconst 1, 1) := by decide +kernel
theorem dX5_turn_82 : decode cX5_turn 82 = .ok (.isub, 1) := by decide +kernel
theorem dX5_turn_83 : decode cX5_turn 83 = .ok (.putfield 58, 3) := by decide +kernel
theorem dX5_turn_86 : decode cX5_turn 86 = .ok (.aload_n 0, 1) := by decide +kernel
theorem dX5_turn_87 : decode cX5_turn 87 = .ok (.dup, 1) := by decide +kernel
theorem dX5_turn_88 : decode cX5_turn 88 = .ok (.getfield 55, 3) := by decide +kernel
theorem dX5_turn_91 : decode cX5_turn 91 = .ok (.iload_n 2, 1) := by decide +kernel
theorem dX5_turn_92 : decode cX5_turn 92 = .ok (.ifCond .ne 7, 3) := by decide +kernel
theorem dX5_turn_95 : decode cX5_turn 95 = .ok (.iconst 1, 1) := by decide +kernel
theorem dX5_turn_96 : decode cX5_turn 96 = .ok (.goto 4, 3) := by decide +kernel
theorem dX5_turn_99 : decode cX5_turn 99 = .ok (.iconst (-1), 1) := by decide +kernel
theorem dX5_turn_100 : decode cX5_turn 100 = .ok (.iadd, 1) := by decide +kernel
theorem dX5_turn_101 : decode cX5_turn 101 = .ok (.putfield 55, 3) := by decide +kernel
theorem dX5_turn_104 : decode cX5_turn 104 = .ok (.aload_n 0, 1) := by decide +kernel
theorem dX5_turn_105 : decode cX5_turn 105 = .ok (.getfield 28, 3) := by decide +kernel
theorem dX5_turn_108 : decode cX5_turn 108 = .ok (.iload_n 1, 1) := by decide +kernel
theorem dX5_turn_109 : decode cX5_turn 109 = .ok (.dup2, 1) := by decide +kernel
theorem dX5_turn_110 : decode cX5_turn 110 = .ok (.iaload, 1) := by decide +kernel
theorem dX5_turn_111 : decode cX5_turn 111 = .ok (.iconst 1, 1) := by decide +kernel
theorem dX5_turn_112 : decode cX5_turn 112 = .ok (.iadd, 1) := by decide +kernel
theorem dX5_turn_113 : decode cX5_turn 113 = .ok (.iastore, 1) := by decide +kernel
theorem dX5_turn_114 : decode cX5_turn 114 = .ok (.return_, 1) := by decide +kernel
theorem dX5_consider_0 : decode cX5_consider 0 = .ok (.aload_n 0, 1) := by decide +kernel
theorem dX5_consider_1 : decode cX5_consider 1 = .ok (.getfield 61, 3) := by decide +kernel
theorem dX5_consider_4 : decode cX5_consider 4 = .ok (.aload_n 0, 1) := by decide +kernel
theorem dX5_consider_5 : decode cX5_consider 5 = .ok (.getfield 58, 3) := by decide +kernel
theorem dX5_consider_8 : decode cX5_consider 8 = .ok (.i2l, 1) := by decide +kernel
theorem dX5_consider_9 : decode cX5_consider 9 = .ok (.iload_n 1, 1) := by decide +kernel
theorem dX5_consider_10 : decode cX5_consider 10 = .ok (.i2l, 1) := by decide +kernel
theorem dX5_consider_11 : decode cX5_consider 11 = .ok (.lmul, 1) := by decide +kernel
theorem dX5_consider_12 : decode cX5_consider 12 = .ok (.ladd, 1) := by decide +kernel
theorem dX5_consider_13 : decode cX5_consider 13 = .ok (.lstore_n 2, 1) := by decide +kernel
theorem dX5_consider_14 : decode cX5_consider 14 = .ok (.aload_n 0, 1) := by decide +kernel
theorem dX5_consider_15 : decode cX5_consider 15 = .ok (.getfield 55, 3) := by decide +kernel
theorem dX5_consider_18 : decode cX5_consider 18 = .ok (.aload_n 0, 1) := by decide +kernel
theorem dX5_consider_19 : decode cX5_consider 19 = .ok (.getfield 65, 3) := by decide +kernel
theorem dX5_consider_22 : decode cX5_consider 22 = .ok (.if_icmp .gt 23, 3) := by decide +kernel
theorem dX5_consider_25 : decode cX5_consider 25 = .ok (.aload_n 0, 1) := by decide +kernel
theorem dX5_consider_26 : decode cX5_consider 26 = .ok (.getfield 55, 3) := by decide +kernel
theorem dX5_consider_29 : decode cX5_consider 29 = .ok (.aload_n 0, 1) := by decide +kernel
theorem dX5_consider_30 : decode cX5_consider 30 = .ok (.getfield 65, 3) := by decide +kernel
theorem dX5_consider_33 : decode cX5_consider 33 = .ok (.if_icmp .ne 30, 3) := by decide +kernel
theorem dX5_consider_36 : decode cX5_consider 36 = .ok (.lload_n 2, 1) := by decide +kernel
theorem dX5_consider_37 : decode cX5_consider 37 = .ok (.aload_n 0, 1) := by decide +kernel
theorem dX5_consider_38 : decode cX5_consider 38 = .ok (.getfield 89, 3) := by decide +kernel
theorem dX5_consider_41 : decode cX5_consider 41 = .ok (.lcmp, 1) := by decide +kernel
theorem dX5_consider_42 : decode cX5_consider 42 = .ok (.ifCond .ge 21, 3) := by decide +kernel
theorem dX5_consider_45 : decode cX5_consider 45 = .ok (.aload_n 0, 1) := by decide +kernel
theorem dX5_consider_46 : decode cX5_consider 46 = .ok (.aload_n 0, 1) := by decide +kernel
theorem dX5_consider_47 : decode cX5_consider 47 = .ok (.getfield 55, 3) := by decide +kernel
theorem dX5_consider_50 : decode cX5_consider 50 = .ok (.putfield 65, 3) := by decide +kernel
theorem dX5_consider_53 : decode cX5_consider 53 = .ok (.aload_n 0, 1) := by decide +kernel
theorem dX5_consider_54 : decode cX5_consider 54 = .ok (.lload_n 2, 1) := by decide +kernel
theorem dX5_consider_55 : decode cX5_consider 55 = .ok (.putfield 89, 3) := by decide +kernel
theorem dX5_consider_58 : decode cX5_consider 58 = .ok (.aload_n 0, 1) := by decide +kernel
theorem dX5_consider_59 : decode cX5_consider 59 = .ok (.iload_n 1, 1) := by decide +kernel
theorem dX5_consider_60 : decode cX5_consider 60 = .ok (.putfield 92, 3) := by decide +kernel
theorem dX5_consider_63 : decode cX5_consider 63 = .ok (.return_, 1) := by decide +kernel
theorem dX6_init_0 : decode cX6_init 0 = .ok (.aload_n 0, 1) := by decide +kernel
theorem dX6_init_1 : decode cX6_init 1 = .ok (.invokespecial 1, 3) := by decide +kernel
theorem dX6_init_4 : decode cX6_init 4 = .ok (.aload_n 0, 1) := by decide +kernel
theorem dX6_init_5 : decode cX6_init 5 = .ok (.iload_n 1, 1) := by decide +kernel
theorem dX6_init_6 : decode cX6_init 6 = .ok (.putfield 7, 3) := by decide +kernel
theorem dX6_init_9 : decode cX6_init 9 = .ok (.aload_n 0, 1) := by decide +kernel
theorem dX6_init_10 : decode cX6_init 10 = .ok (.aload_n 2, 1) := by decide +kernel
theorem dX6_init_11 : decode cX6_init 11 = .ok (.putfield 13, 3) := by decide +kernel
theorem dX6_init_14 : decode cX6_init 14 = .ok (.aload_n 0, 1) := by decide +kernel
theorem dX6_init_15 : decode cX6_init 15 = .ok (.aload_n 3, 1) := by decide +kernel
theorem dX6_init_16 : decode cX6_init 16 = .ok (.putfield 17, 3) := by decide +kernel
theorem dX6_init_19 : decode cX6_init 19 = .ok (.aload_n 0, 1) := by decide +kernel
theorem dX6_init_20 : decode cX6_init 20 = .ok (.iload 4, 2) := by decide +kernel
theorem dX6_init_22 : decode cX6_init 22 = .ok (.putfield 20, 3) := by decide +kernel
theorem dX6_init_25 : decode cX6_init 25 = .ok (.return_, 1) := by decide +kernel
set_option maxRecDepth 20000 in
theorem ggX6_allows_X0_signOf : GoodIn wsX6_allows wsX0_signOf := goodIn_r _ [6, 7] (by decide +kernel) (by decide +kernel)
set_option maxRecDepth 20000 in
theorem gX6_allows_X0_signOf : GoodIn wsX6_allows (va_wsS RX6 23 yX0_signOf wsX0_signOf) := goodIn_app (goodIn_of _ (by decide +kernel)) ggX6_allows_X0_signOf
set_option maxRecDepth 20000 in
theorem ggX6_allows_X0_holds : GoodIn wsX6_allows wsX0_holds := goodIn_r _ [10] (by decide +kernel) (by decide +kernel)
set_option maxRecDepth 20000 in
theorem gX6_allows_X0_holds : GoodIn wsX6_allows (va_wsS RX6 29 yX0_holds wsX0_holds) := goodIn_app (goodIn_of _ (by decide +kernel)) ggX6_allows_X0_holds
theorem dX6_allows_0 : decode cX6_allows 0 = .ok (.iconst 0, 1) := by decide +kernel
theorem dX6_allows_1 : decode cX6_allows 1 = .ok (.istore_n 2, 1) := by decide +kernel
theorem dX6_allows_2 : decode cX6_allows 2 = .ok (.iload_n 2, 1) := by decide +kernel
theorem dX6_allows_3 : decode cX6_allows 3 = .ok (.aload_n 0, 1) := by decide +kernel
theorem dX6_allows_4 : decode cX6_allows 4 = .ok (.getfield 13, 3) := by decide +kernel
theorem dX6_allows_7 : decode cX6_allows 7 = .ok (.arraylength, 1) := by decide +kernel
theorem dX6_allows_8 : decode cX6_allows 8 = .ok (.if_icmp .ge 32, 3) := by decide +kernel
theorem dX6_allows_11 : decode cX6_allows 11 = .ok (.aload_n 0, 1) := by decide +kernel
theorem dX6_allows_12 : decode cX6_allows 12 = .ok (.getfield 13, 3) := by decide +kernel
theorem dX6_allows_15 : decode cX6_allows 15 = .ok (.iload_n 2, 1) := by decide +kernel
theorem dX6_allows_16 : decode cX6_allows 16 = .ok (.iaload, 1) := by decide +kernel
theorem dX6_allows_17 : decode cX6_allows 17 = .ok (.iload_n 1, 1) := by decide +kernel
theorem dX6_allows_18 : decode cX6_allows 18 = .ok (.iload_n 2, 1) := by decide +kernel
theorem dX6_allows_19 : decode cX6_allows 19 = .ok (.aload_n 0, 1) := by decide +kernel
theorem dX6_allows_20 : decode cX6_allows 20 = .ok (.getfield 7, 3) := by decide +kernel
theorem dX6_allows_23 : decode cX6_allows 23 = .ok (.invokestatic 23, 3) := by decide +kernel
theorem dX6_allows_26 : decode cX6_allows 26 = .ok (.invokestatic 29, 3) := by decide +kernel
theorem dX6_allows_29 : decode cX6_allows 29 = .ok (.ifCond .ne 5, 3) := by decide +kernel
theorem dX6_allows_32 : decode cX6_allows 32 = .ok (.iconst 0, 1) := by decide +kernel
theorem dX6_allows_33 : decode cX6_allows 33 = .ok (.ireturn, 1) := by decide +kernel
theorem dX6_allows_34 : decode cX6_allows 34 = .ok (.iinc 2 1, 3) := by decide +kernel
theorem dX6_allows_37 : decode cX6_allows 37 = .ok (.goto (-35), 3) := by decide +kernel
theorem dX6_allows_40 : decode cX6_allows 40 = .ok (.iconst 1, 1) := by decide +kernel
theorem dX6_allows_41 : decode cX6_allows 41 = .ok (.ireturn, 1) := by decide +kernel
theorem dX7_init_0 : decode cX7_init 0 = .ok (.aload_n 0, 1) := by decide +kernel
theorem dX7_init_1 : decode cX7_init 1 = .ok (.invokespecial 3, 3) := by decide +kernel
theorem dX7_init_4 : decode cX7_init 4 = .ok (.aload_n 0, 1) := by decide +kernel
theorem dX7_init_5 : decode cX7_init 5 = .ok (.iconst 1, 1) := by decide +kernel
theorem dX7_init_6 : decode cX7_init 6 = .ok (.iload_n 1, 1) := by decide +kernel
theorem dX7_init_7 : decode cX7_init 7 = .ok (.invokestatic 9, 3) := by decide +kernel
theorem dX7_init_10 : decode cX7_init 10 = .ok (.putfield 15, 3) := by decide +kernel
theorem dX7_init_13 : decode cX7_init 13 = .ok (.aload_n 0, 1) := by decide +kernel
theorem dX7_init_14 : decode cX7_init 14 = .ok (.aload_n 0, 1) := by decide +kernel
theorem dX7_init_15 : decode cX7_init 15 = .ok (.getfield 15, 3) := by decide +kernel
theorem dX7_init_18 : decode cX7_init 18 = .ok (.bipush 60, 2) := by decide +kernel
theorem dX7_init_20 : decode cX7_init 20 = .ok (.iadd, 1) := by decide +kernel
theorem dX7_init_21 : decode cX7_init 21 = .ok (.bipush 64, 2) := by decide +kernel
theorem dX7_init_23 : decode cX7_init 23 = .ok (.idiv, 1) := by decide +kernel
theorem dX7_init_24 : decode cX7_init 24 = .ok (.iconst 2, 1) := by decide +kernel
theorem dX7_init_25 : decode cX7_init 25 = .ok (.iadd, 1) := by decide +kernel
theorem dX7_init_26 : decode cX7_init 26 = .ok (.newarray .long, 2) := by decide +kernel
theorem dX7_init_28 : decode cX7_init 28 = .ok (.putfield 19, 3) := by decide +kernel
theorem dX7_init_31 : decode cX7_init 31 = .ok (.return_, 1) := by decide +kernel
set_option maxRecDepth 20000 in
theorem ggX7_reset_J7_fill_d0a16 : GoodIn wsX7_reset wsJ7_fill_d0a16 := goodIn_r _ [6] (by decide +kernel) (by decide +kernel)
set_option maxRecDepth 20000 in
theorem gX7_reset_J7_fill_d0a16 : GoodIn wsX7_reset (va_wsS RX7 27 yJ7_fill_d0a16 wsJ7_fill_d0a16) := goodIn_app (goodIn_of _ (by decide +kernel)) ggX7_reset_J7_fill_d0a16
theorem dX7_reset_0 : decode cX7_reset 0 = .ok (.aload_n 0, 1) := by decide +kernel
theorem dX7_reset_1 : decode cX7_reset 1 = .ok (.iload_n 1, 1) := by decide +kernel
theorem dX7_reset_2 : decode cX7_reset 2 = .ok (.putfield 23, 3) := by decide +kernel
theorem dX7_reset_5 : decode cX7_reset 5 = .ok (.aload_n 0, 1) := by decide +kernel
theorem dX7_reset_6 : decode cX7_reset 6 = .ok (.getfield 19, 3) := by decide +kernel
theorem dX7_reset_9 : decode cX7_reset 9 = .ok (.lconst 0, 1) := by decide +kernel
theorem dX7_reset_10 : decode cX7_reset 10 = .ok (.invokestatic 27, 3) := by decide +kernel
theorem dX7_reset_13 : decode cX7_reset 13 = .ok (.return_, 1) := by decide +kernel
theorem dX7_mark_0 : decode cX7_mark 0 = .ok (.iconst 0, 1) := by decide +kernel
theorem dX7_mark_1 : decode cX7_mark 1 = .ok (.iload_n 1, 1) := by decide +kernel
theorem dX7_mark_2 : decode cX7_mark 2 = .ok (.invokestatic 9, 3) := by decide +kernel
theorem dX7_mark_5 : decode cX7_mark 5 = .ok (.istore_n 2, 1) := by decide +kernel
theorem dX7_mark_6 : decode cX7_mark 6 = .ok (.iload_n 2, 1) := by decide +kernel
theorem dX7_mark_7 : decode cX7_mark 7 = .ok (.aload_n 0, 1) := by decide +kernel
theorem dX7_mark_8 : decode cX7_mark 8 = .ok (.getfield 15, 3) := by decide +kernel
theorem dX7_mark_11 : decode cX7_mark 11 = .ok (.bipush 60, 2) := by decide +kernel
theorem dX7_mark_13 : decode cX7_mark 13 = .ok (.iadd, 1) := by decide +kernel
theorem dX7_mark_14 : decode cX7_mark 14 = .ok (.if_icmp .ge 31, 3) := by decide +kernel
theorem dX7_mark_17 : decode cX7_mark 17 = .ok (.aload_n 0, 1) := by decide +kernel
theorem dX7_mark_18 : decode cX7_mark 18 = .ok (.getfield 19, 3) := by decide +kernel
theorem dX7_mark_21 : decode cX7_mark 21 = .ok (.iload_n 2, 1) := by decide +kernel
theorem dX7_mark_22 : decode cX7_mark 22 = .ok (.bipush 6, 2) := by decide +kernel
theorem dX7_mark_24 : decode cX7_mark 24 = .ok (.ishr, 1) := by decide +kernel
theorem dX7_mark_25 : decode cX7_mark 25 = .ok (.dup2, 1) := by decide +kernel
theorem dX7_mark_26 : decode cX7_mark 26 = .ok (.laload, 1) := by decide +kernel
theorem dX7_mark_27 : decode cX7_mark 27 = .ok (.lconst 1, 1) := by decide +kernel
theorem dX7_mark_28 : decode cX7_mark 28 = .ok (.iload_n 2, 1) := by decide +kernel
theorem dX7_mark_29 : decode cX7_mark 29 = .ok (.bipush 63, 2) := by decide +kernel
theorem dX7_mark_31 : decode cX7_mark 31 = .ok (.iand, 1) := by decide +kernel
theorem dX7_mark_32 : decode cX7_mark 32 = .ok (.lshl, 1) := by decide +kernel
theorem dX7_mark_33 : decode cX7_mark 33 = .ok (.lor, 1) := by decide +kernel
theorem dX7_mark_34 : decode cX7_mark 34 = .ok (.lastore, 1) := by decide +kernel
theorem dX7_mark_35 : decode cX7_mark 35 = .ok (.iload_n 2, 1) := by decide +kernel
theorem dX7_mark_36 : decode cX7_mark 36 = .ok (.aload_n 0, 1) := by decide +kernel
theorem dX7_mark_37 : decode cX7_mark 37 = .ok (.getfield 15, 3) := by decide +kernel
theorem dX7_mark_40 : decode cX7_mark 40 = .ok (.iadd, 1) := by decide +kernel
theorem dX7_mark_41 : decode cX7_mark 41 = .ok (.istore_n 2, 1) := by decide +kernel
theorem dX7_mark_42 : decode cX7_mark 42 = .ok (.goto (-36), 3) := by decide +kernel
theorem dX7_mark_45 : decode cX7_mark 45 = .ok (.return_, 1) := by decide +kernel
theorem dX7_window_0 : decode cX7_window 0 = .ok (.aload_n 0, 1) := by decide +kernel
theorem dX7_window_1 : decode cX7_window 1 = .ok (.getfield 23, 3) := by decide +kernel
theorem dX7_window_4 : decode cX7_window 4 = .ok (.ifCond .eq 7, 3) := by decide +kernel
theorem dX7_window_7 : decode cX7_window 7 = .ok (.ldc2_w 33, 3) := by decide +kernel
theorem dX7_window_10 : decode cX7_window 10 = .ok (.lreturn, 1) := by decide +kernel
theorem dX7_window_11 : decode cX7_window 11 = .ok (.iload_n 1, 1) := by decide +kernel
theorem dX7_window_12 : decode cX7_window 12 = .ok (.ifCond .lt 11, 3) := by decide +kernel
theorem dX7_window_15 : decode cX7_window 15 = .ok (.iload_n 1, 1) := by decide +kernel
theorem dX7_window_16 : decode cX7_window 16 = .ok (.aload_n 0, 1) := by decide +kernel
theorem dX7_window_17 : decode cX7_window 17 = .ok (.getfield 15, 3) := by decide +kernel
theorem dX7_window_20 : decode cX7_window 20 = .ok (.if_icmp .lt 5, 3) := by decide +kernel
theorem dX7_window_23 : decode cX7_window 23 = .ok (.lconst 0, 1) := by decide +kernel
theorem dX7_window_24 : decode cX7_window 24 = .ok (.lreturn, 1) := by decide +kernel
theorem dX7_window_25 : decode cX7_window 25 = .ok (.iload_n 1, 1) := by decide +kernel
theorem dX7_window_26 : decode cX7_window 26 = .ok (.bipush 63, 2) := by decide +kernel
theorem dX7_window_28 : decode cX7_window 28 = .ok (.iand, 1) := by decide +kernel
theorem dX7_window_29 : decode cX7_window 29 = .ok (.istore_n 2, 1) := by decide +kernel
theorem dX7_window_30 : decode cX7_window 30 = .ok (.aload_n 0, 1) := by decide +kernel
theorem dX7_window_31 : decode cX7_window 31 = .ok (.getfield 19, 3) := by decide +kernel
theorem dX7_window_34 : decode cX7_window 34 = .ok (.iload_n 1, 1) := by decide +kernel
theorem dX7_window_35 : decode cX7_window 35 = .ok (.bipush 6, 2) := by decide +kernel
theorem dX7_window_37 : decode cX7_window 37 = .ok (.ishr, 1) := by decide +kernel
theorem dX7_window_38 : decode cX7_window 38 = .ok (.laload, 1) := by decide +kernel
theorem dX7_window_39 : decode cX7_window 39 = .ok (.iload_n 2, 1) := by decide +kernel
theorem dX7_window_40 : decode cX7_window 40 = .ok (.lushr, 1) := by decide +kernel
theorem dX7_window_41 : decode cX7_window 41 = .ok (.lstore_n 3, 1) := by decide +kernel
theorem dX7_window_42 : decode cX7_window 42 = .ok (.iload_n 2, 1) := by decide +kernel
theorem dX7_window_43 : decode cX7_window 43 = .ok (.iconst 4, 1) := by decide +kernel
theorem dX7_window_44 : decode cX7_window 44 = .ok (.if_icmp .le 22, 3) := by decide +kernel
theorem dX7_window_47 : decode cX7_window 47 = .ok (.lload_n 3, 1) := by decide +kernel
theorem dX7_window_48 : decode cX7_window 48 = .ok (.aload_n 0, 1) := by decide +kernel
theorem dX7_window_49 : decode cX7_window 49 = .ok (.getfield 19, 3) := by decide +kernel
theorem dX7_window_52 : decode cX7_window 52 = .ok (.iload_n 1, 1) := by decide +kernel
theorem dX7_window_53 : decode cX7_window 53 = .ok (.bipush 6, 2) := by decide +kernel
theorem dX7_window_55 : decode cX7_window 55 = .ok (.ishr, 1) := by decide +kernel
theorem dX7_window_56 : decode cX7_window 56 = .ok (.iconst 1, 1) := by decide +kernel
theorem dX7_window_57 : decode cX7_window 57 = .ok (.iadd, 1) := by decide +kernel
theorem dX7_window_58 : decode cX7_window 58 = .ok (.laload, 1) := by decide +kernel
theorem dX7_window_59 : decode cX7_window 59 = .ok (.bipush 64, 2) := by decide +kernel
theorem dX7_window_61 : decode cX7_window 61 = .ok (.iload_n 2, 1) := by decide +kernel
theorem dX7_window_62 : decode cX7_window 62 = .ok (.isub, 1) := by decide +kernel
theorem dX7_window_63 : decode cX7_window 63 = .ok (.lshl, 1) := by decide +kernel
theorem dX7_window_64 : decode cX7_window 64 = .ok (.lor, 1) := by decide +kernel
theorem dX7_window_65 : decode cX7_window 65 = .ok (.lstore_n 3, 1) := by decide +kernel
theorem dX7_window_66 : decode cX7_window 66 = .ok (.lload_n 3, 1) := by decide +kernel
theorem dX7_window_67 : decode cX7_window 67 = .ok (.ldc2_w 33, 3) := by decide +kernel
theorem dX7_window_70 : decode cX7_window 70 = .ok (.land, 1) := by decide +kernel
theorem dX7_window_71 : decode cX7_window 71 = .ok (.lreturn, 1) := by decide +kernel
set_option maxRecDepth 20000 in
theorem ggX8_init_X4_init : GoodIn wsX8_init wsX4_init := goodIn_r _ [27, 28, 2, 3, 4, 29, 30, 86, 87, 88, 89, 90, 91, 92] (by decide +kernel) (by decide +kernel)
set_option maxRecDepth 20000 in
theorem gX8_init_X4_init_n21 : GoodIn wsX8_init (wsX4_init) := ggX8_init_X4_init
set_option maxRecDepth 20000 in
theorem ggX8_init_X1_init : GoodIn wsX8_init wsX1_init := goodIn_r _ [32, 33, 2, 3, 4, 34, 35, 36, 37, 38, 39, 40, 41, 42, 43, 44, 45, 46, 47, 48, 49, 50, 51, 52, 93, 94, 95, 96, 97, 98, 99, 128, 129, 130] (by decide +kernel) (by decide +kernel)
set_option maxRecDepth 20000 in
theorem gX8_init_X1_init_n28 : GoodIn wsX8_init (wsX1_init) := ggX8_init_X1_init
set_option maxRecDepth 20000 in
theorem ggX8_init_X3_init : GoodIn wsX8_init wsX3_init := goodIn_r _ [55, 56, 2, 3, 57, 58, 4, 59, 60, 61, 62, 63, 64, 65, 66, 100, 101, 102, 103, 104, 105, 106, 107, 108, 109, 110, 111, 112] (by decide +kernel) (by decide +kernel)
set_option maxRecDepth 20000 in
theorem gX8_init_X3_init : GoodIn wsX8_init (wsX3_init) := ggX8_init_X3_init
set_option maxRecDepth 20000 in
theorem ggX8_init_X5_init : GoodIn wsX8_init wsX5_init := goodIn_r _ [68, 69, 2, 3, 4, 70, 71, 72, 73, 74, 75, 76, 77, 113, 114, 115, 116, 117, 118, 119, 120, 121, 122, 123, 124, 125, 126, 127] (by decide +kernel) (by decide +kernel)
set_option maxRecDepth 20000 in
theorem gX8_init_X5_init_n42 : GoodIn wsX8_init (wsX5_init) := ggX8_init_X5_init
theorem dX8_init_0 : decode cX8_init 0 = .ok (.aload_n 0, 1) := by decide +kernel
theorem dX8_init_1 : decode cX8_init 1 = .ok (.invokespecial 1, 3) := by decide +kernel
theorem dX8_init_4 : decode cX8_init 4 = .ok (.aload_n 0, 1) := by decide +kernel
theorem dX8_init_5 : decode cX8_init 5 = .ok (.bipush 10, 2) := by decide +kernel
theorem dX8_init_7 : decode cX8_init 7 = .ok (.newarray .int, 2) := by decide +kernel
theorem dX8_init_9 : decode cX8_init 9 = .ok (.putfield 9, 3) := by decide +kernel
theorem dX8_init_12 : decode cX8_init 12 = .ok (.aload_n 0, 1) := by decide +kernel
theorem dX8_init_13 : decode cX8_init 13 = .ok (.bipush 30, 2) := by decide +kernel
theorem dX8_init_15 : decode cX8_init 15 = .ok (.anewarray 13, 3) := by decide +kernel
theorem dX8_init_18 : decode cX8_init 18 = .ok (.putfield 15, 3) := by decide +kernel
theorem dX8_init_21 : decode cX8_init 21 = .ok (.aload_n 0, 1) := by decide +kernel
theorem dX8_init_22 : decode cX8_init 22 = .ok (.new 19, 3) := by decide +kernel
theorem dX8_init_25 : decode cX8_init 25 = .ok (.dup, 1) := by decide +kernel
theorem dX8_init_26 : decode cX8_init 26 = .ok (.invokespecial 21, 3) := by decide +kernel
theorem dX8_init_29 : decode cX8_init 29 = .ok (.putfield 22, 3) := by decide +kernel
theorem dX8_init_32 : decode cX8_init 32 = .ok (.aload_n 0, 1) := by decide +kernel
theorem dX8_init_33 : decode cX8_init 33 = .ok (.new 26, 3) := by decide +kernel
theorem dX8_init_36 : decode cX8_init 36 = .ok (.dup, 1) := by decide +kernel
theorem dX8_init_37 : decode cX8_init 37 = .ok (.invokespecial 28, 3) := by decide +kernel
theorem dX8_init_40 : decode cX8_init 40 = .ok (.putfield 29, 3) := by decide +kernel
theorem dX8_init_43 : decode cX8_init 43 = .ok (.aload_n 0, 1) := by decide +kernel
theorem dX8_init_44 : decode cX8_init 44 = .ok (.new 33, 3) := by decide +kernel
theorem dX8_init_47 : decode cX8_init 47 = .ok (.dup, 1) := by decide +kernel
theorem dX8_init_48 : decode cX8_init 48 = .ok (.invokespecial 35, 3) := by decide +kernel
theorem dX8_init_51 : decode cX8_init 51 = .ok (.putfield 36, 3) := by decide +kernel
theorem dX8_init_54 : decode cX8_init 54 = .ok (.aload_n 0, 1) := by decide +kernel
theorem dX8_init_55 : decode cX8_init 55 = .ok (.new 40, 3) := by decide +kernel
theorem dX8_init_58 : decode cX8_init 58 = .ok (.dup, 1) := by decide +kernel
theorem dX8_init_59 : decode cX8_init 59 = .ok (.invokespecial 42, 3) := by decide +kernel
theorem dX8_init_62 : decode cX8_init 62 = .ok (.putfield 43, 3) := by decide +kernel
theorem dX8_init_65 : decode cX8_init 65 = .ok (.aload_n 0, 1) := by decide +kernel
theorem dX8_init_66 : decode cX8_init 66 = .ok (.iconst 0, 1) := by decide +kernel
theorem dX8_init_67 : decode cX8_init 67 = .ok (.putfield 47, 3) := by decide +kernel
theorem dX8_init_70 : decode cX8_init 70 = .ok (.aload_n 0, 1) := by decide +kernel
theorem dX8_init_71 : decode cX8_init 71 = .ok (.iconst 0, 1) := by decide +kernel
theorem dX8_init_72 : decode cX8_init 72 = .ok (.putfield 51, 3) := by decide +kernel
theorem dX8_init_75 : decode cX8_init 75 = .ok (.return_, 1) := by decide +kernel
theorem dX8_town_0 : decode cX8_town 0 = .ok (.iload_n 1, 1) := by decide +kernel
theorem dX8_town_1 : decode cX8_town 1 = .ok (.ifCond .lt 10, 3) := by decide +kernel
theorem dX8_town_4 : decode cX8_town 4 = .ok (.iload_n 1, 1) := by decide +kernel
theorem dX8_town_5 : decode cX8_town 5 = .ok (.sipush 4400, 3) := by decide +kernel
theorem dX8_town_8 : decode cX8_town 8 = .ok (.if_icmp .lt 13, 3) := by decide +kernel
theorem dX8_town_11 : decode cX8_town 11 = .ok (.new 54, 3) := by decide +kernel
theorem dX8_town_14 : decode cX8_town 14 = .ok (.dup, 1) := by decide +kernel
theorem dX8_town_15 : decode cX8_town 15 = .ok (.ldc 56, 2) := by decide +kernel
theorem dX8_town_17 : decode cX8_town 17 = .ok (.invokespecial 58, 3) := by decide +kernel
theorem dX8_town_20 : decode cX8_town 20 = .ok (.athrow, 1) := by decide +kernel
theorem dX8_town_21 : decode cX8_town 21 = .ok (.aload_n 0, 1) := by decide +kernel
theorem dX8_town_22 : decode cX8_town 22 = .ok (.getfield 47, 3) := by decide +kernel
theorem dX8_town_25 : decode cX8_town 25 = .ok (.bipush 10, 2) := by decide +kernel
theorem dX8_town_27 : decode cX8_town 27 = .ok (.if_icmp .lt 13, 3) := by decide +kernel
theorem dX8_town_30 : decode cX8_town 30 = .ok (.new 61, 3) := by decide +kernel
theorem dX8_town_33 : decode cX8_town 33 = .ok (.dup, 1) := by decide +kernel
theorem dX8_town_34 : decode cX8_town 34 = .ok (.ldc 63, 2) := by decide +kernel
theorem dX8_town_36 : decode cX8_town 36 = .ok (.invokespecial 65, 3) := by decide +kernel
theorem dX8_town_39 : decode cX8_town 39 = .ok (.athrow, 1) := by decide +kernel
theorem dX8_town_40 : decode cX8_town 40 = .ok (.aload_n 0, 1) := by decide +kernel
theorem dX8_town_41 : decode cX8_town 41 = .ok (.getfield 9, 3) := by decide +kernel
theorem dX8_town_44 : decode cX8_town 44 = .ok (.aload_n 0, 1) := by decide +kernel
theorem dX8_town_45 : decode cX8_town 45 = .ok (.getfield 47, 3) := by decide +kernel
theorem dX8_town_48 : decode cX8_town 48 = .ok (.iload_n 1, 1) := by decide +kernel
theorem dX8_town_49 : decode cX8_town 49 = .ok (.iastore, 1) := by decide +kernel
theorem dX8_town_50 : decode cX8_town 50 = .ok (.aload_n 0, 1) := by decide +kernel
theorem dX8_town_51 : decode cX8_town 51 = .ok (.dup, 1) := by decide +kernel
theorem dX8_town_52 : decode cX8_town 52 = .ok (.getfield 47, 3) := by decide +kernel
theorem dX8_town_55 : decode cX8_town 55 = .ok (.iconst 1, 1) := by decide +kernel
theorem dX8_town_56 : decode cX8_town 56 = .ok (.iadd, 1) := by decide +kernel
theorem dX8_town_57 : decode cX8_town 57 = .ok (.putfield 47, 3) := by decide +kernel
theorem dX8_town_60 : decode cX8_town 60 = .ok (.aload_n 0, 1) := by decide +kernel
theorem dX8_town_61 : decode cX8_town 61 = .ok (.getfield 47, 3) := by decide +kernel
theorem dX8_town_64 : decode cX8_town 64 = .ok (.iconst 1, 1) := by decide +kernel
theorem dX8_town_65 : decode cX8_town 65 = .ok (.isub, 1) := by decide +kernel
theorem dX8_town_66 : decode cX8_town 66 = .ok (.ireturn, 1) := by decide +kernel
set_option maxRecDepth 20000 in
theorem ggX8_of_X8_checkDay : GoodIn wsX8_of wsX8_checkDay := goodIn_ca (goodIn_r _ [7, 1, 2, 8, 9, 10, 11, 12, 13] (by decide +kernel) (by decide +kernel)) (goodIn_sub (fun _ h => List.mem_cons_of_mem _ (List.mem_append_right _ h)) (by decide +kernel))
set_option maxRecDepth 20000 in
theorem gX8_of_X8_checkDay : GoodIn wsX8_of (wsV RX8 66 RX8 yX8_checkDay wsX8_checkDay) := goodIn_app (goodIn_of _ (by decide +kernel)) ggX8_of_X8_checkDay
set_option maxRecDepth 20000 in
theorem ggX8_of_X0_signOf : GoodIn wsX8_of wsX0_signOf := goodIn_r _ [16, 17] (by decide +kernel) (by decide +kernel)
set_option maxRecDepth 20000 in
theorem gX8_of_X0_signOf : GoodIn wsX8_of (va_wsS RX8 72 yX0_signOf wsX0_signOf) := goodIn_app (goodIn_of _ (by decide +kernel)) ggX8_of_X0_signOf
theorem dX8_of_0 : decode cX8_of 0 = .ok (.aload_n 0, 1) := by decide +kernel
theorem dX8_of_1 : decode cX8_of 1 = .ok (.iload_n 1, 1) := by decide +kernel
theorem dX8_of_2 : decode cX8_of 2 = .ok (.invokevirtual 66, 3) := by decide +kernel
theorem dX8_of_5 : decode cX8_of 5 = .ok (.iload_n 2, 1) := by decide +kernel
theorem dX8_of_6 : decode cX8_of 6 = .ok (.ifCond .lt 9, 3) := by decide +kernel
theorem dX8_of_9 : decode cX8_of 9 = .ok (.iload_n 2, 1) := by decide +kernel
theorem dX8_of_10 : decode cX8_of 10 = .ok (.bipush 9, 2) := by decide +kernel
theorem dX8_of_12 : decode cX8_of 12 = .ok (.if_icmp .le 13, 3) := by decide +kernel
theorem dX8_of_15 : decode cX8_of 15 = .ok (.new 54, 3) := by decide +kernel
theorem dX8_of_18 : decode cX8_of 18 = .ok (.dup, 1) := by decide +kernel
theorem dX8_of_19 : decode cX8_of 19 = .ok (.ldc 70, 2) := by decide +kernel
theorem dX8_of_21 : decode cX8_of 21 = .ok (.invokespecial 58, 3) := by decide +kernel
theorem dX8_of_24 : decode cX8_of 24 = .ok (.athrow, 1) := by decide +kernel
theorem dX8_of_25 : decode cX8_of 25 = .ok (.iload_n 1, 1) := by decide +kernel
theorem dX8_of_26 : decode cX8_of 26 = .ok (.iload_n 2, 1) := by decide +kernel
theorem dX8_of_27 : decode cX8_of 27 = .ok (.iconst 0, 1) := by decide +kernel
theorem dX8_of_28 : decode cX8_of 28 = .ok (.invokestatic 72, 3) := by decide +kernel
theorem dX8_of_31 : decode cX8_of 31 = .ok (.ireturn, 1) := by decide +kernel
set_option maxRecDepth 20000 in
theorem ggX8_moon_X8_checkDay : GoodIn wsX8_moon wsX8_checkDay := goodIn_ca (goodIn_r _ [6, 7, 8, 9, 10, 11, 12, 13, 14] (by decide +kernel) (by decide +kernel)) (goodIn_sub (fun _ h => List.mem_cons_of_mem _ (List.mem_append_left _ (List.mem_append_right _ h))) (by decide +kernel))
set_option maxRecDepth 20000 in
theorem gX8_moon_X8_checkDay : GoodIn wsX8_moon (wsV RX8 66 RX8 yX8_checkDay wsX8_checkDay) := goodIn_app (goodIn_of _ (by decide +kernel)) ggX8_moon_X8_checkDay
set_option maxRecDepth 20000 in
theorem ggX8_moon_X8_checkTown : GoodIn wsX8_moon wsX8_checkTown := goodIn_ca (goodIn_r _ [18, 19, 20, 21, 26, 27, 28, 29, 30, 31, 32, 33] (by decide +kernel) (by decide +kernel)) (goodIn_sub (fun _ h => List.mem_cons_of_mem _ (List.mem_append_right _ h)) (by decide +kernel))
set_option maxRecDepth 20000 in
theorem gX8_moon_X8_checkTown : GoodIn wsX8_moon (wsV RX8 78 RX8 yX8_checkTown wsX8_checkTown) := goodIn_app (goodIn_of _ (by decide +kernel)) ggX8_moon_X8_checkTown
set_option maxRecDepth 20000 in
theorem ggX8_moon_X0_signOf : GoodIn wsX8_moon wsX0_signOf := goodIn_r _ [24, 25] (by decide +kernel) (by decide +kernel)
set_option maxRecDepth 20000 in
theorem gX8_moon_X0_signOf : GoodIn wsX8_moon (va_wsS RX8 72 yX0_signOf wsX0_signOf) := goodIn_app (goodIn_of _ (by decide +kernel)) ggX8_moon_X0_signOf
theorem dX8_moon_0 : decode cX8_moon 0 = .ok (.aload_n 0, 1) := by decide +kernel
theorem dX8_moon_1 : decode cX8_moon 1 = .ok (.iload_n 1, 1) := by decide +kernel
theorem dX8_moon_2 : decode cX8_moon 2 = .ok (.invokevirtual 66, 3) := by decide +kernel
theorem dX8_moon_5 : decode cX8_moon 5 = .ok (.aload_n 0, 1) := by decide +kernel
theorem dX8_moon_6 : decode cX8_moon 6 = .ok (.iload_n 2, 1) := by decide +kernel
theorem dX8_moon_7 : decode cX8_moon 7 = .ok (.invokevirtual 78, 3) := by decide +kernel
theorem dX8_moon_10 : decode cX8_moon 10 = .ok (.iload_n 1, 1) := by decide +kernel
theorem dX8_moon_11 : decode cX8_moon 11 = .ok (.bipush 10, 2) := by decide +kernel
theorem dX8_moon_13 : decode cX8_moon 13 = .ok (.aload_n 0, 1) := by decide +kernel
theorem dX8_moon_14 : decode cX8_moon 14 = .ok (.getfield 9, 3) := by decide +kernel
theorem dX8_moon_17 : decode cX8_moon 17 = .ok (.iload_n 2, 1) := by decide +kernel
theorem dX8_moon_18 : decode cX8_moon 18 = .ok (.iaload, 1) := by decide +kernel
theorem dX8_moon_19 : decode cX8_moon 19 = .ok (.invokestatic 72, 3) := by decide +kernel
theorem dX8_moon_22 : decode cX8_moon 22 = .ok (.ireturn, 1) := by decide +kernel
set_option maxRecDepth 20000 in
theorem ggX8_feed_X4_hasRoom : GoodIn wsX8_feed wsX4_hasRoom := goodIn_r _ [7, 8, 22, 23, 24, 25, 26, 27, 28] (by decide +kernel) (by decide +kernel)
set_option maxRecDepth 20000 in
theorem gX8_feed_X4_hasRoom : GoodIn wsX8_feed (wsV RX8 81 RX4 yX4_hasRoom wsX4_hasRoom) := goodIn_app (goodIn_of _ (by decide +kernel)) ggX8_feed_X4_hasRoom
set_option maxRecDepth 20000 in
theorem ggX8_feed_X4_put : GoodIn wsX8_feed wsX4_put := goodIn_r _ [12, 8, 13, 22, 23, 24, 25, 26, 27, 28] (by decide +kernel) (by decide +kernel)
set_option maxRecDepth 20000 in
theorem gX8_feed_X4_put : GoodIn wsX8_feed (wsV RX8 85 RX4 yX4_put wsX4_put) := goodIn_app (goodIn_of _ (by decide +kernel)) ggX8_feed_X4_put
theorem dX8_feed_0 : decode cX8_feed 0 = .ok (.aload_n 0, 1) := by decide +kernel
theorem dX8_feed_1 : decode cX8_feed 1 = .ok (.getfield 22, 3) := by decide +kernel
theorem dX8_feed_4 : decode cX8_feed 4 = .ok (.invokevirtual 81, 3) := by decide +kernel
theorem dX8_feed_7 : decode cX8_feed 7 = .ok (.ifCond .ne 5, 3) := by decide +kernel
theorem dX8_feed_10 : decode cX8_feed 10 = .ok (.iconst (-1), 1) := by decide +kernel
theorem dX8_feed_11 : decode cX8_feed 11 = .ok (.ireturn, 1) := by decide +kernel
theorem dX8_feed_12 : decode cX8_feed 12 = .ok (.aload_n 0, 1) := by decide +kernel
theorem dX8_feed_13 : decode cX8_feed 13 = .ok (.getfield 22, 3) := by decide +kernel
theorem dX8_feed_16 : decode cX8_feed 16 = .ok (.iload_n 1, 1) := by decide +kernel
theorem dX8_feed_17 : decode cX8_feed 17 = .ok (.invokevirtual 85, 3) := by decide +kernel
theorem dX8_feed_20 : decode cX8_feed 20 = .ok (.aload_n 0, 1) := by decide +kernel
theorem dX8_feed_21 : decode cX8_feed 21 = .ok (.getfield 22, 3) := by decide +kernel
theorem dX8_feed_24 : decode cX8_feed 24 = .ok (.iload_n 2, 1) := by decide +kernel
theorem dX8_feed_25 : decode cX8_feed 25 = .ok (.invokevirtual 85, 3) := by decide +kernel
theorem dX8_feed_28 : decode cX8_feed 28 = .ok (.aload_n 0, 1) := by decide +kernel
theorem dX8_feed_29 : decode cX8_feed 29 = .ok (.getfield 22, 3) := by decide +kernel
theorem dX8_feed_32 : decode cX8_feed 32 = .ok (.iload_n 3, 1) := by decide +kernel
theorem dX8_feed_33 : decode cX8_feed 33 = .ok (.invokevirtual 85, 3) := by decide +kernel
theorem dX8_feed_36 : decode cX8_feed 36 = .ok (.aload_n 0, 1) := by decide +kernel
theorem dX8_feed_37 : decode cX8_feed 37 = .ok (.getfield 22, 3) := by decide +kernel
theorem dX8_feed_40 : decode cX8_feed 40 = .ok (.iload 4, 2) := by decide +kernel
theorem dX8_feed_42 : decode cX8_feed 42 = .ok (.invokevirtual 85, 3) := by decide +kernel
theorem dX8_feed_45 : decode cX8_feed 45 = .ok (.aload_n 0, 1) := by decide +kernel
theorem dX8_feed_46 : decode cX8_feed 46 = .ok (.getfield 22, 3) := by decide +kernel
theorem dX8_feed_49 : decode cX8_feed 49 = .ok (.iload 5, 2) := by decide +kernel
theorem dX8_feed_51 : decode cX8_feed 51 = .ok (.invokevirtual 85, 3) := by decide +kernel
theorem dX8_feed_54 : decode cX8_feed 54 = .ok (.aload_n 0, 1) := by decide +kernel
theorem dX8_feed_55 : decode cX8_feed 55 = .ok (.getfield 22, 3) := by decide +kernel
theorem dX8_feed_58 : decode cX8_feed 58 = .ok (.getfield 88, 3) := by decide +kernel
theorem dX8_feed_61 : decode cX8_feed 61 = .ok (.ireturn, 1) := by decide +kernel
set_option maxRecDepth 20000 in
theorem ggX8_stone_X8_checkTown : GoodIn wsX8_stone wsX8_checkTown := goodIn_ca (goodIn_r _ [30, 31, 32, 33, 260, 261, 262, 263, 264, 265, 266, 267] (by decide +kernel) (by decide +kernel)) (goodIn_sub (fun _ h => List.mem_cons_of_mem _ (List.mem_append_right _ h)) (by decide +kernel))
set_option maxRecDepth 20000 in
theorem gX8_stone_X8_checkTown : GoodIn wsX8_stone (wsV RX8 78 RX8 yX8_checkTown wsX8_checkTown) := goodIn_app (goodIn_of _ (by decide +kernel)) ggX8_stone_X8_checkTown
set_option maxRecDepth 20000 in
theorem ggX8_stone_X4_read : GoodIn wsX8_stone wsX4_read := goodIn_r _ [38, 39, 40, 41, 42, 43, 44, 45, 46, 47, 48, 49, 50, 51, 52, 53, 54, 55, 37, 56, 57, 58, 59, 60, 61, 62, 63, 64, 65, 66, 67, 68, 69, 70, 71, 72, 73, 74, 75, 76, 77, 78, 79, 80, 81, 82, 83, 84, 85, 86, 87, 88, 89, 90, 91, 92, 93, 94, 95, 96, 97, 98, 99, 100, 101, 102, 103, 104, 105, 106, 107, 108, 109, 110, 111, 112, 113, 114, 115, 116, 117, 118, 119, 120, 121, 122, 123, 124, 125, 126, 127, 128, 129, 130, 131, 132, 133, 134, 135, 136, 137, 138, 139, 140, 141, 142, 143, 144, 145, 146, 147, 148, 149, 150, 151, 152, 153, 154, 155, 156, 268, 269, 270, 271, 272, 273, 274] (by decide +kernel) (by decide +kernel)
set_option maxRecDepth 20000 in
theorem gX8_stone_X4_read : GoodIn wsX8_stone (wsV RX8 95 RX4 yX4_read wsX4_read) := goodIn_app (goodIn_of _ (by decide +kernel)) ggX8_stone_X4_read
set_option maxRecDepth 20000 in
theorem ggX8_stone_X1_seek : GoodIn wsX8_stone wsX1_seek := goodIn_r _ [161, 162, 163, 164, 165, 166, 167, 168, 160, 169, 170, 171, 172, 173, 174, 175, 176, 177, 178, 179, 51, 180, 181, 182, 183, 184, 185, 186, 187, 188, 189, 190, 191, 192, 193, 44, 41, 45, 194, 195, 196, 197, 198, 199, 200, 201, 202, 203, 204, 205, 206, 207, 208, 209, 210, 211, 212, 213, 214, 215, 216, 217, 218, 219, 220, 221, 222, 223, 224, 225, 226, 227, 228, 229, 230, 279, 280, 281, 282, 283, 284, 285, 286, 287, 288] (by decide +kernel) (by decide +kernel)
set_option maxRecDepth 20000 in
theorem gX8_stone_X1_seek : GoodIn wsX8_stone (wsV RX8 105 RX1 yX1_seek wsX1_seek) := goodIn_app (goodIn_of _ (by decide +kernel)) ggX8_stone_X1_seek
set_option maxRecDepth 20000 in
theorem ggX8_stone_J7_copyOf_59c91 : GoodIn wsX8_stone wsJ7_copyOf_59c91 := goodIn_r _ [233, 234, 16, 17, 18, 19, 235, 236, 237, 40, 41, 42, 238, 239, 240, 241] (by decide +kernel) (by decide +kernel)
set_option maxRecDepth 20000 in
theorem gX8_stone_J7_copyOf_59c91 : GoodIn wsX8_stone (va_wsS RX8 120 yJ7_copyOf_59c91 wsJ7_copyOf_59c91) := goodIn_app (goodIn_of _ (by decide +kernel)) ggX8_stone_J7_copyOf_59c91
set_option maxRecDepth 20000 in
theorem ggX8_stone_X6_init : GoodIn wsX8_stone wsX6_init := goodIn_r _ [244, 245, 246, 247, 248, 249, 250, 251, 275, 276, 277, 278] (by decide +kernel) (by decide +kernel)
set_option maxRecDepth 20000 in
theorem gX8_stone_X6_init : GoodIn wsX8_stone (wsX6_init) := ggX8_stone_X6_init
set_option maxRecDepth 20000 in
theorem ggX8_stone_X3_take : GoodIn wsX8_stone wsX3_take := goodIn_r _ [256, 257, 258, 259, 275, 276, 277, 278, 289, 290, 291, 292, 293, 294, 295, 296, 297, 298, 299, 300, 301] (by decide +kernel) (by decide +kernel)
set_option maxRecDepth 20000 in
theorem gX8_stone_X3_take : GoodIn wsX8_stone (wsV RX8 132 RX3 yX3_take wsX3_take) := goodIn_app (goodIn_of _ (by decide +kernel)) ggX8_stone_X3_take
theorem dX8_stone_0 : decode cX8_stone 0 = .ok (.aload_n 0, 1) := by decide +kernel
theorem dX8_stone_1 : decode cX8_stone 1 = .ok (.iload_n 1, 1) := by decide +kernel
theorem dX8_stone_2 : decode cX8_stone 2 = .ok (.invokevirtual 78, 3) := by decide +kernel
theorem dX8_stone_5 : decode cX8_stone 5 = .ok (.iload_n 2, 1) := by decide +kernel
theorem dX8_stone_6 : decode cX8_stone 6 = .ok (.ifCond .lt 14, 3) := by decide +kernel
theorem dX8_stone_9 : decode cX8_stone 9 = .ok (.iload_n 2, 1) := by decide +kernel
theorem dX8_stone_10 : decode cX8_stone 10 = .ok (.aload_n 0, 1) := by decide +kernel
theorem dX8_stone_11 : decode cX8_stone 11 = .ok (.getfield 22, 3) := by decide +kernel
theorem dX8_stone_14 : decode cX8_stone 14 = .ok (.getfield 88, 3) := by decide +kernel
theorem dX8_stone_17 : decode cX8_stone 17 = .ok (.if_icmp .le 13, 3) := by decide +kernel
theorem dX8_stone_20 : decode cX8_stone 20 = .ok (.new 54, 3) := by decide +kernel
theorem dX8_stone_23 : decode cX8_stone 23 = .ok (.dup, 1) := by decide +kernel
theorem dX8_stone_24 : decode cX8_stone 24 = .ok (.ldc 91, 2) := by decide +kernel
theorem dX8_stone_26 : decode cX8_stone 26 = .ok (.invokespecial 58, 3) := by decide +kernel
theorem dX8_stone_29 : decode cX8_stone 29 = .ok (.athrow, 1) := by decide +kernel
theorem dX8_stone_30 : decode cX8_stone 30 = .ok (.aload_n 0, 1) := by decide +kernel
theorem dX8_stone_31 : decode cX8_stone 31 = .ok (.getfield 51, 3) := by decide +kernel
theorem dX8_stone_34 : decode cX8_stone 34 = .ok (.bipush 30, 2) := by decide +kernel
theorem dX8_stone_36 : decode cX8_stone 36 = .ok (.if_icmp .lt 13, 3) := by decide +kernel
theorem dX8_stone_39 : decode cX8_stone 39 = .ok (.new 61, 3) := by decide +kernel
theorem dX8_stone_42 : decode cX8_stone 42 = .ok (.dup, 1) := by decide +kernel
theorem dX8_stone_43 : decode cX8_stone 43 = .ok (.ldc 93, 2) := by decide +kernel
theorem dX8_stone_45 : decode cX8_stone 45 = .ok (.invokespecial 65, 3) := by decide +kernel
theorem dX8_stone_48 : decode cX8_stone 48 = .ok (.athrow, 1) := by decide +kernel
theorem dX8_stone_49 : decode cX8_stone 49 = .ok (.aload_n 0, 1) := by decide +kernel
theorem dX8_stone_50 : decode cX8_stone 50 = .ok (.getfield 22, 3) := by decide +kernel
theorem dX8_stone_53 : decode cX8_stone 53 = .ok (.iload_n 2, 1) := by decide +kernel
theorem dX8_stone_54 : decode cX8_stone 54 = .ok (.invokevirtual 95, 3) := by decide +kernel
theorem dX8_stone_57 : decode cX8_stone 57 = .ok (.istore_n 3, 1) := by decide +kernel
theorem dX8_stone_58 : decode cX8_stone 58 = .ok (.aload_n 0, 1) := by decide +kernel
theorem dX8_stone_59 : decode cX8_stone 59 = .ok (.getfield 22, 3) := by decide +kernel
theorem dX8_stone_62 : decode cX8_stone 62 = .ok (.iconst 0, 1) := by decide +kernel
theorem dX8_stone_63 : decode cX8_stone 63 = .ok (.putfield 88, 3) := by decide +kernel
theorem dX8_stone_66 : decode cX8_stone 66 = .ok (.iload_n 3, 1) := by decide +kernel
theorem dX8_stone_67 : decode cX8_stone 67 = .ok (.ifCond .ne 14, 3) := by decide +kernel
theorem dX8_stone_70 : decode cX8_stone 70 = .ok (.bipush (-2), 2) := by decide +kernel
theorem dX8_stone_72 : decode cX8_stone 72 = .ok (.aload_n 0, 1) := by decide +kernel
theorem dX8_stone_73 : decode cX8_stone 73 = .ok (.getfield 22, 3) := by decide +kernel
theorem dX8_stone_76 : decode cX8_stone 76 = .ok (.getfield 99, 3) := by decide +kernel
theorem dX8_stone_79 : decode cX8_stone 79 = .ok (.isub, 1) := by decide +kernel
theorem dX8_stone_80 : decode cX8_stone 80 = .ok (.ireturn, 1) := by decide +kernel
theorem dX8_stone_81 : decode cX8_stone 81 = .ok (.aload_n 0, 1) := by decide +kernel
theorem dX8_stone_82 : decode cX8_stone 82 = .ok (.getfield 29, 3) := by decide +kernel
theorem dX8_stone_85 : decode cX8_stone 85 = .ok (.aload_n 0, 1) := by decide +kernel
theorem dX8_stone_86 : decode cX8_stone 86 = .ok (.getfield 22, 3) := by decide +kernel
theorem dX8_stone_89 : decode cX8_stone 89 = .ok (.getfield 102, 3) := by decide +kernel
theorem dX8_stone_92 : decode cX8_stone 92 = .ok (.aload_n 0, 1) := by decide +kernel
theorem dX8_stone_93 : decode cX8_stone 93 = .ok (.getfield 9, 3) := by decide +kernel
theorem dX8_stone_96 : decode cX8_stone 96 = .ok (.iload_n 1, 1) := by decide +kernel
theorem dX8_stone_97 : decode cX8_stone 97 = .ok (.iaload, 1) := by decide +kernel
theorem dX8_stone_98 : decode cX8_stone 98 = .ok (.invokevirtual 105, 3) := by decide +kernel
theorem dX8_stone_101 : decode cX8_stone 101 = .ok (.new 13, 3) := by decide +kernel
theorem dX8_stone_104 : decode cX8_stone 104 = .ok (.dup, 1) := by decide +kernel
theorem dX8_stone_105 : decode cX8_stone 105 = .ok (.aload_n 0, 1) := by decide +kernel
theorem dX8_stone_106 : decode cX8_stone 106 = .ok (.getfield 9, 3) := by decide +kernel
theorem dX8_stone_109 : decode cX8_stone 109 = .ok (.iload_n 1, 1) := by decide +kernel
theorem dX8_stone_110 : decode cX8_stone 110 = .ok (.iaload, 1) := by decide +kernel
theorem dX8_stone_111 : decode cX8_stone 111 = .ok (.aload_n 0, 1) := by decide +kernel
theorem dX8_stone_112 : decode cX8_stone 112 = .ok (.getfield 22, 3) := by decide +kernel
theorem dX8_stone_115 : decode cX8_stone 115 = .ok (.getfield 102, 3) := by decide +kernel
theorem dX8_stone_118 : decode cX8_stone 118 = .ok (.invokevirtual 109, 3) := by decide +kernel
theorem dX8_stone_121 : decode cX8_stone 121 = .ok (.checkcast 110, 3) := by decide +kernel
theorem dX8_stone_124 : decode cX8_stone 124 = .ok (.aload_n 0, 1) := by decide +kernel
theorem dX8_stone_125 : decode cX8_stone 125 = .ok (.getfield 29, 3) := by decide +kernel
theorem dX8_stone_128 : decode cX8_stone 128 = .ok (.getfield 114, 3) := by decide +kernel
theorem dX8_stone_131 : decode cX8_stone 131 = .ok (.aload_n 0, 1) := by decide +kernel
theorem dX8_stone_132 : decode cX8_stone 132 = .ok (.getfield 29, 3) := by decide +kernel
theorem dX8_stone_135 : decode cX8_stone 135 = .ok (.getfield 117, 3) := by decide +kernel
theorem dX8_stone_138 : decode cX8_stone 138 = .ok (.invokestatic 120, 3) := by decide +kernel
theorem dX8_stone_141 : decode cX8_stone 141 = .ok (.aload_n 0, 1) := by decide +kernel
theorem dX8_stone_142 : decode cX8_stone 142 = .ok (.getfield 29, 3) := by decide +kernel
theorem dX8_stone_145 : decode cX8_stone 145 = .ok (.getfield 126, 3) := by decide +kernel
theorem dX8_stone_148 : decode cX8_stone 148 = .ok (.invokespecial 129, 3) := by decide +kernel
theorem dX8_stone_151 : decode cX8_stone 151 = .ok (.astore 4, 2) := by decide +kernel
theorem dX8_stone_153 : decode cX8_stone 153 = .ok (.aload_n 0, 1) := by decide +kernel
theorem dX8_stone_154 : decode cX8_stone 154 = .ok (.getfield 15, 3) := by decide +kernel
theorem dX8_stone_157 : decode cX8_stone 157 = .ok (.aload_n 0, 1) := by decide +kernel
theorem dX8_stone_158 : decode cX8_stone 158 = .ok (.getfield 51, 3) := by decide +kernel
theorem dX8_stone_161 : decode cX8_stone 161 = .ok (.aload 4, 2) := by decide +kernel
theorem dX8_stone_163 : decode cX8_stone 163 = .ok (.aastore, 1) := by decide +kernel
theorem dX8_stone_164 : decode cX8_stone 164 = .ok (.aload_n 0, 1) := by decide +kernel
theorem dX8_stone_165 : decode cX8_stone 165 = .ok (.getfield 36, 3) := by decide +kernel
theorem dX8_stone_168 : decode cX8_stone 168 = .ok (.aload_n 0, 1) := by decide +kernel
theorem dX8_stone_169 : decode cX8_stone 169 = .ok (.getfield 51, 3) := by decide +kernel
theorem dX8_stone_172 : decode cX8_stone 172 = .ok (.aload 4, 2) := by decide +kernel
theorem dX8_stone_174 : decode cX8_stone 174 = .ok (.invokevirtual 132, 3) := by decide +kernel
theorem dX8_stone_177 : decode cX8_stone 177 = .ok (.aload_n 0, 1) := by decide +kernel
theorem dX8_stone_178 : decode cX8_stone 178 = .ok (.dup, 1) := by decide +kernel
theorem dX8_stone_179 : decode cX8_stone 179 = .ok (.getfield 51, 3) := by decide +kernel
theorem dX8_stone_182 : decode cX8_stone 182 = .ok (.iconst 1, 1) := by decide +kernel
theorem dX8_stone_183 : decode cX8_stone 183 = .ok (.iadd, 1) := by decide +kernel
theorem dX8_stone_184 : decode cX8_stone 184 = .ok (.putfield 51, 3) := by decide +kernel
theorem dX8_stone_187 : decode cX8_stone 187 = .ok (.aload_n 0, 1) := by decide +kernel
theorem dX8_stone_188 : decode cX8_stone 188 = .ok (.getfield 51, 3) := by decide +kernel
theorem dX8_stone_191 : decode cX8_stone 191 = .ok (.iconst 1, 1) := by decide +kernel
theorem dX8_stone_192 : decode cX8_stone 192 = .ok (.isub, 1) := by decide +kernel
theorem dX8_stone_193 : decode cX8_stone 193 = .ok (.ireturn, 1) := by decide +kernel
set_option maxRecDepth 20000 in
theorem ggX8_many_X8_stoneAt : GoodIn wsX8_many wsX8_stoneAt := goodIn_ca (goodIn_r _ [6, 7, 8, 9, 10, 15, 16, 17, 18, 19, 20, 21, 22] (by decide +kernel) (by decide +kernel)) (goodIn_sub (fun _ h => List.mem_cons_of_mem _ (List.mem_append_right _ h)) (by decide +kernel))
set_option maxRecDepth 20000 in
theorem gX8_many_X8_stoneAt : GoodIn wsX8_many (wsV RX8 136 RX8 yX8_stoneAt wsX8_stoneAt) := goodIn_app (goodIn_of _ (by decide +kernel)) ggX8_many_X8_stoneAt
theorem dX8_many_0 : decode cX8_many 0 = .ok (.aload_n 0, 1) := by decide +kernel
theorem dX8_many_1 : decode cX8_many 1 = .ok (.iload_n 1, 1) := by decide +kernel
theorem dX8_many_2 : decode cX8_many 2 = .ok (.invokevirtual 136, 3) := by decide +kernel
theorem dX8_many_5 : decode cX8_many 5 = .ok (.getfield 140, 3) := by decide +kernel
theorem dX8_many_8 : decode cX8_many 8 = .ok (.ireturn, 1) := by decide +kernel
set_option maxRecDepth 20000 in
theorem ggX8_day_X8_stoneAt : GoodIn wsX8_day wsX8_stoneAt := goodIn_ca (goodIn_r _ [6, 7, 8, 9, 10, 15, 16, 17, 18, 19, 20, 21, 22] (by decide +kernel) (by decide +kernel)) (goodIn_sub (fun _ h => List.mem_cons_of_mem _ (List.mem_append_right _ h)) (by decide +kernel))
set_option maxRecDepth 20000 in
theorem gX8_day_X8_stoneAt : GoodIn wsX8_day (wsV RX8 136 RX8 yX8_stoneAt wsX8_stoneAt) := goodIn_app (goodIn_of _ (by decide +kernel)) ggX8_day_X8_stoneAt
theorem dX8_day_0 : decode cX8_day 0 = .ok (.aload_n 0, 1) := by decide +kernel
theorem dX8_day_1 : decode cX8_day 1 = .ok (.iload_n 1, 1) := by decide +kernel
theorem dX8_day_2 : decode cX8_day 2 = .ok (.invokevirtual 136, 3) := by decide +kernel
theorem dX8_day_5 : decode cX8_day 5 = .ok (.getfield 141, 3) := by decide +kernel
theorem dX8_day_8 : decode cX8_day 8 = .ok (.astore_n 3, 1) := by decide +kernel
theorem dX8_day_9 : decode cX8_day 9 = .ok (.iload_n 2, 1) := by decide +kernel
theorem dX8_day_10 : decode cX8_day 10 = .ok (.ifCond .lt 15, 3) := by decide +kernel
theorem dX8_day_13 : decode cX8_day 13 = .ok (.iload_n 2, 1) := by decide +kernel
theorem dX8_day_14 : decode cX8_day 14 = .ok (.aload_n 3, 1) := by decide +kernel
theorem dX8_day_15 : decode cX8_day 15 = .ok (.arraylength, 1) := by decide +kernel
theorem dX8_day_16 : decode cX8_day 16 = .ok (.if_icmp .ge 9, 3) := by decide +kernel
theorem dX8_day_19 : decode cX8_day 19 = .ok (.aload_n 3, 1) := by decide +kernel
theorem dX8_day_20 : decode cX8_day 20 = .ok (.iload_n 2, 1) := by decide +kernel
theorem dX8_day_21 : decode cX8_day 21 = .ok (.iaload, 1) := by decide +kernel
theorem dX8_day_22 : decode cX8_day 22 = .ok (.goto 4, 3) := by decide +kernel
theorem dX8_day_25 : decode cX8_day 25 = .ok (.iconst (-1), 1) := by decide +kernel
theorem dX8_day_26 : decode cX8_day 26 = .ok (.ireturn, 1) := by decide +kernel
set_option maxRecDepth 20000 in
theorem ggX8_fits_X8_stoneAt : GoodIn wsX8_fits wsX8_stoneAt := goodIn_ca (goodIn_r _ [5, 6, 7, 8, 9, 36, 37, 38, 39, 40, 41, 42, 43] (by decide +kernel) (by decide +kernel)) (goodIn_sub (fun _ h => List.mem_cons_of_mem _ (List.mem_append_left _ (List.mem_append_right _ h))) (by decide +kernel))
set_option maxRecDepth 20000 in
theorem gX8_fits_X8_stoneAt : GoodIn wsX8_fits (wsV RX8 136 RX8 yX8_stoneAt wsX8_stoneAt) := goodIn_app (goodIn_of _ (by decide +kernel)) ggX8_fits_X8_stoneAt
set_option maxRecDepth 20000 in
theorem ggX8_fits_X8_checkDay : GoodIn wsX8_fits wsX8_checkDay := goodIn_ca (goodIn_r _ [13, 14, 15, 16, 17, 18, 19, 20, 21] (by decide +kernel) (by decide +kernel)) (goodIn_sub (fun _ h => List.mem_cons_of_mem _ (List.mem_append_right _ h)) (by decide +kernel))
set_option maxRecDepth 20000 in
theorem gX8_fits_X8_checkDay : GoodIn wsX8_fits (wsV RX8 66 RX8 yX8_checkDay wsX8_checkDay) := goodIn_app (goodIn_of _ (by decide +kernel)) ggX8_fits_X8_checkDay
set_option maxRecDepth 20000 in
theorem ggX8_fits_X6_allows : GoodIn wsX8_fits wsX6_allows := goodIn_r _ [26, 27, 28, 29, 30, 18, 31, 32, 33, 34, 35, 44, 45, 46, 47] (by decide +kernel) (by decide +kernel)
set_option maxRecDepth 20000 in
theorem gX8_fits_X6_allows : GoodIn wsX8_fits (wsV RX8 142 RX6 yX6_allows wsX6_allows) := goodIn_app (goodIn_of _ (by decide +kernel)) ggX8_fits_X6_allows
theorem dX8_fits_0 : decode cX8_fits 0 = .ok (.aload_n 0, 1) := by decide +kernel
theorem dX8_fits_1 : decode cX8_fits 1 = .ok (.iload_n 1, 1) := by decide +kernel
theorem dX8_fits_2 : decode cX8_fits 2 = .ok (.invokevirtual 136, 3) := by decide +kernel
theorem dX8_fits_5 : decode cX8_fits 5 = .ok (.astore_n 3, 1) := by decide +kernel
theorem dX8_fits_6 : decode cX8_fits 6 = .ok (.aload_n 0, 1) := by decide +kernel
theorem dX8_fits_7 : decode cX8_fits 7 = .ok (.iload_n 2, 1) := by decide +kernel
theorem dX8_fits_8 : decode cX8_fits 8 = .ok (.invokevirtual 66, 3) := by decide +kernel
theorem dX8_fits_11 : decode cX8_fits 11 = .ok (.aload_n 3, 1) := by decide +kernel
theorem dX8_fits_12 : decode cX8_fits 12 = .ok (.iload_n 2, 1) := by decide +kernel
theorem dX8_fits_13 : decode cX8_fits 13 = .ok (.invokevirtual 142, 3) := by decide +kernel
theorem dX8_fits_16 : decode cX8_fits 16 = .ok (.ireturn, 1) := by decide +kernel
set_option maxRecDepth 20000 in
theorem ggX8_distance_X8_stoneAt : GoodIn wsX8_distance wsX8_stoneAt := goodIn_ca (goodIn_r _ [13, 14, 15, 16, 17, 27, 28, 29, 30, 31, 32, 33, 34] (by decide +kernel) (by decide +kernel)) (goodIn_sub (fun _ h => List.mem_cons_of_mem _ (List.mem_append_right _ h)) (by decide +kernel))
set_option maxRecDepth 20000 in
theorem gX8_distance_X8_stoneAt : GoodIn wsX8_distance (wsV RX8 136 RX8 yX8_stoneAt wsX8_stoneAt) := goodIn_app (goodIn_of _ (by decide +kernel)) ggX8_distance_X8_stoneAt
set_option maxRecDepth 20000 in
theorem ggX8_distance_X3_add : GoodIn wsX8_distance wsX3_add := goodIn_r _ [22, 23, 24, 25, 26, 35, 36, 37, 38, 39, 40, 41, 42, 43, 44, 45, 46, 47] (by decide +kernel) (by decide +kernel)
set_option maxRecDepth 20000 in
theorem gX8_distance_X3_add : GoodIn wsX8_distance (wsV RX8 152 RX3 yX3_add wsX3_add) := goodIn_app (goodIn_of _ (by decide +kernel)) ggX8_distance_X3_add
theorem dX8_distance_0 : decode cX8_distance 0 = .ok (.aload_n 0, 1) := by decide +kernel
theorem dX8_distance_1 : decode cX8_distance 1 = .ok (.iload_n 1, 1) := by decide +kernel
theorem dX8_distance_2 : decode cX8_distance 2 = .ok (.invokevirtual 136, 3) := by decide +kernel
theorem dX8_distance_5 : decode cX8_distance 5 = .ok (.pop, 1) := by decide +kernel
theorem dX8_distance_6 : decode cX8_distance 6 = .ok (.aload_n 0, 1) := by decide +kernel
theorem dX8_distance_7 : decode cX8_distance 7 = .ok (.iload_n 2, 1) := by decide +kernel
theorem dX8_distance_8 : decode cX8_distance 8 = .ok (.invokevirtual 136, 3) := by decide +kernel
theorem dX8_distance_11 : decode cX8_distance 11 = .ok (.pop, 1) := by decide +kernel
theorem dX8_distance_12 : decode cX8_distance 12 = .ok (.iload_n 1, 1) := by decide +kernel
theorem dX8_distance_13 : decode cX8_distance 13 = .ok (.iload_n 2, 1) := by decide +kernel
theorem dX8_distance_14 : decode cX8_distance 14 = .ok (.if_icmp .eq 15, 3) := by decide +kernel
theorem dX8_distance_17 : decode cX8_distance 17 = .ok (.iload_n 3, 1) := by decide +kernel
theorem dX8_distance_18 : decode cX8_distance 18 = .ok (.ldc 145, 2) := by decide +kernel
theorem dX8_distance_20 : decode cX8_distance 20 = .ok (.if_icmp .lt 9, 3) := by decide +kernel
theorem dX8_distance_23 : decode cX8_distance 23 = .ok (.iload_n 3, 1) := by decide +kernel
theorem dX8_distance_24 : decode cX8_distance 24 = .ok (.ldc 146, 2) := by decide +kernel
theorem dX8_distance_26 : decode cX8_distance 26 = .ok (.if_icmp .le 13, 3) := by decide +kernel
theorem dX8_distance_29 : decode cX8_distance 29 = .ok (.new 54, 3) := by decide +kernel
theorem dX8_distance_32 : decode cX8_distance 32 = .ok (.dup, 1) := by decide +kernel
theorem dX8_distance_33 : decode cX8_distance 33 = .ok (.ldc 147, 2) := by decide +kernel
theorem dX8_distance_35 : decode cX8_distance 35 = .ok (.invokespecial 58, 3) := by decide +kernel
theorem dX8_distance_38 : decode cX8_distance 38 = .ok (.athrow, 1) := by decide +kernel
theorem dX8_distance_39 : decode cX8_distance 39 = .ok (.aload_n 0, 1) := by decide +kernel
theorem dX8_distance_40 : decode cX8_distance 40 = .ok (.getfield 36, 3) := by decide +kernel
theorem dX8_distance_43 : decode cX8_distance 43 = .ok (.getfield 149, 3) := by decide +kernel
theorem dX8_distance_46 : decode cX8_distance 46 = .ok (.bipush 12, 2) := by decide +kernel
theorem dX8_distance_48 : decode cX8_distance 48 = .ok (.if_icmp .lt 13, 3) := by decide +kernel
theorem dX8_distance_51 : decode cX8_distance 51 = .ok (.new 61, 3) := by decide +kernel
theorem dX8_distance_54 : decode cX8_distance 54 = .ok (.dup, 1) := by decide +kernel
theorem dX8_distance_55 : decode cX8_distance 55 = .ok (.ldc 150, 2) := by decide +kernel
theorem dX8_distance_57 : decode cX8_distance 57 = .ok (.invokespecial 65, 3) := by decide +kernel
theorem dX8_distance_60 : decode cX8_distance 60 = .ok (.athrow, 1) := by decide +kernel
theorem dX8_distance_61 : decode cX8_distance 61 = .ok (.aload_n 0, 1) := by decide +kernel
theorem dX8_distance_62 : decode cX8_distance 62 = .ok (.getfield 36, 3) := by decide +kernel
theorem dX8_distance_65 : decode cX8_distance 65 = .ok (.iload_n 1, 1) := by decide +kernel
theorem dX8_distance_66 : decode cX8_distance 66 = .ok (.iload_n 2, 1) := by decide +kernel
theorem dX8_distance_67 : decode cX8_distance 67 = .ok (.iload_n 3, 1) := by decide +kernel
theorem dX8_distance_68 : decode cX8_distance 68 = .ok (.invokevirtual 152, 3) := by decide +kernel
theorem dX8_distance_71 : decode cX8_distance 71 = .ok (.ireturn, 1) := by decide +kernel
set_option maxRecDepth 20000 in
theorem ggX8_least_X3_solve : GoodIn wsX8_least wsX3_solve := goodIn_r _ [7, 8, 9, 10, 11, 12, 13, 14, 6, 15, 16, 17, 18, 19, 20, 21, 22, 23, 24, 25, 26, 27, 28, 29, 30, 31, 32, 33, 34, 35, 36, 37, 38, 39, 40, 41, 42, 43, 44, 45, 46, 47, 48, 49, 50, 51, 52, 53, 54, 55, 56, 57, 58, 59, 68, 69, 70, 71, 72, 73, 74, 75, 76, 77, 78, 79, 80, 81, 82, 83, 84] (by decide +kernel) (by decide +kernel)
set_option maxRecDepth 20000 in
theorem gX8_least_X3_solve : GoodIn wsX8_least (wsV RX8 155 RX3 yX3_solve wsX3_solve) := goodIn_app (goodIn_of _ (by decide +kernel)) ggX8_least_X3_solve
theorem dX8_least_0 : decode cX8_least 0 = .ok (.aload_n 0, 1) := by decide +kernel
theorem dX8_least_1 : decode cX8_least 1 = .ok (.getfield 36, 3) := by decide +kernel
theorem dX8_least_4 : decode cX8_least 4 = .ok (.invokevirtual 155, 3) := by decide +kernel
theorem dX8_least_7 : decode cX8_least 7 = .ok (.aload_n 0, 1) := by decide +kernel
theorem dX8_least_8 : decode cX8_least 8 = .ok (.getfield 36, 3) := by decide +kernel
theorem dX8_least_11 : decode cX8_least 11 = .ok (.getfield 158, 3) := by decide +kernel
theorem dX8_least_14 : decode cX8_least 14 = .ok (.ireturn, 1) := by decide +kernel
set_option maxRecDepth 20000 in
theorem ggX8_wrong_X3_solve : GoodIn wsX8_wrong wsX3_solve := goodIn_r _ [6, 7, 8, 9, 10, 11, 12, 13, 5, 14, 15, 16, 17, 18, 19, 20, 21, 22, 23, 24, 25, 26, 27, 28, 29, 30, 31, 32, 33, 34, 35, 36, 37, 38, 39, 40, 41, 42, 43, 44, 45, 46, 47, 48, 49, 50, 51, 52, 53, 54, 55, 56, 57, 58, 71, 72, 73, 74, 75, 76, 77, 78, 79, 80, 81, 82, 83, 84, 85, 86, 87] (by decide +kernel) (by decide +kernel)
set_option maxRecDepth 20000 in
theorem gX8_wrong_X3_solve : GoodIn wsX8_wrong (wsV RX8 155 RX3 yX3_solve wsX3_solve) := goodIn_app (goodIn_of _ (by decide +kernel)) ggX8_wrong_X3_solve
set_option maxRecDepth 20000 in
theorem ggX8_wrong_X3_wrongAt : GoodIn wsX8_wrong wsX3_wrongAt := goodIn_r _ [62, 8, 10, 71, 72, 73, 74, 75, 76, 77, 78, 79, 80, 81, 82, 83] (by decide +kernel) (by decide +kernel)
set_option maxRecDepth 20000 in
theorem gX8_wrong_X3_wrongAt : GoodIn wsX8_wrong (wsV RX8 161 RX3 yX3_wrongAt wsX3_wrongAt) := goodIn_app (goodIn_of _ (by decide +kernel)) ggX8_wrong_X3_wrongAt
theorem dX8_wrong_0 : decode cX8_wrong 0 = .ok (.aload_n 0, 1) := by decide +kernel
theorem dX8_wrong_1 : decode cX8_wrong 1 = .ok (.getfield 36, 3) := by decide +kernel
theorem dX8_wrong_4 : decode cX8_wrong 4 = .ok (.invokevirtual 155, 3) := by decide +kernel
theorem dX8_wrong_7 : decode cX8_wrong 7 = .ok (.aload_n 0, 1) := by decide +kernel
theorem dX8_wrong_8 : decode cX8_wrong 8 = .ok (.getfield 36, 3) := by decide +kernel
theorem dX8_wrong_11 : decode cX8_wrong 11 = .ok (.iload_n 1, 1) := by decide +kernel
theorem dX8_wrong_12 : decode cX8_wrong 12 = .ok (.invokevirtual 161, 3) := by decide +kernel
theorem dX8_wrong_15 : decode cX8_wrong 15 = .ok (.ireturn, 1) := by decide +kernel
set_option maxRecDepth 20000 in
theorem ggX8_settled_X8_stoneAt : GoodIn wsX8_settled wsX8_stoneAt := goodIn_ca (goodIn_r _ [6, 7, 8, 9, 10, 72, 73, 74, 75, 76, 77, 78, 79] (by decide +kernel) (by decide +kernel)) (goodIn_sub (fun _ h => List.mem_cons_of_mem _ (List.mem_append_right _ h)) (by decide +kernel))
set_option maxRecDepth 20000 in
theorem gX8_settled_X8_stoneAt : GoodIn wsX8_settled (wsV RX8 136 RX8 yX8_stoneAt wsX8_stoneAt) := goodIn_app (goodIn_of _ (by decide +kernel)) ggX8_settled_X8_stoneAt
set_option maxRecDepth 20000 in
theorem ggX8_settled_X3_solve : GoodIn wsX8_settled wsX3_solve := goodIn_r _ [15, 16, 17, 18, 19, 20, 21, 22, 14, 23, 24, 25, 26, 27, 28, 29, 30, 31, 32, 33, 34, 35, 36, 37, 38, 39, 40, 41, 42, 43, 44, 45, 46, 47, 48, 49, 50, 51, 52, 53, 54, 55, 56, 57, 58, 59, 60, 61, 62, 63, 64, 65, 66, 67, 80, 81, 82, 83, 84, 85, 86, 87, 88, 89, 90, 91, 92, 93, 94, 95, 96] (by decide +kernel) (by decide +kernel)
set_option maxRecDepth 20000 in
theorem gX8_settled_X3_solve : GoodIn wsX8_settled (wsV RX8 155 RX3 yX3_solve wsX3_solve) := goodIn_app (goodIn_of _ (by decide +kernel)) ggX8_settled_X3_solve
set_option maxRecDepth 20000 in
theorem ggX8_settled_X3_settledSize : GoodIn wsX8_settled wsX3_settledSize := goodIn_r _ [71, 35, 42, 17, 64, 65, 66, 14, 67, 58, 63, 80, 81, 82, 83, 84, 85, 86, 87, 88, 89, 90, 91, 92, 93, 94, 95, 96] (by decide +kernel) (by decide +kernel)
set_option maxRecDepth 20000 in
theorem gX8_settled_X3_settledSize : GoodIn wsX8_settled (wsV RX8 165 RX3 yX3_settledSize wsX3_settledSize) := goodIn_app (goodIn_of _ (by decide +kernel)) ggX8_settled_X3_settledSize
theorem dX8_settled_0 : decode cX8_settled 0 = .ok (.aload_n 0, 1) := by decide +kernel
theorem dX8_settled_1 : decode cX8_settled 1 = .ok (.iload_n 1, 1) := by decide +kernel
theorem dX8_settled_2 : decode cX8_settled 2 = .ok (.invokevirtual 136, 3) := by decide +kernel
theorem dX8_settled_5 : decode cX8_settled 5 = .ok (.pop, 1) := by decide +kernel
theorem dX8_settled_6 : decode cX8_settled 6 = .ok (.aload_n 0, 1) := by decide +kernel
theorem dX8_settled_7 : decode cX8_settled 7 = .ok (.getfield 36, 3) := by decide +kernel
theorem dX8_settled_10 : decode cX8_settled 10 = .ok (.invokevirtual 155, 3) := by decide +kernel
theorem dX8_settled_13 : decode cX8_settled 13 = .ok (.aload_n 0, 1) := by decide +kernel
theorem dX8_settled_14 : decode cX8_settled 14 = .ok (.getfield 36, 3) := by decide +kernel
theorem dX8_settled_17 : decode cX8_settled 17 = .ok (.iload_n 1, 1) := by decide +kernel
theorem dX8_settled_18 : decode cX8_settled 18 = .ok (.invokevirtual 165, 3) := by decide +kernel
theorem dX8_settled_21 : decode cX8_settled 21 = .ok (.ireturn, 1) := by decide +kernel
set_option maxRecDepth 20000 in
theorem ggX8_settledDay_X8_stoneAt : GoodIn wsX8_settledDay wsX8_stoneAt := goodIn_ca (goodIn_r _ [6, 7, 8, 9, 10, 76, 77, 78, 79, 80, 81, 82, 83] (by decide +kernel) (by decide +kernel)) (goodIn_sub (fun _ h => List.mem_cons_of_mem _ (List.mem_append_right _ h)) (by decide +kernel))
set_option maxRecDepth 20000 in
theorem gX8_settledDay_X8_stoneAt : GoodIn wsX8_settledDay (wsV RX8 136 RX8 yX8_stoneAt wsX8_stoneAt) := goodIn_app (goodIn_of _ (by decide +kernel)) ggX8_settledDay_X8_stoneAt
set_option maxRecDepth 20000 in
theorem ggX8_settledDay_X3_solve : GoodIn wsX8_settledDay wsX3_solve := goodIn_r _ [15, 16, 17, 18, 19, 20, 21, 22, 14, 23, 24, 25, 26, 27, 28, 29, 30, 31, 32, 33, 34, 35, 36, 37, 38, 39, 40, 41, 42, 43, 44, 45, 46, 47, 48, 49, 50, 51, 52, 53, 54, 55, 56, 57, 58, 59, 60, 61, 62, 63, 64, 65, 66, 67, 84, 85, 86, 87, 88, 89, 90, 91, 92, 93, 94, 95, 96, 97, 98, 99, 100] (by decide +kernel) (by decide +kernel)
set_option maxRecDepth 20000 in
theorem gX8_settledDay_X3_solve : GoodIn wsX8_settledDay (wsV RX8 155 RX3 yX3_solve wsX3_solve) := goodIn_app (goodIn_of _ (by decide +kernel)) ggX8_settledDay_X3_solve
set_option maxRecDepth 20000 in
theorem ggX8_settledDay_X3_settledAt : GoodIn wsX8_settledDay wsX3_settledAt := goodIn_r _ [71, 42, 17, 47, 72, 73, 74, 14, 75, 35, 64, 65, 66, 67, 58, 63, 59, 60, 61, 62, 57, 84, 85, 86, 87, 88, 89, 90, 91, 92, 93, 94, 95, 96, 97, 98, 99, 100] (by decide +kernel) (by decide +kernel)
set_option maxRecDepth 20000 in
theorem gX8_settledDay_X3_settledAt : GoodIn wsX8_settledDay (wsV RX8 168 RX3 yX3_settledAt wsX3_settledAt) := goodIn_app (goodIn_of _ (by decide +kernel)) ggX8_settledDay_X3_settledAt
theorem dX8_settledDay_0 : decode cX8_settledDay 0 = .ok (.aload_n 0, 1) := by decide +kernel
theorem dX8_settledDay_1 : decode cX8_settledDay 1 = .ok (.iload_n 1, 1) := by decide +kernel
theorem dX8_settledDay_2 : decode cX8_settledDay 2 = .ok (.invokevirtual 136, 3) := by decide +kernel
theorem dX8_settledDay_5 : decode cX8_settledDay 5 = .ok (.pop, 1) := by decide +kernel
theorem dX8_settledDay_6 : decode cX8_settledDay 6 = .ok (.aload_n 0, 1) := by decide +kernel
theorem dX8_settledDay_7 : decode cX8_settledDay 7 = .ok (.getfield 36, 3) := by decide +kernel
theorem dX8_settledDay_10 : decode cX8_settledDay 10 = .ok (.invokevirtual 155, 3) := by decide +kernel
theorem dX8_settledDay_13 : decode cX8_settledDay 13 = .ok (.aload_n 0, 1) := by decide +kernel
theorem dX8_settledDay_14 : decode cX8_settledDay 14 = .ok (.getfield 36, 3) := by decide +kernel
theorem dX8_settledDay_17 : decode cX8_settledDay 17 = .ok (.iload_n 1, 1) := by decide +kernel
theorem dX8_settledDay_18 : decode cX8_settledDay 18 = .ok (.iload_n 2, 1) := by decide +kernel
theorem dX8_settledDay_19 : decode cX8_settledDay 19 = .ok (.invokevirtual 168, 3) := by decide +kernel
theorem dX8_settledDay_22 : decode cX8_settledDay 22 = .ok (.ireturn, 1) := by decide +kernel
set_option maxRecDepth 20000 in
theorem ggX8_eclipse_X5_add : GoodIn wsX8_eclipse wsX5_add := goodIn_r _ [9, 10, 11, 12, 13, 14, 15, 16, 25, 26, 27, 28, 29, 30, 31, 32, 33, 34, 35, 36, 37, 38, 39] (by decide +kernel) (by decide +kernel)
set_option maxRecDepth 20000 in
theorem gX8_eclipse_X5_add : GoodIn wsX8_eclipse (wsV RX8 175 RX5 yX5_add wsX5_add) := goodIn_app (goodIn_of _ (by decide +kernel)) ggX8_eclipse_X5_add
theorem dX8_eclipse_0 : decode cX8_eclipse 0 = .ok (.iload_n 1, 1) := by decide +kernel
theorem dX8_eclipse_1 : decode cX8_eclipse 1 = .ok (.ifCond .lt 9, 3) := by decide +kernel
theorem dX8_eclipse_4 : decode cX8_eclipse 4 = .ok (.iload_n 1, 1) := by decide +kernel
theorem dX8_eclipse_5 : decode cX8_eclipse 5 = .ok (.ldc 172, 2) := by decide +kernel
theorem dX8_eclipse_7 : decode cX8_eclipse 7 = .ok (.if_icmp .le 13, 3) := by decide +kernel
theorem dX8_eclipse_10 : decode cX8_eclipse 10 = .ok (.new 54, 3) := by decide +kernel
theorem dX8_eclipse_13 : decode cX8_eclipse 13 = .ok (.dup, 1) := by decide +kernel
theorem dX8_eclipse_14 : decode cX8_eclipse 14 = .ok (.ldc 173, 2) := by decide +kernel
theorem dX8_eclipse_16 : decode cX8_eclipse 16 = .ok (.invokespecial 58, 3) := by decide +kernel
theorem dX8_eclipse_19 : decode cX8_eclipse 19 = .ok (.athrow, 1) := by decide +kernel
theorem dX8_eclipse_20 : decode cX8_eclipse 20 = .ok (.aload_n 0, 1) := by decide +kernel
theorem dX8_eclipse_21 : decode cX8_eclipse 21 = .ok (.getfield 43, 3) := by decide +kernel
theorem dX8_eclipse_24 : decode cX8_eclipse 24 = .ok (.iload_n 1, 1) := by decide +kernel
theorem dX8_eclipse_25 : decode cX8_eclipse 25 = .ok (.invokevirtual 175, 3) := by decide +kernel
theorem dX8_eclipse_28 : decode cX8_eclipse 28 = .ok (.ireturn, 1) := by decide +kernel
set_option maxRecDepth 20000 in
theorem ggX8_names_X8_stoneAt : GoodIn wsX8_names wsX8_stoneAt := goodIn_ca (goodIn_r _ [10, 11, 12, 13, 14, 28, 29, 30, 31, 32, 33, 34, 35] (by decide +kernel) (by decide +kernel)) (goodIn_sub (fun _ h => List.mem_cons_of_mem _ (List.mem_append_right _ h)) (by decide +kernel))
set_option maxRecDepth 20000 in
theorem gX8_names_X8_stoneAt : GoodIn wsX8_names (wsV RX8 136 RX8 yX8_stoneAt wsX8_stoneAt) := goodIn_app (goodIn_of _ (by decide +kernel)) ggX8_names_X8_stoneAt
set_option maxRecDepth 20000 in
theorem ggX8_names_X5_tell : GoodIn wsX8_names wsX5_tell := goodIn_r _ [19, 20, 21, 22, 23, 36, 37, 38, 39, 40, 41, 42, 43, 44, 45, 46, 47, 48, 49, 50] (by decide +kernel) (by decide +kernel)
set_option maxRecDepth 20000 in
theorem gX8_names_X5_tell : GoodIn wsX8_names (wsV RX8 179 RX5 yX5_tell wsX5_tell) := goodIn_app (goodIn_of _ (by decide +kernel)) ggX8_names_X5_tell
theorem dX8_names_0 : decode cX8_names 0 = .ok (.aload_n 0, 1) := by decide +kernel
theorem dX8_names_1 : decode cX8_names 1 = .ok (.iload_n 1, 1) := by decide +kernel
theorem dX8_names_2 : decode cX8_names 2 = .ok (.invokevirtual 136, 3) := by decide +kernel
theorem dX8_names_5 : decode cX8_names 5 = .ok (.astore_n 3, 1) := by decide +kernel
theorem dX8_names_6 : decode cX8_names 6 = .ok (.aload_n 3, 1) := by decide +kernel
theorem dX8_names_7 : decode cX8_names 7 = .ok (.getfield 140, 3) := by decide +kernel
theorem dX8_names_10 : decode cX8_names 10 = .ok (.iconst 1, 1) := by decide +kernel
theorem dX8_names_11 : decode cX8_names 11 = .ok (.if_icmp .ne 12, 3) := by decide +kernel
theorem dX8_names_14 : decode cX8_names 14 = .ok (.aload_n 3, 1) := by decide +kernel
theorem dX8_names_15 : decode cX8_names 15 = .ok (.getfield 141, 3) := by decide +kernel
theorem dX8_names_18 : decode cX8_names 18 = .ok (.arraylength, 1) := by decide +kernel
theorem dX8_names_19 : decode cX8_names 19 = .ok (.iconst 1, 1) := by decide +kernel
theorem dX8_names_20 : decode cX8_names 20 = .ok (.if_icmp .eq 13, 3) := by decide +kernel
theorem dX8_names_23 : decode cX8_names 23 = .ok (.new 61, 3) := by decide +kernel
theorem dX8_names_26 : decode cX8_names 26 = .ok (.dup, 1) := by decide +kernel
theorem dX8_names_27 : decode cX8_names 27 = .ok (.ldc 177, 2) := by decide +kernel
theorem dX8_names_29 : decode cX8_names 29 = .ok (.invokespecial 65, 3) := by decide +kernel
theorem dX8_names_32 : decode cX8_names 32 = .ok (.athrow, 1) := by decide +kernel
theorem dX8_names_33 : decode cX8_names 33 = .ok (.aload_n 0, 1) := by decide +kernel
theorem dX8_names_34 : decode cX8_names 34 = .ok (.getfield 43, 3) := by decide +kernel
theorem dX8_names_37 : decode cX8_names 37 = .ok (.iload_n 1, 1) := by decide +kernel
theorem dX8_names_38 : decode cX8_names 38 = .ok (.aload_n 3, 1) := by decide +kernel
theorem dX8_names_39 : decode cX8_names 39 = .ok (.getfield 141, 3) := by decide +kernel
theorem dX8_names_42 : decode cX8_names 42 = .ok (.iconst 0, 1) := by decide +kernel
theorem dX8_names_43 : decode cX8_names 43 = .ok (.iaload, 1) := by decide +kernel
theorem dX8_names_44 : decode cX8_names 44 = .ok (.iload_n 2, 1) := by decide +kernel
theorem dX8_names_45 : decode cX8_names 45 = .ok (.invokevirtual 179, 3) := by decide +kernel
theorem dX8_names_48 : decode cX8_names 48 = .ok (.ireturn, 1) := by decide +kernel
set_option maxRecDepth 20000 in
theorem ggX8_start_X8_solveSky : GoodIn wsX8_start wsX8_solveSky := goodIn_ca (goodIn_ca (goodIn_r _ [7, 8, 9, 10, 11, 1, 12, 13, 14, 15, 16, 17, 18, 19, 20, 21, 22, 23, 24, 25, 26, 27, 28, 29, 30, 31, 32, 33, 34, 35, 36, 37, 38, 39, 40, 41, 42, 43, 44, 45, 46, 47, 48, 49, 50, 51, 52, 53, 54, 55, 56, 57, 58, 59, 60, 61, 62, 63, 64, 65, 66, 67, 68, 69, 70, 71, 72, 73, 74, 75, 76, 77, 78, 79, 80, 81, 82, 83] (by decide +kernel) (by decide +kernel)) (goodIn_sub (fun _ h => List.mem_cons_of_mem _ (List.mem_append_left _ (List.mem_append_right _ h))) (by decide +kernel))) (goodIn_sub (fun _ h => List.mem_cons_of_mem _ (List.mem_append_right _ h)) (by decide +kernel))
set_option maxRecDepth 20000 in
theorem gX8_start_X8_solveSky : GoodIn wsX8_start (wsV RX8 183 RX8 yX8_solveSky wsX8_solveSky) := goodIn_app (goodIn_of _ (by decide +kernel)) ggX8_start_X8_solveSky
theorem dX8_start_0 : decode cX8_start 0 = .ok (.aload_n 0, 1) := by decide +kernel
theorem dX8_start_1 : decode cX8_start 1 = .ok (.iload_n 1, 1) := by decide +kernel
theorem dX8_start_2 : decode cX8_start 2 = .ok (.invokevirtual 183, 3) := by decide +kernel
theorem dX8_start_5 : decode cX8_start 5 = .ok (.aload_n 0, 1) := by decide +kernel
theorem dX8_start_6 : decode cX8_start 6 = .ok (.getfield 43, 3) := by decide +kernel
theorem dX8_start_9 : decode cX8_start 9 = .ok (.getfield 186, 3) := by decide +kernel
theorem dX8_start_12 : decode cX8_start 12 = .ok (.ireturn, 1) := by decide +kernel
set_option maxRecDepth 20000 in
theorem ggX8_agrees_X8_solveSky : GoodIn wsX8_agrees wsX8_solveSky := goodIn_ca (goodIn_ca (goodIn_r _ [7, 8, 9, 10, 11, 1, 12, 13, 14, 15, 16, 17, 18, 19, 20, 21, 22, 23, 24, 25, 26, 27, 28, 29, 30, 31, 32, 33, 34, 35, 36, 37, 38, 39, 40, 41, 42, 43, 44, 45, 46, 47, 48, 49, 50, 51, 52, 53, 54, 55, 56, 57, 58, 59, 60, 61, 62, 63, 64, 65, 66, 67, 68, 69, 70, 71, 72, 73, 74, 75, 76, 77, 78, 79, 80, 81, 82, 83] (by decide +kernel) (by decide +kernel)) (goodIn_sub (fun _ h => List.mem_cons_of_mem _ (List.mem_append_left _ (List.mem_append_right _ h))) (by decide +kernel))) (goodIn_sub (fun _ h => List.mem_cons_of_mem _ (List.mem_append_right _ h)) (by decide +kernel))
set_option maxRecDepth 20000 in
theorem gX8_agrees_X8_solveSky : GoodIn wsX8_agrees (wsV RX8 183 RX8 yX8_solveSky wsX8_solveSky) := goodIn_app (goodIn_of _ (by decide +kernel)) ggX8_agrees_X8_solveSky
theorem dX8_agrees_0 : decode cX8_agrees 0 = .ok (.aload_n 0, 1) := by decide +kernel
theorem dX8_agrees_1 : decode cX8_agrees 1 = .ok (.iload_n 1, 1) := by decide +kernel
theorem dX8_agrees_2 : decode cX8_agrees 2 = .ok (.invokevirtual 183, 3) := by decide +kernel
theorem dX8_agrees_5 : decode cX8_agrees 5 = .ok (.aload_n 0, 1) := by decide +kernel
theorem dX8_agrees_6 : decode cX8_agrees 6 = .ok (.getfield 43, 3) := by decide +kernel
theorem dX8_agrees_9 : decode cX8_agrees 9 = .ok (.getfield 189, 3) := by decide +kernel
theorem dX8_agrees_12 : decode cX8_agrees 12 = .ok (.ireturn, 1) := by decide +kernel
theorem dX8_count_0 : decode cX8_count 0 = .ok (.iload_n 1, 1) := by decide +kernel
theorem dX8_count_1 : decode cX8_count 1 = .ok (.tableswitch 93 0 6 #[43, 48, 53, 61, 69, 77, 85], 43) := by decide +kernel
theorem dX8_count_44 : decode cX8_count 44 = .ok (.aload_n 0, 1) := by decide +kernel
theorem dX8_count_45 : decode cX8_count 45 = .ok (.getfield 47, 3) := by decide +kernel
theorem dX8_count_48 : decode cX8_count 48 = .ok (.ireturn, 1) := by decide +kernel
theorem dX8_count_49 : decode cX8_count 49 = .ok (.aload_n 0, 1) := by decide +kernel
theorem dX8_count_50 : decode cX8_count 50 = .ok (.getfield 51, 3) := by decide +kernel
theorem dX8_count_53 : decode cX8_count 53 = .ok (.ireturn, 1) := by decide +kernel
theorem dX8_count_54 : decode cX8_count 54 = .ok (.aload_n 0, 1) := by decide +kernel
theorem dX8_count_55 : decode cX8_count 55 = .ok (.getfield 36, 3) := by decide +kernel
theorem dX8_count_58 : decode cX8_count 58 = .ok (.getfield 149, 3) := by decide +kernel
theorem dX8_count_61 : decode cX8_count 61 = .ok (.ireturn, 1) := by decide +kernel
theorem dX8_count_62 : decode cX8_count 62 = .ok (.aload_n 0, 1) := by decide +kernel
theorem dX8_count_63 : decode cX8_count 63 = .ok (.getfield 43, 3) := by decide +kernel
theorem dX8_count_66 : decode cX8_count 66 = .ok (.getfield 192, 3) := by decide +kernel
theorem dX8_count_69 : decode cX8_count 69 = .ok (.ireturn, 1) := by decide +kernel
theorem dX8_count_70 : decode cX8_count 70 = .ok (.aload_n 0, 1) := by decide +kernel
theorem dX8_count_71 : decode cX8_count 71 = .ok (.getfield 43, 3) := by decide +kernel
theorem dX8_count_74 : decode cX8_count 74 = .ok (.getfield 193, 3) := by decide +kernel
theorem dX8_count_77 : decode cX8_count 77 = .ok (.ireturn, 1) := by decide +kernel
theorem dX8_count_78 : decode cX8_count 78 = .ok (.aload_n 0, 1) := by decide +kernel
theorem dX8_count_79 : decode cX8_count 79 = .ok (.getfield 22, 3) := by decide +kernel
theorem dX8_count_82 : decode cX8_count 82 = .ok (.getfield 88, 3) := by decide +kernel
theorem dX8_count_85 : decode cX8_count 85 = .ok (.ireturn, 1) := by decide +kernel
theorem dX8_count_86 : decode cX8_count 86 = .ok (.aload_n 0, 1) := by decide +kernel
theorem dX8_count_87 : decode cX8_count 87 = .ok (.getfield 36, 3) := by decide +kernel
theorem dX8_count_90 : decode cX8_count 90 = .ok (.getfield 196, 3) := by decide +kernel
theorem dX8_count_93 : decode cX8_count 93 = .ok (.ireturn, 1) := by decide +kernel
theorem dX8_count_94 : decode cX8_count 94 = .ok (.iconst (-1), 1) := by decide +kernel
theorem dX8_count_95 : decode cX8_count 95 = .ok (.ireturn, 1) := by decide +kernel
set_option maxRecDepth 20000 in
theorem ggX8_checkDay_X0_has : GoodIn wsX8_checkDay wsX0_has := goodIn_r _ [6, 7, 8] (by decide +kernel) (by decide +kernel)
set_option maxRecDepth 20000 in
theorem gX8_checkDay_X0_has : GoodIn wsX8_checkDay (va_wsS RX8 199 yX0_has wsX0_has) := goodIn_app (goodIn_of _ (by decide +kernel)) ggX8_checkDay_X0_has
theorem dX8_checkDay_0 : decode cX8_checkDay 0 = .ok (.iload_n 1, 1) := by decide +kernel
theorem dX8_checkDay_1 : decode cX8_checkDay 1 = .ok (.invokestatic 199, 3) := by decide +kernel
theorem dX8_checkDay_4 : decode cX8_checkDay 4 = .ok (.ifCond .ne 13, 3) := by decide +kernel
theorem dX8_checkDay_7 : decode cX8_checkDay 7 = .ok (.new 54, 3) := by decide +kernel
theorem dX8_checkDay_10 : decode cX8_checkDay 10 = .ok (.dup, 1) := by decide +kernel
theorem dX8_checkDay_11 : decode cX8_checkDay 11 = .ok (.ldc 202, 2) := by decide +kernel
theorem dX8_checkDay_13 : decode cX8_checkDay 13 = .ok (.invokespecial 58, 3) := by decide +kernel
theorem dX8_checkDay_16 : decode cX8_checkDay 16 = .ok (.athrow, 1) := by decide +kernel
theorem dX8_checkDay_17 : decode cX8_checkDay 17 = .ok (.return_, 1) := by decide +kernel
theorem dX8_checkTown_0 : decode cX8_checkTown 0 = .ok (.iload_n 1, 1) := by decide +kernel
theorem dX8_checkTown_1 : decode cX8_checkTown 1 = .ok (.ifCond .lt 11, 3) := by decide +kernel
theorem dX8_checkTown_4 : decode cX8_checkTown 4 = .ok (.iload_n 1, 1) := by decide +kernel
theorem dX8_checkTown_5 : decode cX8_checkTown 5 = .ok (.aload_n 0, 1) := by decide +kernel
theorem dX8_checkTown_6 : decode cX8_checkTown 6 = .ok (.getfield 47, 3) := by decide +kernel
theorem dX8_checkTown_9 : decode cX8_checkTown 9 = .ok (.if_icmp .lt 13, 3) := by decide +kernel
theorem dX8_checkTown_12 : decode cX8_checkTown 12 = .ok (.new 204, 3) := by decide +kernel
theorem dX8_checkTown_15 : decode cX8_checkTown 15 = .ok (.dup, 1) := by decide +kernel
theorem dX8_checkTown_16 : decode cX8_checkTown 16 = .ok (.ldc 206, 2) := by decide +kernel
theorem dX8_checkTown_18 : decode cX8_checkTown 18 = .ok (.invokespecial 208, 3) := by decide +kernel
theorem dX8_checkTown_21 : decode cX8_checkTown 21 = .ok (.athrow, 1) := by decide +kernel
theorem dX8_checkTown_22 : decode cX8_checkTown 22 = .ok (.return_, 1) := by decide +kernel
theorem dX8_stoneAt_0 : decode cX8_stoneAt 0 = .ok (.iload_n 1, 1) := by decide +kernel
theorem dX8_stoneAt_1 : decode cX8_stoneAt 1 = .ok (.ifCond .lt 20, 3) := by decide +kernel
theorem dX8_stoneAt_4 : decode cX8_stoneAt 4 = .ok (.iload_n 1, 1) := by decide +kernel
theorem dX8_stoneAt_5 : decode cX8_stoneAt 5 = .ok (.aload_n 0, 1) := by decide +kernel
theorem dX8_stoneAt_6 : decode cX8_stoneAt 6 = .ok (.getfield 51, 3) := by decide +kernel
theorem dX8_stoneAt_9 : decode cX8_stoneAt 9 = .ok (.if_icmp .ge 12, 3) := by decide +kernel
theorem dX8_stoneAt_12 : decode cX8_stoneAt 12 = .ok (.aload_n 0, 1) := by decide +kernel
theorem dX8_stoneAt_13 : decode cX8_stoneAt 13 = .ok (.getfield 15, 3) := by decide +kernel
theorem dX8_stoneAt_16 : decode cX8_stoneAt 16 = .ok (.iload_n 1, 1) := by decide +kernel
theorem dX8_stoneAt_17 : decode cX8_stoneAt 17 = .ok (.aaload, 1) := by decide +kernel
theorem dX8_stoneAt_18 : decode cX8_stoneAt 18 = .ok (.goto 4, 3) := by decide +kernel
theorem dX8_stoneAt_21 : decode cX8_stoneAt 21 = .ok (.aconst_null, 1) := by decide +kernel
theorem dX8_stoneAt_22 : decode cX8_stoneAt 22 = .ok (.astore_n 2, 1) := by decide +kernel
theorem dX8_stoneAt_23 : decode cX8_stoneAt 23 = .ok (.aload_n 2, 1) := by decide +kernel
theorem dX8_stoneAt_24 : decode cX8_stoneAt 24 = .ok (.ifnonnull 13, 3) := by decide +kernel
theorem dX8_stoneAt_27 : decode cX8_stoneAt 27 = .ok (.new 204, 3) := by decide +kernel
theorem dX8_stoneAt_30 : decode cX8_stoneAt 30 = .ok (.dup, 1) := by decide +kernel
theorem dX8_stoneAt_31 : decode cX8_stoneAt 31 = .ok (.ldc 209, 2) := by decide +kernel
theorem dX8_stoneAt_33 : decode cX8_stoneAt 33 = .ok (.invokespecial 208, 3) := by decide +kernel
theorem dX8_stoneAt_36 : decode cX8_stoneAt 36 = .ok (.athrow, 1) := by decide +kernel
theorem dX8_stoneAt_37 : decode cX8_stoneAt 37 = .ok (.aload_n 2, 1) := by decide +kernel
theorem dX8_stoneAt_38 : decode cX8_stoneAt 38 = .ok (.areturn, 1) := by decide +kernel
set_option maxRecDepth 20000 in
theorem ggX8_solveSky_X5_solve : GoodIn wsX8_solveSky wsX5_solve := goodIn_r _ [12, 13, 14, 15, 16, 17, 18, 19, 20, 21, 22, 23, 24, 11, 25, 26, 27, 28, 29, 30, 31, 32, 33, 34, 35, 36, 37, 38, 39, 40, 41, 42, 43, 44, 45, 46, 47, 48, 49, 50, 51, 52, 53, 54, 63, 64, 65, 66, 67, 68, 69, 70, 71, 72, 73, 74, 75, 76, 77] (by decide +kernel) (by decide +kernel)
set_option maxRecDepth 20000 in
theorem gX8_solveSky_X5_solve : GoodIn wsX8_solveSky (wsV RX8 215 RX5 yX5_solve wsX5_solve) := goodIn_app (goodIn_of _ (by decide +kernel)) ggX8_solveSky_X5_solve
theorem dX8_solveSky_0 : decode cX8_solveSky 0 = .ok (.iload_n 1, 1) := by decide +kernel
theorem dX8_solveSky_1 : decode cX8_solveSky 1 = .ok (.ifCond .lt 10, 3) := by decide +kernel
theorem dX8_solveSky_4 : decode cX8_solveSky 4 = .ok (.iload_n 1, 1) := by decide +kernel
theorem dX8_solveSky_5 : decode cX8_solveSky 5 = .ok (.sipush 1000, 3) := by decide +kernel
theorem dX8_solveSky_8 : decode cX8_solveSky 8 = .ok (.if_icmp .le 13, 3) := by decide +kernel
theorem dX8_solveSky_11 : decode cX8_solveSky 11 = .ok (.new 54, 3) := by decide +kernel
theorem dX8_solveSky_14 : decode cX8_solveSky 14 = .ok (.dup, 1) := by decide +kernel
theorem dX8_solveSky_15 : decode cX8_solveSky 15 = .ok (.ldc 211, 2) := by decide +kernel
theorem dX8_solveSky_17 : decode cX8_solveSky 17 = .ok (.invokespecial 58, 3) := by decide +kernel
theorem dX8_solveSky_20 : decode cX8_solveSky 20 = .ok (.athrow, 1) := by decide +kernel
theorem dX8_solveSky_21 : decode cX8_solveSky 21 = .ok (.aload_n 0, 1) := by decide +kernel
theorem dX8_solveSky_22 : decode cX8_solveSky 22 = .ok (.getfield 43, 3) := by decide +kernel
theorem dX8_solveSky_25 : decode cX8_solveSky 25 = .ok (.getfield 192, 3) := by decide +kernel
theorem dX8_solveSky_28 : decode cX8_solveSky 28 = .ok (.ifCond .eq 13, 3) := by decide +kernel
theorem dX8_solveSky_31 : decode cX8_solveSky 31 = .ok (.aload_n 0, 1) := by decide +kernel
theorem dX8_solveSky_32 : decode cX8_solveSky 32 = .ok (.getfield 43, 3) := by decide +kernel
theorem dX8_solveSky_35 : decode cX8_solveSky 35 = .ok (.getfield 193, 3) := by decide +kernel
theorem dX8_solveSky_38 : decode cX8_solveSky 38 = .ok (.ifCond .ne 13, 3) := by decide +kernel
theorem dX8_solveSky_41 : decode cX8_solveSky 41 = .ok (.new 61, 3) := by decide +kernel
theorem dX8_solveSky_44 : decode cX8_solveSky 44 = .ok (.dup, 1) := by decide +kernel
theorem dX8_solveSky_45 : decode cX8_solveSky 45 = .ok (.ldc 213, 2) := by decide +kernel
theorem dX8_solveSky_47 : decode cX8_solveSky 47 = .ok (.invokespecial 65, 3) := by decide +kernel
theorem dX8_solveSky_50 : decode cX8_solveSky 50 = .ok (.athrow, 1) := by decide +kernel
theorem dX8_solveSky_51 : decode cX8_solveSky 51 = .ok (.aload_n 0, 1) := by decide +kernel
theorem dX8_solveSky_52 : decode cX8_solveSky 52 = .ok (.getfield 43, 3) := by decide +kernel
theorem dX8_solveSky_55 : decode cX8_solveSky 55 = .ok (.iload_n 1, 1) := by decide +kernel
theorem dX8_solveSky_56 : decode cX8_solveSky 56 = .ok (.invokevirtual 215, 3) := by decide +kernel
theorem dX8_solveSky_59 : decode cX8_solveSky 59 = .ok (.return_, 1) := by decide +kernel
theorem dX9_init_0 : decode cX9_init 0 = .ok (.aload_n 0, 1) := by decide +kernel
theorem dX9_init_1 : decode cX9_init 1 = .ok (.invokespecial 1, 3) := by decide +kernel
theorem dX9_init_4 : decode cX9_init 4 = .ok (.aload_n 0, 1) := by decide +kernel
theorem dX9_init_5 : decode cX9_init 5 = .ok (.bipush 10, 2) := by decide +kernel
theorem dX9_init_7 : decode cX9_init 7 = .ok (.newarray .int, 2) := by decide +kernel
theorem dX9_init_9 : decode cX9_init 9 = .ok (.putfield 9, 3) := by decide +kernel
theorem dX9_init_12 : decode cX9_init 12 = .ok (.aload_n 0, 1) := by decide +kernel
theorem dX9_init_13 : decode cX9_init 13 = .ok (.sipush 200, 3) := by decide +kernel
theorem dX9_init_16 : decode cX9_init 16 = .ok (.newarray .byte, 2) := by decide +kernel
theorem dX9_init_18 : decode cX9_init 18 = .ok (.putfield 13, 3) := by decide +kernel
theorem dX9_init_21 : decode cX9_init 21 = .ok (.aload_n 0, 1) := by decide +kernel
theorem dX9_init_22 : decode cX9_init 22 = .ok (.sipush 341, 3) := by decide +kernel
theorem dX9_init_25 : decode cX9_init 25 = .ok (.newarray .long, 2) := by decide +kernel
theorem dX9_init_27 : decode cX9_init 27 = .ok (.putfield 17, 3) := by decide +kernel
theorem dX9_init_30 : decode cX9_init 30 = .ok (.aload_n 0, 1) := by decide +kernel
theorem dX9_init_31 : decode cX9_init 31 = .ok (.sipush 341, 3) := by decide +kernel
theorem dX9_init_34 : decode cX9_init 34 = .ok (.newarray .long, 2) := by decide +kernel
theorem dX9_init_36 : decode cX9_init 36 = .ok (.putfield 21, 3) := by decide +kernel
theorem dX9_init_39 : decode cX9_init 39 = .ok (.aload_n 0, 1) := by decide +kernel
theorem dX9_init_40 : decode cX9_init 40 = .ok (.bipush 30, 2) := by decide +kernel
theorem dX9_init_42 : decode cX9_init 42 = .ok (.newarray .int, 2) := by decide +kernel
theorem dX9_init_44 : decode cX9_init 44 = .ok (.putfield 24, 3) := by decide +kernel
theorem dX9_init_47 : decode cX9_init 47 = .ok (.aload_n 0, 1) := by decide +kernel
theorem dX9_init_48 : decode cX9_init 48 = .ok (.bipush 30, 2) := by decide +kernel
theorem dX9_init_50 : decode cX9_init 50 = .ok (.newarray .int, 2) := by decide +kernel
theorem dX9_init_52 : decode cX9_init 52 = .ok (.putfield 27, 3) := by decide +kernel
theorem dX9_init_55 : decode cX9_init 55 = .ok (.aload_n 0, 1) := by decide +kernel
theorem dX9_init_56 : decode cX9_init 56 = .ok (.sipush 9000, 3) := by decide +kernel
theorem dX9_init_59 : decode cX9_init 59 = .ok (.newarray .int, 2) := by decide +kernel
theorem dX9_init_61 : decode cX9_init 61 = .ok (.putfield 30, 3) := by decide +kernel
theorem dX9_init_64 : decode cX9_init 64 = .ok (.aload_n 0, 1) := by decide +kernel
theorem dX9_init_65 : decode cX9_init 65 = .ok (.bipush 12, 2) := by decide +kernel
theorem dX9_init_67 : decode cX9_init 67 = .ok (.newarray .int, 2) := by decide +kernel
theorem dX9_init_69 : decode cX9_init 69 = .ok (.putfield 33, 3) := by decide +kernel
theorem dX9_init_72 : decode cX9_init 72 = .ok (.aload_n 0, 1) := by decide +kernel
theorem dX9_init_73 : decode cX9_init 73 = .ok (.bipush 12, 2) := by decide +kernel
theorem dX9_init_75 : decode cX9_init 75 = .ok (.newarray .int, 2) := by decide +kernel
theorem dX9_init_77 : decode cX9_init 77 = .ok (.putfield 36, 3) := by decide +kernel
theorem dX9_init_80 : decode cX9_init 80 = .ok (.aload_n 0, 1) := by decide +kernel
theorem dX9_init_81 : decode cX9_init 81 = .ok (.bipush 12, 2) := by decide +kernel
theorem dX9_init_83 : decode cX9_init 83 = .ok (.newarray .int, 2) := by decide +kernel
theorem dX9_init_85 : decode cX9_init 85 = .ok (.putfield 39, 3) := by decide +kernel
theorem dX9_init_88 : decode cX9_init 88 = .ok (.aload_n 0, 1) := by decide +kernel
theorem dX9_init_89 : decode cX9_init 89 = .ok (.bipush 12, 2) := by decide +kernel
theorem dX9_init_91 : decode cX9_init 91 = .ok (.newarray .int, 2) := by decide +kernel
theorem dX9_init_93 : decode cX9_init 93 = .ok (.putfield 42, 3) := by decide +kernel
theorem dX9_init_96 : decode cX9_init 96 = .ok (.aload_n 0, 1) := by decide +kernel
theorem dX9_init_97 : decode cX9_init 97 = .ok (.bipush 30, 2) := by decide +kernel
theorem dX9_init_99 : decode cX9_init 99 = .ok (.newarray .int, 2) := by decide +kernel
theorem dX9_init_101 : decode cX9_init 101 = .ok (.putfield 45, 3) := by decide +kernel
theorem dX9_init_104 : decode cX9_init 104 = .ok (.aload_n 0, 1) := by decide +kernel
theorem dX9_init_105 : decode cX9_init 105 = .ok (.bipush 30, 2) := by decide +kernel
theorem dX9_init_107 : decode cX9_init 107 = .ok (.newarray .int, 2) := by decide +kernel
theorem dX9_init_109 : decode cX9_init 109 = .ok (.putfield 48, 3) := by decide +kernel
theorem dX9_init_112 : decode cX9_init 112 = .ok (.aload_n 0, 1) := by decide +kernel
theorem dX9_init_113 : decode cX9_init 113 = .ok (.sipush 9000, 3) := by decide +kernel
theorem dX9_init_116 : decode cX9_init 116 = .ok (.newarray .boolean, 2) := by decide +kernel
theorem dX9_init_118 : decode cX9_init 118 = .ok (.putfield 51, 3) := by decide +kernel
theorem dX9_init_121 : decode cX9_init 121 = .ok (.aload_n 0, 1) := by decide +kernel
theorem dX9_init_122 : decode cX9_init 122 = .ok (.bipush 40, 2) := by decide +kernel
theorem dX9_init_124 : decode cX9_init 124 = .ok (.newarray .int, 2) := by decide +kernel
theorem dX9_init_126 : decode cX9_init 126 = .ok (.putfield 55, 3) := by decide +kernel
theorem dX9_init_129 : decode cX9_init 129 = .ok (.aload_n 0, 1) := by decide +kernel
theorem dX9_init_130 : decode cX9_init 130 = .ok (.bipush 30, 2) := by decide +kernel
theorem dX9_init_132 : decode cX9_init 132 = .ok (.newarray .boolean, 2) := by decide +kernel
theorem dX9_init_134 : decode cX9_init 134 = .ok (.putfield 58, 3) := by decide +kernel
theorem dX9_init_137 : decode cX9_init 137 = .ok (.return_, 1) := by decide +kernel
theorem dX9_thrown_0 : decode cX9_thrown 0 = .ok (.aload_n 0, 1) := by decide +kernel
theorem dX9_thrown_1 : decode cX9_thrown 1 = .ok (.getfield 61, 3) := by decide +kernel
theorem dX9_thrown_4 : decode cX9_thrown 4 = .ok (.ireturn, 1) := by decide +kernel
theorem dX9_bad_0 : decode cX9_bad 0 = .ok (.iload_n 1, 1) := by decide +kernel
theorem dX9_bad_1 : decode cX9_bad 1 = .ok (.ifCond .eq 8, 3) := by decide +kernel
theorem dX9_bad_4 : decode cX9_bad 4 = .ok (.aload_n 0, 1) := by decide +kernel
theorem dX9_bad_5 : decode cX9_bad 5 = .ok (.iload_n 2, 1) := by decide +kernel
theorem dX9_bad_6 : decode cX9_bad 6 = .ok (.putfield 61, 3) := by decide +kernel
theorem dX9_bad_9 : decode cX9_bad 9 = .ok (.iload_n 1, 1) := by decide +kernel
theorem dX9_bad_10 : decode cX9_bad 10 = .ok (.ireturn, 1) := by decide +kernel
set_option maxRecDepth 20000 in
theorem ggX9_town_X9_bad : GoodIn wsX9_town wsX9_bad := goodIn_r _ [8, 1, 9, 10, 11, 12, 13, 14, 15, 16, 17, 18, 19, 20, 21, 22, 23, 24, 25, 26, 27, 28, 29, 30, 31, 32, 33, 34, 35, 36, 37, 38, 39, 40, 41] (by decide +kernel) (by decide +kernel)
set_option maxRecDepth 20000 in
theorem gX9_town_X9_bad : GoodIn wsX9_town (wsV RX9 65 RX9 yX9_bad wsX9_bad) := goodIn_app (goodIn_of _ (by decide +kernel)) ggX9_town_X9_bad
theorem dX9_town_0 : decode cX9_town 0 = .ok (.aload_n 0, 1) := by decide +kernel
theorem dX9_town_1 : decode cX9_town 1 = .ok (.iconst 0, 1) := by decide +kernel
theorem dX9_town_2 : decode cX9_town 2 = .ok (.putfield 61, 3) := by decide +kernel
theorem dX9_town_5 : decode cX9_town 5 = .ok (.aload_n 0, 1) := by decide +kernel
theorem dX9_town_6 : decode cX9_town 6 = .ok (.iload_n 1, 1) := by decide +kernel
theorem dX9_town_7 : decode cX9_town 7 = .ok (.ifCond .lt 10, 3) := by decide +kernel
theorem dX9_town_10 : decode cX9_town 10 = .ok (.iload_n 1, 1) := by decide +kernel
theorem dX9_town_11 : decode cX9_town 11 = .ok (.sipush 4399, 3) := by decide +kernel
theorem dX9_town_14 : decode cX9_town 14 = .ok (.if_icmp .le 7, 3) := by decide +kernel
theorem dX9_town_17 : decode cX9_town 17 = .ok (.iconst 1, 1) := by decide +kernel
theorem dX9_town_18 : decode cX9_town 18 = .ok (.goto 4, 3) := by decide +kernel
theorem dX9_town_21 : decode cX9_town 21 = .ok (.iconst 0, 1) := by decide +kernel
theorem dX9_town_22 : decode cX9_town 22 = .ok (.iconst 1, 1) := by decide +kernel
theorem dX9_town_23 : decode cX9_town 23 = .ok (.invokevirtual 65, 3) := by decide +kernel
theorem dX9_town_26 : decode cX9_town 26 = .ok (.ifCond .ne 25, 3) := by decide +kernel
theorem dX9_town_29 : decode cX9_town 29 = .ok (.aload_n 0, 1) := by decide +kernel
theorem dX9_town_30 : decode cX9_town 30 = .ok (.aload_n 0, 1) := by decide +kernel
theorem dX9_town_31 : decode cX9_town 31 = .ok (.getfield 69, 3) := by decide +kernel
theorem dX9_town_34 : decode cX9_town 34 = .ok (.bipush 10, 2) := by decide +kernel
theorem dX9_town_36 : decode cX9_town 36 = .ok (.if_icmp .ne 7, 3) := by decide +kernel
theorem dX9_town_39 : decode cX9_town 39 = .ok (.iconst 1, 1) := by decide +kernel
theorem dX9_town_40 : decode cX9_town 40 = .ok (.goto 4, 3) := by decide +kernel
theorem dX9_town_43 : decode cX9_town 43 = .ok (.iconst 0, 1) := by decide +kernel
theorem dX9_town_44 : decode cX9_town 44 = .ok (.iconst 2, 1) := by decide +kernel
theorem dX9_town_45 : decode cX9_town 45 = .ok (.invokevirtual 65, 3) := by decide +kernel
theorem dX9_town_48 : decode cX9_town 48 = .ok (.ifCond .eq 5, 3) := by decide +kernel
theorem dX9_town_51 : decode cX9_town 51 = .ok (.iconst 0, 1) := by decide +kernel
theorem dX9_town_52 : decode cX9_town 52 = .ok (.ireturn, 1) := by decide +kernel
theorem dX9_town_53 : decode cX9_town 53 = .ok (.aload_n 0, 1) := by decide +kernel
theorem dX9_town_54 : decode cX9_town 54 = .ok (.getfield 9, 3) := by decide +kernel
theorem dX9_town_57 : decode cX9_town 57 = .ok (.aload_n 0, 1) := by decide +kernel
theorem dX9_town_58 : decode cX9_town 58 = .ok (.getfield 69, 3) := by decide +kernel
theorem dX9_town_61 : decode cX9_town 61 = .ok (.iload_n 1, 1) := by decide +kernel
theorem dX9_town_62 : decode cX9_town 62 = .ok (.iastore, 1) := by decide +kernel
theorem dX9_town_63 : decode cX9_town 63 = .ok (.aload_n 0, 1) := by decide +kernel
theorem dX9_town_64 : decode cX9_town 64 = .ok (.dup, 1) := by decide +kernel
theorem dX9_town_65 : decode cX9_town 65 = .ok (.getfield 69, 3) := by decide +kernel
theorem dX9_town_68 : decode cX9_town 68 = .ok (.iconst 1, 1) := by decide +kernel
theorem dX9_town_69 : decode cX9_town 69 = .ok (.iadd, 1) := by decide +kernel
theorem dX9_town_70 : decode cX9_town 70 = .ok (.putfield 69, 3) := by decide +kernel
theorem dX9_town_73 : decode cX9_town 73 = .ok (.aload_n 0, 1) := by decide +kernel
theorem dX9_town_74 : decode cX9_town 74 = .ok (.getfield 69, 3) := by decide +kernel
theorem dX9_town_77 : decode cX9_town 77 = .ok (.iconst 1, 1) := by decide +kernel
theorem dX9_town_78 : decode cX9_town 78 = .ok (.isub, 1) := by decide +kernel
theorem dX9_town_79 : decode cX9_town 79 = .ok (.ireturn, 1) := by decide +kernel
theorem dX9_isDay_0 : decode cX9_isDay 0 = .ok (.iload_n 0, 1) := by decide +kernel
theorem dX9_isDay_1 : decode cX9_isDay 1 = .ok (.ldc 72, 2) := by decide +kernel
theorem dX9_isDay_3 : decode cX9_isDay 3 = .ok (.if_icmp .lt 13, 3) := by decide +kernel
theorem dX9_isDay_6 : decode cX9_isDay 6 = .ok (.iload_n 0, 1) := by decide +kernel
theorem dX9_isDay_7 : decode cX9_isDay 7 = .ok (.ldc 73, 2) := by decide +kernel
theorem dX9_isDay_9 : decode cX9_isDay 9 = .ok (.if_icmp .gt 7, 3) := by decide +kernel
theorem dX9_isDay_12 : decode cX9_isDay 12 = .ok (.iconst 1, 1) := by decide +kernel
theorem dX9_isDay_13 : decode cX9_isDay 13 = .ok (.goto 4, 3) := by decide +kernel
theorem dX9_isDay_16 : decode cX9_isDay 16 = .ok (.iconst 0, 1) := by decide +kernel
theorem dX9_isDay_17 : decode cX9_isDay 17 = .ok (.ireturn, 1) := by decide +kernel
theorem dX9_moonOf_0 : decode cX9_moonOf 0 = .ok (.iload_n 0, 1) := by decide +kernel
theorem dX9_moonOf_1 : decode cX9_moonOf 1 = .ok (.iload_n 1, 1) := by decide +kernel
theorem dX9_moonOf_2 : decode cX9_moonOf 2 = .ok (.iadd, 1) := by decide +kernel
theorem dX9_moonOf_3 : decode cX9_moonOf 3 = .ok (.i2l, 1) := by decide +kernel
theorem dX9_moonOf_4 : decode cX9_moonOf 4 = .ok (.ldc2_w 74, 3) := by decide +kernel
theorem dX9_moonOf_7 : decode cX9_moonOf 7 = .ok (.lmul, 1) := by decide +kernel
theorem dX9_moonOf_8 : decode cX9_moonOf 8 = .ok (.ldc2_w 76, 3) := by decide +kernel
theorem dX9_moonOf_11 : decode cX9_moonOf 11 = .ok (.lrem, 1) := by decide +kernel
theorem dX9_moonOf_12 : decode cX9_moonOf 12 = .ok (.l2i, 1) := by decide +kernel
theorem dX9_moonOf_13 : decode cX9_moonOf 13 = .ok (.sipush 149, 3) := by decide +kernel
theorem dX9_moonOf_16 : decode cX9_moonOf 16 = .ok (.idiv, 1) := by decide +kernel
theorem dX9_moonOf_17 : decode cX9_moonOf 17 = .ok (.ireturn, 1) := by decide +kernel
theorem dX9_valueOf_0 : decode cX9_valueOf 0 = .ok (.iload_n 1, 1) := by decide +kernel
theorem dX9_valueOf_1 : decode cX9_valueOf 1 = .ok (.tableswitch 132 0 8 #[51, 56, 65, 75, 84, 89, 98, 106, 119], 51) := by decide +kernel
theorem dX9_valueOf_52 : decode cX9_valueOf 52 = .ok (.iload_n 0, 1) := by decide +kernel
theorem dX9_valueOf_53 : decode cX9_valueOf 53 = .ok (.ldc 78, 2) := by decide +kernel
theorem dX9_valueOf_55 : decode cX9_valueOf 55 = .ok (.idiv, 1) := by decide +kernel
theorem dX9_valueOf_56 : decode cX9_valueOf 56 = .ok (.ireturn, 1) := by decide +kernel
theorem dX9_valueOf_57 : decode cX9_valueOf 57 = .ok (.iload_n 0, 1) := by decide +kernel
theorem dX9_valueOf_58 : decode cX9_valueOf 58 = .ok (.ldc 78, 2) := by decide +kernel
theorem dX9_valueOf_60 : decode cX9_valueOf 60 = .ok (.irem, 1) := by decide +kernel
theorem dX9_valueOf_61 : decode cX9_valueOf 61 = .ok (.sipush 7200, 3) := by decide +kernel
theorem dX9_valueOf_64 : decode cX9_valueOf 64 = .ok (.idiv, 1) := by decide +kernel
theorem dX9_valueOf_65 : decode cX9_valueOf 65 = .ok (.ireturn, 1) := by decide +kernel
theorem dX9_valueOf_66 : decode cX9_valueOf 66 = .ok (.iload_n 0, 1) := by decide +kernel
theorem dX9_valueOf_67 : decode cX9_valueOf 67 = .ok (.sipush 7200, 3) := by decide +kernel
theorem dX9_valueOf_70 : decode cX9_valueOf 70 = .ok (.irem, 1) := by decide +kernel
theorem dX9_valueOf_71 : decode cX9_valueOf 71 = .ok (.sipush 360, 3) := by decide +kernel
theorem dX9_valueOf_74 : decode cX9_valueOf 74 = .ok (.idiv, 1) := by decide +kernel
theorem dX9_valueOf_75 : decode cX9_valueOf 75 = .ok (.ireturn, 1) := by decide +kernel
theorem dX9_valueOf_76 : decode cX9_valueOf 76 = .ok (.iload_n 0, 1) := by decide +kernel
theorem dX9_valueOf_77 : decode cX9_valueOf 77 = .ok (.sipush 360, 3) := by decide +kernel
theorem dX9_valueOf_80 : decode cX9_valueOf 80 = .ok (.irem, 1) := by decide +kernel
theorem dX9_valueOf_81 : decode cX9_valueOf 81 = .ok (.bipush 20, 2) := by decide +kernel
theorem dX9_valueOf_83 : decode cX9_valueOf 83 = .ok (.idiv, 1) := by decide +kernel
theorem dX9_valueOf_84 : decode cX9_valueOf 84 = .ok (.ireturn, 1) := by decide +kernel
theorem dX9_valueOf_85 : decode cX9_valueOf 85 = .ok (.iload_n 0, 1) := by decide +kernel
theorem dX9_valueOf_86 : decode cX9_valueOf 86 = .ok (.bipush 20, 2) := by decide +kernel
theorem dX9_valueOf_88 : decode cX9_valueOf 88 = .ok (.irem, 1) := by decide +kernel
theorem dX9_valueOf_89 : decode cX9_valueOf 89 = .ok (.ireturn, 1) := by decide +kernel
theorem dX9_valueOf_90 : decode cX9_valueOf 90 = .ok (.iload_n 0, 1) := by decide +kernel
theorem dX9_valueOf_91 : decode cX9_valueOf 91 = .ok (.iconst 3, 1) := by decide +kernel
theorem dX9_valueOf_92 : decode cX9_valueOf 92 = .ok (.iadd, 1) := by decide +kernel
theorem dX9_valueOf_93 : decode cX9_valueOf 93 = .ok (.bipush 13, 2) := by decide +kernel
theorem dX9_valueOf_95 : decode cX9_valueOf 95 = .ok (.irem, 1) := by decide +kernel
theorem dX9_valueOf_96 : decode cX9_valueOf 96 = .ok (.iconst 1, 1) := by decide +kernel
theorem dX9_valueOf_97 : decode cX9_valueOf 97 = .ok (.iadd, 1) := by decide +kernel
theorem dX9_valueOf_98 : decode cX9_valueOf 98 = .ok (.ireturn, 1) := by decide +kernel
theorem dX9_valueOf_99 : decode cX9_valueOf 99 = .ok (.iload_n 0, 1) := by decide +kernel
theorem dX9_valueOf_100 : decode cX9_valueOf 100 = .ok (.bipush 19, 2) := by decide +kernel
theorem dX9_valueOf_102 : decode cX9_valueOf 102 = .ok (.iadd, 1) := by decide +kernel
theorem dX9_valueOf_103 : decode cX9_valueOf 103 = .ok (.bipush 20, 2) := by decide +kernel
theorem dX9_valueOf_105 : decode cX9_valueOf 105 = .ok (.irem, 1) := by decide +kernel
theorem dX9_valueOf_106 : decode cX9_valueOf 106 = .ok (.ireturn, 1) := by decide +kernel
theorem dX9_valueOf_107 : decode cX9_valueOf 107 = .ok (.iload_n 0, 1) := by decide +kernel
theorem dX9_valueOf_108 : decode cX9_valueOf 108 = .ok (.sipush 348, 3) := by decide +kernel
theorem dX9_valueOf_111 : decode cX9_valueOf 111 = .ok (.iadd, 1) := by decide +kernel
theorem dX9_valueOf_112 : decode cX9_valueOf 112 = .ok (.sipush 365, 3) := by decide +kernel
theorem dX9_valueOf_115 : decode cX9_valueOf 115 = .ok (.irem, 1) := by decide +kernel
theorem dX9_valueOf_116 : decode cX9_valueOf 116 = .ok (.bipush 20, 2) := by decide +kernel
theorem dX9_valueOf_118 : decode cX9_valueOf 118 = .ok (.irem, 1) := by decide +kernel
theorem dX9_valueOf_119 : decode cX9_valueOf 119 = .ok (.ireturn, 1) := by decide +kernel
theorem dX9_valueOf_120 : decode cX9_valueOf 120 = .ok (.iload_n 0, 1) := by decide +kernel
theorem dX9_valueOf_121 : decode cX9_valueOf 121 = .ok (.sipush 348, 3) := by decide +kernel
theorem dX9_valueOf_124 : decode cX9_valueOf 124 = .ok (.iadd, 1) := by decide +kernel
theorem dX9_valueOf_125 : decode cX9_valueOf 125 = .ok (.sipush 365, 3) := by decide +kernel
theorem dX9_valueOf_128 : decode cX9_valueOf 128 = .ok (.irem, 1) := by decide +kernel
theorem dX9_valueOf_129 : decode cX9_valueOf 129 = .ok (.bipush 20, 2) := by decide +kernel
theorem dX9_valueOf_131 : decode cX9_valueOf 131 = .ok (.idiv, 1) := by decide +kernel
theorem dX9_valueOf_132 : decode cX9_valueOf 132 = .ok (.ireturn, 1) := by decide +kernel
theorem dX9_valueOf_133 : decode cX9_valueOf 133 = .ok (.iload_n 0, 1) := by decide +kernel
theorem dX9_valueOf_134 : decode cX9_valueOf 134 = .ok (.bipush 8, 2) := by decide +kernel
theorem dX9_valueOf_136 : decode cX9_valueOf 136 = .ok (.iadd, 1) := by decide +kernel
theorem dX9_valueOf_137 : decode cX9_valueOf 137 = .ok (.bipush 9, 2) := by decide +kernel
theorem dX9_valueOf_139 : decode cX9_valueOf 139 = .ok (.irem, 1) := by decide +kernel
theorem dX9_valueOf_140 : decode cX9_valueOf 140 = .ok (.iconst 1, 1) := by decide +kernel
theorem dX9_valueOf_141 : decode cX9_valueOf 141 = .ok (.iadd, 1) := by decide +kernel
theorem dX9_valueOf_142 : decode cX9_valueOf 142 = .ok (.ireturn, 1) := by decide +kernel
set_option maxRecDepth 20000 in
theorem ggX9_of_X9_isDay : GoodIn wsX9_of wsX9_isDay := goodIn_r _ [5, 6, 7] (by decide +kernel) (by decide +kernel)
set_option maxRecDepth 20000 in
theorem gX9_of_X9_isDay : GoodIn wsX9_of (va_wsS RX9 79 yX9_isDay wsX9_isDay) := goodIn_app (goodIn_of _ (by decide +kernel)) ggX9_of_X9_isDay
set_option maxRecDepth 20000 in
theorem ggX9_of_X9_bad : GoodIn wsX9_of wsX9_bad := goodIn_r _ [11, 1, 16, 17, 18, 19, 20, 21, 22, 23, 24, 25, 26, 27, 28, 29, 30, 31, 32, 33, 34, 35, 36, 37, 38, 39, 40, 41, 42, 43, 44, 45, 46, 47, 48] (by decide +kernel) (by decide +kernel)
set_option maxRecDepth 20000 in
theorem gX9_of_X9_bad : GoodIn wsX9_of (wsV RX9 65 RX9 yX9_bad wsX9_bad) := goodIn_app (goodIn_of _ (by decide +kernel)) ggX9_of_X9_bad
set_option maxRecDepth 20000 in
theorem ggX9_of_X9_valueOf : GoodIn wsX9_of wsX9_valueOf := goodIn_r _ [14, 15] (by decide +kernel) (by decide +kernel)
set_option maxRecDepth 20000 in
theorem gX9_of_X9_valueOf : GoodIn wsX9_of (va_wsS RX9 83 yX9_valueOf wsX9_valueOf) := goodIn_app (goodIn_of _ (by decide +kernel)) ggX9_of_X9_valueOf
theorem dX9_of_0 : decode cX9_of 0 = .ok (.aload_n 0, 1) := by decide +kernel
theorem dX9_of_1 : decode cX9_of 1 = .ok (.iconst 0, 1) := by decide +kernel
theorem dX9_of_2 : decode cX9_of 2 = .ok (.putfield 61, 3) := by decide +kernel
theorem dX9_of_5 : decode cX9_of 5 = .ok (.aload_n 0, 1) := by decide +kernel
theorem dX9_of_6 : decode cX9_of 6 = .ok (.iload_n 1, 1) := by decide +kernel
theorem dX9_of_7 : decode cX9_of 7 = .ok (.invokestatic 79, 3) := by decide +kernel
theorem dX9_of_10 : decode cX9_of 10 = .ok (.ifCond .eq 13, 3) := by decide +kernel
theorem dX9_of_13 : decode cX9_of 13 = .ok (.iload_n 2, 1) := by decide +kernel
theorem dX9_of_14 : decode cX9_of 14 = .ok (.ifCond .lt 9, 3) := by decide +kernel
theorem dX9_of_17 : decode cX9_of 17 = .ok (.iload_n 2, 1) := by decide +kernel
theorem dX9_of_18 : decode cX9_of 18 = .ok (.bipush 9, 2) := by decide +kernel
theorem dX9_of_20 : decode cX9_of 20 = .ok (.if_icmp .le 7, 3) := by decide +kernel
theorem dX9_of_23 : decode cX9_of 23 = .ok (.iconst 1, 1) := by decide +kernel
theorem dX9_of_24 : decode cX9_of 24 = .ok (.goto 4, 3) := by decide +kernel
theorem dX9_of_27 : decode cX9_of 27 = .ok (.iconst 0, 1) := by decide +kernel
theorem dX9_of_28 : decode cX9_of 28 = .ok (.iconst 1, 1) := by decide +kernel
theorem dX9_of_29 : decode cX9_of 29 = .ok (.invokevirtual 65, 3) := by decide +kernel
theorem dX9_of_32 : decode cX9_of 32 = .ok (.ifCond .eq 7, 3) := by decide +kernel
theorem dX9_of_35 : decode cX9_of 35 = .ok (.iconst 0, 1) := by decide +kernel
theorem dX9_of_36 : decode cX9_of 36 = .ok (.goto 8, 3) := by decide +kernel
theorem dX9_of_39 : decode cX9_of 39 = .ok (.iload_n 1, 1) := by decide +kernel
theorem dX9_of_40 : decode cX9_of 40 = .ok (.iload_n 2, 1) := by decide +kernel
theorem dX9_of_41 : decode cX9_of 41 = .ok (.invokestatic 83, 3) := by decide +kernel
theorem dX9_of_44 : decode cX9_of 44 = .ok (.ireturn, 1) := by decide +kernel
set_option maxRecDepth 20000 in
theorem ggX9_moon_X9_isDay : GoodIn wsX9_moon wsX9_isDay := goodIn_r _ [7, 8, 9] (by decide +kernel) (by decide +kernel)
set_option maxRecDepth 20000 in
theorem gX9_moon_X9_isDay : GoodIn wsX9_moon (va_wsS RX9 79 yX9_isDay wsX9_isDay) := goodIn_app (goodIn_of _ (by decide +kernel)) ggX9_moon_X9_isDay
set_option maxRecDepth 20000 in
theorem ggX9_moon_X9_bad : GoodIn wsX9_moon wsX9_bad := goodIn_r _ [13, 1, 19, 20, 21, 22, 23, 24, 25, 26, 27, 28, 29, 30, 31, 32, 33, 34, 35, 36, 37, 38, 39, 40, 41, 42, 43, 44, 45, 46, 47, 48, 49, 50, 51] (by decide +kernel) (by decide +kernel)
set_option maxRecDepth 20000 in
theorem gX9_moon_X9_bad : GoodIn wsX9_moon (wsV RX9 65 RX9 yX9_bad wsX9_bad) := goodIn_app (goodIn_of _ (by decide +kernel)) ggX9_moon_X9_bad
set_option maxRecDepth 20000 in
theorem ggX9_moon_X9_moonOf : GoodIn wsX9_moon wsX9_moonOf := goodIn_r _ [16, 17, 18] (by decide +kernel) (by decide +kernel)
set_option maxRecDepth 20000 in
theorem gX9_moon_X9_moonOf : GoodIn wsX9_moon (va_wsS RX9 87 yX9_moonOf wsX9_moonOf) := goodIn_app (goodIn_of _ (by decide +kernel)) ggX9_moon_X9_moonOf
theorem dX9_moon_0 : decode cX9_moon 0 = .ok (.aload_n 0, 1) := by decide +kernel
theorem dX9_moon_1 : decode cX9_moon 1 = .ok (.iconst 0, 1) := by decide +kernel
theorem dX9_moon_2 : decode cX9_moon 2 = .ok (.putfield 61, 3) := by decide +kernel
theorem dX9_moon_5 : decode cX9_moon 5 = .ok (.aload_n 0, 1) := by decide +kernel
theorem dX9_moon_6 : decode cX9_moon 6 = .ok (.iload_n 1, 1) := by decide +kernel
theorem dX9_moon_7 : decode cX9_moon 7 = .ok (.invokestatic 79, 3) := by decide +kernel
theorem dX9_moon_10 : decode cX9_moon 10 = .ok (.ifCond .ne 7, 3) := by decide +kernel
theorem dX9_moon_13 : decode cX9_moon 13 = .ok (.iconst 1, 1) := by decide +kernel
theorem dX9_moon_14 : decode cX9_moon 14 = .ok (.goto 4, 3) := by decide +kernel
theorem dX9_moon_17 : decode cX9_moon 17 = .ok (.iconst 0, 1) := by decide +kernel
theorem dX9_moon_18 : decode cX9_moon 18 = .ok (.iconst 1, 1) := by decide +kernel
theorem dX9_moon_19 : decode cX9_moon 19 = .ok (.invokevirtual 65, 3) := by decide +kernel
theorem dX9_moon_22 : decode cX9_moon 22 = .ok (.ifCond .ne 28, 3) := by decide +kernel
theorem dX9_moon_25 : decode cX9_moon 25 = .ok (.aload_n 0, 1) := by decide +kernel
theorem dX9_moon_26 : decode cX9_moon 26 = .ok (.iload_n 2, 1) := by decide +kernel
theorem dX9_moon_27 : decode cX9_moon 27 = .ok (.ifCond .lt 11, 3) := by decide +kernel
theorem dX9_moon_30 : decode cX9_moon 30 = .ok (.iload_n 2, 1) := by decide +kernel
theorem dX9_moon_31 : decode cX9_moon 31 = .ok (.aload_n 0, 1) := by decide +kernel
theorem dX9_moon_32 : decode cX9_moon 32 = .ok (.getfield 69, 3) := by decide +kernel
theorem dX9_moon_35 : decode cX9_moon 35 = .ok (.if_icmp .lt 7, 3) := by decide +kernel
theorem dX9_moon_38 : decode cX9_moon 38 = .ok (.iconst 1, 1) := by decide +kernel
theorem dX9_moon_39 : decode cX9_moon 39 = .ok (.goto 4, 3) := by decide +kernel
theorem dX9_moon_42 : decode cX9_moon 42 = .ok (.iconst 0, 1) := by decide +kernel
theorem dX9_moon_43 : decode cX9_moon 43 = .ok (.iconst 2, 1) := by decide +kernel
theorem dX9_moon_44 : decode cX9_moon 44 = .ok (.invokevirtual 65, 3) := by decide +kernel
theorem dX9_moon_47 : decode cX9_moon 47 = .ok (.ifCond .eq 5, 3) := by decide +kernel
theorem dX9_moon_50 : decode cX9_moon 50 = .ok (.iconst 0, 1) := by decide +kernel
theorem dX9_moon_51 : decode cX9_moon 51 = .ok (.ireturn, 1) := by decide +kernel
theorem dX9_moon_52 : decode cX9_moon 52 = .ok (.iload_n 1, 1) := by decide +kernel
theorem dX9_moon_53 : decode cX9_moon 53 = .ok (.aload_n 0, 1) := by decide +kernel
theorem dX9_moon_54 : decode cX9_moon 54 = .ok (.getfield 9, 3) := by decide +kernel
theorem dX9_moon_57 : decode cX9_moon 57 = .ok (.iload_n 2, 1) := by decide +kernel
theorem dX9_moon_58 : decode cX9_moon 58 = .ok (.iaload, 1) := by decide +kernel
theorem dX9_moon_59 : decode cX9_moon 59 = .ok (.invokestatic 87, 3) := by decide +kernel
theorem dX9_moon_62 : decode cX9_moon 62 = .ok (.ireturn, 1) := by decide +kernel
theorem dX9_feed_0 : decode cX9_feed 0 = .ok (.aload_n 0, 1) := by decide +kernel
theorem dX9_feed_1 : decode cX9_feed 1 = .ok (.iconst 0, 1) := by decide +kernel
theorem dX9_feed_2 : decode cX9_feed 2 = .ok (.putfield 61, 3) := by decide +kernel
theorem dX9_feed_5 : decode cX9_feed 5 = .ok (.aload_n 0, 1) := by decide +kernel
theorem dX9_feed_6 : decode cX9_feed 6 = .ok (.getfield 90, 3) := by decide +kernel
theorem dX9_feed_9 : decode cX9_feed 9 = .ok (.bipush 20, 2) := by decide +kernel
theorem dX9_feed_11 : decode cX9_feed 11 = .ok (.iadd, 1) := by decide +kernel
theorem dX9_feed_12 : decode cX9_feed 12 = .ok (.sipush 200, 3) := by decide +kernel
theorem dX9_feed_15 : decode cX9_feed 15 = .ok (.if_icmp .le 5, 3) := by decide +kernel
theorem dX9_feed_18 : decode cX9_feed 18 = .ok (.iconst (-1), 1) := by decide +kernel
theorem dX9_feed_19 : decode cX9_feed 19 = .ok (.ireturn, 1) := by decide +kernel
theorem dX9_feed_20 : decode cX9_feed 20 = .ok (.iconst 0, 1) := by decide +kernel
theorem dX9_feed_21 : decode cX9_feed 21 = .ok (.istore 6, 2) := by decide +kernel
theorem dX9_feed_23 : decode cX9_feed 23 = .ok (.iload 6, 2) := by decide +kernel
theorem dX9_feed_25 : decode cX9_feed 25 = .ok (.iconst 5, 1) := by decide +kernel
theorem dX9_feed_26 : decode cX9_feed 26 = .ok (.if_icmp .ge 93, 3) := by decide +kernel
theorem dX9_feed_29 : decode cX9_feed 29 = .ok (.iload 6, 2) := by decide +kernel
theorem dX9_feed_31 : decode cX9_feed 31 = .ok (.ifCond .ne 7, 3) := by decide +kernel
theorem dX9_feed_34 : decode cX9_feed 34 = .ok (.iload_n 1, 1) := by decide +kernel
theorem dX9_feed_35 : decode cX9_feed 35 = .ok (.goto 36, 3) := by decide +kernel
theorem dX9_feed_38 : decode cX9_feed 38 = .ok (.iload 6, 2) := by decide +kernel
theorem dX9_feed_40 : decode cX9_feed 40 = .ok (.iconst 1, 1) := by decide +kernel
theorem dX9_feed_41 : decode cX9_feed 41 = .ok (.if_icmp .ne 7, 3) := by decide +kernel
theorem dX9_feed_44 : decode cX9_feed 44 = .ok (.iload_n 2, 1) := by decide +kernel
theorem dX9_feed_45 : decode cX9_feed 45 = .ok (.goto 26, 3) := by decide +kernel
theorem dX9_feed_48 : decode cX9_feed 48 = .ok (.iload 6, 2) := by decide +kernel
theorem dX9_feed_50 : decode cX9_feed 50 = .ok (.iconst 2, 1) := by decide +kernel
theorem dX9_feed_51 : decode cX9_feed 51 = .ok (.if_icmp .ne 7, 3) := by decide +kernel
theorem dX9_feed_54 : decode cX9_feed 54 = .ok (.iload_n 3, 1) := by decide +kernel
theorem dX9_feed_55 : decode cX9_feed 55 = .ok (.goto 16, 3) := by decide +kernel
theorem dX9_feed_58 : decode cX9_feed 58 = .ok (.iload 6, 2) := by decide +kernel
theorem dX9_feed_60 : decode cX9_feed 60 = .ok (.iconst 3, 1) := by decide +kernel
theorem dX9_feed_61 : decode cX9_feed 61 = .ok (.if_icmp .ne 8, 3) := by decide +kernel
theorem dX9_feed_64 : decode cX9_feed 64 = .ok (.iload 4, 2) := by decide +kernel
theorem dX9_feed_66 : decode cX9_feed 66 = .ok (.goto 5, 3) := by decide +kernel
theorem dX9_feed_69 : decode cX9_feed 69 = .ok (.iload 5, 2) := by decide +kernel
theorem dX9_feed_71 : decode cX9_feed 71 = .ok (.istore 7, 2) := by decide +kernel
theorem dX9_feed_73 : decode cX9_feed 73 = .ok (.bipush 24, 2) := by decide +kernel
theorem dX9_feed_75 : decode cX9_feed 75 = .ok (.istore 8, 2) := by decide +kernel
theorem dX9_feed_77 : decode cX9_feed 77 = .ok (.iload 8, 2) := by decide +kernel
theorem dX9_feed_79 : decode cX9_feed 79 = .ok (.ifCond .lt 34, 3) := by decide +kernel
theorem dX9_feed_82 : decode cX9_feed 82 = .ok (.aload_n 0, 1) := by decide +kernel
theorem dX9_feed_83 : decode cX9_feed 83 = .ok (.getfield 13, 3) := by decide +kernel
theorem dX9_feed_86 : decode cX9_feed 86 = .ok (.aload_n 0, 1) := by decide +kernel
theorem dX9_feed_87 : decode cX9_feed 87 = .ok (.getfield 90, 3) := by decide +kernel
theorem dX9_feed_90 : decode cX9_feed 90 = .ok (.iload 7, 2) := by decide +kernel
theorem dX9_feed_92 : decode cX9_feed 92 = .ok (.iload 8, 2) := by decide +kernel
theorem dX9_feed_94 : decode cX9_feed 94 = .ok (.ishr, 1) := by decide +kernel
theorem dX9_feed_95 : decode cX9_feed 95 = .ok (.i2b, 1) := by decide +kernel
theorem dX9_feed_96 : decode cX9_feed 96 = .ok (.bastore, 1) := by decide +kernel
theorem dX9_feed_97 : decode cX9_feed 97 = .ok (.aload_n 0, 1) := by decide +kernel
theorem dX9_feed_98 : decode cX9_feed 98 = .ok (.dup, 1) := by decide +kernel
theorem dX9_feed_99 : decode cX9_feed 99 = .ok (.getfield 90, 3) := by decide +kernel
theorem dX9_feed_102 : decode cX9_feed 102 = .ok (.iconst 1, 1) := by decide +kernel
theorem dX9_feed_103 : decode cX9_feed 103 = .ok (.iadd, 1) := by decide +kernel
theorem dX9_feed_104 : decode cX9_feed 104 = .ok (.putfield 90, 3) := by decide +kernel
theorem dX9_feed_107 : decode cX9_feed 107 = .ok (.iinc 8 (-8), 3) := by decide +kernel
theorem dX9_feed_110 : decode cX9_feed 110 = .ok (.goto (-33), 3) := by decide +kernel
theorem dX9_feed_113 : decode cX9_feed 113 = .ok (.iinc 6 1, 3) := by decide +kernel
theorem dX9_feed_116 : decode cX9_feed 116 = .ok (.goto (-93), 3) := by decide +kernel
theorem dX9_feed_119 : decode cX9_feed 119 = .ok (.aload_n 0, 1) := by decide +kernel
theorem dX9_feed_120 : decode cX9_feed 120 = .ok (.getfield 90, 3) := by decide +kernel
theorem dX9_feed_123 : decode cX9_feed 123 = .ok (.ireturn, 1) := by decide +kernel
theorem dX9_byteAt_0 : decode cX9_byteAt 0 = .ok (.iload_n 1, 1) := by decide +kernel
theorem dX9_byteAt_1 : decode cX9_byteAt 1 = .ok (.aload_n 0, 1) := by decide +kernel
theorem dX9_byteAt_2 : decode cX9_byteAt 2 = .ok (.getfield 93, 3) := by decide +kernel
theorem dX9_byteAt_5 : decode cX9_byteAt 5 = .ok (.if_icmp .ge 16, 3) := by decide +kernel
theorem dX9_byteAt_8 : decode cX9_byteAt 8 = .ok (.aload_n 0, 1) := by decide +kernel
theorem dX9_byteAt_9 : decode cX9_byteAt 9 = .ok (.getfield 13, 3) := by decide +kernel
theorem dX9_byteAt_12 : decode cX9_byteAt 12 = .ok (.iload_n 1, 1) := by decide +kernel
theorem dX9_byteAt_13 : decode cX9_byteAt 13 = .ok (.baload, 1) := by decide +kernel
theorem dX9_byteAt_14 : decode cX9_byteAt 14 = .ok (.sipush 255, 3) := by decide +kernel
theorem dX9_byteAt_17 : decode cX9_byteAt 17 = .ok (.iand, 1) := by decide +kernel
theorem dX9_byteAt_18 : decode cX9_byteAt 18 = .ok (.goto 4, 3) := by decide +kernel
theorem dX9_byteAt_21 : decode cX9_byteAt 21 = .ok (.iconst 0, 1) := by decide +kernel
theorem dX9_byteAt_22 : decode cX9_byteAt 22 = .ok (.ireturn, 1) := by decide +kernel
set_option maxRecDepth 20000 in
theorem ggX9_blanks_X9_byteAt : GoodIn wsX9_blanks wsX9_byteAt := goodIn_r _ [7, 2, 8, 9, 10, 11, 12, 13, 14, 15, 16, 17, 18, 19, 20, 21, 22, 23, 24, 25, 26, 27, 28, 29, 30, 31, 32, 33, 34, 35, 36, 37, 38, 39, 40, 41] (by decide +kernel) (by decide +kernel)
set_option maxRecDepth 20000 in
theorem gX9_blanks_X9_byteAt : GoodIn wsX9_blanks (wsV RX9 99 RX9 yX9_byteAt wsX9_byteAt) := goodIn_app (goodIn_of _ (by decide +kernel)) ggX9_blanks_X9_byteAt
theorem dX9_blanks_0 : decode cX9_blanks 0 = .ok (.aload_n 0, 1) := by decide +kernel
theorem dX9_blanks_1 : decode cX9_blanks 1 = .ok (.getfield 96, 3) := by decide +kernel
theorem dX9_blanks_4 : decode cX9_blanks 4 = .ok (.aload_n 0, 1) := by decide +kernel
theorem dX9_blanks_5 : decode cX9_blanks 5 = .ok (.getfield 93, 3) := by decide +kernel
theorem dX9_blanks_8 : decode cX9_blanks 8 = .ok (.if_icmp .ge 29, 3) := by decide +kernel
theorem dX9_blanks_11 : decode cX9_blanks 11 = .ok (.aload_n 0, 1) := by decide +kernel
theorem dX9_blanks_12 : decode cX9_blanks 12 = .ok (.aload_n 0, 1) := by decide +kernel
theorem dX9_blanks_13 : decode cX9_blanks 13 = .ok (.getfield 96, 3) := by decide +kernel
theorem dX9_blanks_16 : decode cX9_blanks 16 = .ok (.invokevirtual 99, 3) := by decide +kernel
theorem dX9_blanks_19 : decode cX9_blanks 19 = .ok (.bipush 32, 2) := by decide +kernel
theorem dX9_blanks_21 : decode cX9_blanks 21 = .ok (.if_icmp .ne 16, 3) := by decide +kernel
theorem dX9_blanks_24 : decode cX9_blanks 24 = .ok (.aload_n 0, 1) := by decide +kernel
theorem dX9_blanks_25 : decode cX9_blanks 25 = .ok (.dup, 1) := by decide +kernel
theorem dX9_blanks_26 : decode cX9_blanks 26 = .ok (.getfield 96, 3) := by decide +kernel
theorem dX9_blanks_29 : decode cX9_blanks 29 = .ok (.iconst 1, 1) := by decide +kernel
theorem dX9_blanks_30 : decode cX9_blanks 30 = .ok (.iadd, 1) := by decide +kernel
theorem dX9_blanks_31 : decode cX9_blanks 31 = .ok (.putfield 96, 3) := by decide +kernel
theorem dX9_blanks_34 : decode cX9_blanks 34 = .ok (.goto (-34), 3) := by decide +kernel
theorem dX9_blanks_37 : decode cX9_blanks 37 = .ok (.return_, 1) := by decide +kernel
set_option maxRecDepth 20000 in
theorem ggX9_isWord_X9_blanks : GoodIn wsX9_isWord wsX9_blanks := goodIn_r _ [6, 1, 7, 8, 9, 10, 5, 11, 12, 62, 63, 64, 65, 66, 67, 68, 69, 70, 71, 72, 73, 74, 75, 76, 77, 78, 79, 80, 81, 82, 83, 84, 85, 86, 87, 88, 89, 90, 91, 92, 93, 94] (by decide +kernel) (by decide +kernel)
set_option maxRecDepth 20000 in
theorem gX9_isWord_X9_blanks : GoodIn wsX9_isWord (wsV RX9 103 RX9 yX9_blanks wsX9_blanks) := goodIn_app (goodIn_of _ (by decide +kernel)) ggX9_isWord_X9_blanks
set_option maxRecDepth 20000 in
theorem ggX9_isWord_J0_length_8abf5 : GoodIn wsX9_isWord wsJ0_length_8abf5 := goodIn_r _ [17, 18, 19, 20, 21, 16, 22, 23, 24] (by decide +kernel) (by decide +kernel)
set_option maxRecDepth 20000 in
theorem gX9_isWord_J0_length_8abf5 : GoodIn wsX9_isWord (wsV RX9 106 RJ0 yJ0_length_8abf5 wsJ0_length_8abf5) := goodIn_app (goodIn_of _ (by decide +kernel)) ggX9_isWord_J0_length_8abf5
set_option maxRecDepth 20000 in
theorem ggX9_isWord_X9_byteAt : GoodIn wsX9_isWord wsX9_byteAt := goodIn_r _ [11, 7, 12, 62, 63, 64, 65, 66, 67, 68, 69, 70, 71, 72, 73, 74, 75, 76, 77, 78, 79, 80, 81, 82, 83, 84, 85, 86, 87, 88, 89, 90, 91, 92, 93, 94] (by decide +kernel) (by decide +kernel)
set_option maxRecDepth 20000 in
theorem gX9_isWord_X9_byteAt : GoodIn wsX9_isWord (wsV RX9 99 RX9 yX9_byteAt wsX9_byteAt) := goodIn_app (goodIn_of _ (by decide +kernel)) ggX9_isWord_X9_byteAt
set_option maxRecDepth 20000 in
theorem ggX9_isWord_J0_charAt_5068e : GoodIn wsX9_isWord wsJ0_charAt_5068e := goodIn_r _ [28, 18, 29, 30, 31, 16, 32, 23, 24, 33, 34, 35, 36, 37, 38, 39, 40, 41, 42, 43, 44, 45, 46, 47, 48, 49, 50, 51, 52, 53, 54, 55, 56, 57, 58, 59, 60, 61] (by decide +kernel) (by decide +kernel)
set_option maxRecDepth 20000 in
theorem gX9_isWord_J0_charAt_5068e : GoodIn wsX9_isWord (wsV RX9 112 RJ0 yJ0_charAt_5068e wsJ0_charAt_5068e) := goodIn_app (goodIn_of _ (by decide +kernel)) ggX9_isWord_J0_charAt_5068e
theorem dX9_isWord_0 : decode cX9_isWord 0 = .ok (.aload_n 0, 1) := by decide +kernel
theorem dX9_isWord_1 : decode cX9_isWord 1 = .ok (.invokevirtual 103, 3) := by decide +kernel
theorem dX9_isWord_4 : decode cX9_isWord 4 = .ok (.iconst 0, 1) := by decide +kernel
theorem dX9_isWord_5 : decode cX9_isWord 5 = .ok (.istore_n 2, 1) := by decide +kernel
theorem dX9_isWord_6 : decode cX9_isWord 6 = .ok (.iload_n 2, 1) := by decide +kernel
theorem dX9_isWord_7 : decode cX9_isWord 7 = .ok (.aload_n 1, 1) := by decide +kernel
theorem dX9_isWord_8 : decode cX9_isWord 8 = .ok (.invokevirtual 106, 3) := by decide +kernel
theorem dX9_isWord_11 : decode cX9_isWord 11 = .ok (.if_icmp .ge 29, 3) := by decide +kernel
theorem dX9_isWord_14 : decode cX9_isWord 14 = .ok (.aload_n 0, 1) := by decide +kernel
theorem dX9_isWord_15 : decode cX9_isWord 15 = .ok (.aload_n 0, 1) := by decide +kernel
theorem dX9_isWord_16 : decode cX9_isWord 16 = .ok (.getfield 96, 3) := by decide +kernel
theorem dX9_isWord_19 : decode cX9_isWord 19 = .ok (.iload_n 2, 1) := by decide +kernel
theorem dX9_isWord_20 : decode cX9_isWord 20 = .ok (.iadd, 1) := by decide +kernel
theorem dX9_isWord_21 : decode cX9_isWord 21 = .ok (.invokevirtual 99, 3) := by decide +kernel
theorem dX9_isWord_24 : decode cX9_isWord 24 = .ok (.aload_n 1, 1) := by decide +kernel
theorem dX9_isWord_25 : decode cX9_isWord 25 = .ok (.iload_n 2, 1) := by decide +kernel
theorem dX9_isWord_26 : decode cX9_isWord 26 = .ok (.invokevirtual 112, 3) := by decide +kernel
theorem dX9_isWord_29 : decode cX9_isWord 29 = .ok (.if_icmp .eq 5, 3) := by decide +kernel
theorem dX9_isWord_32 : decode cX9_isWord 32 = .ok (.iconst 0, 1) := by decide +kernel
theorem dX9_isWord_33 : decode cX9_isWord 33 = .ok (.ireturn, 1) := by decide +kernel
theorem dX9_isWord_34 : decode cX9_isWord 34 = .ok (.iinc 2 1, 3) := by decide +kernel
theorem dX9_isWord_37 : decode cX9_isWord 37 = .ok (.goto (-31), 3) := by decide +kernel
theorem dX9_isWord_40 : decode cX9_isWord 40 = .ok (.aload_n 0, 1) := by decide +kernel
theorem dX9_isWord_41 : decode cX9_isWord 41 = .ok (.aload_n 0, 1) := by decide +kernel
theorem dX9_isWord_42 : decode cX9_isWord 42 = .ok (.getfield 96, 3) := by decide +kernel
theorem dX9_isWord_45 : decode cX9_isWord 45 = .ok (.aload_n 1, 1) := by decide +kernel
theorem dX9_isWord_46 : decode cX9_isWord 46 = .ok (.invokevirtual 106, 3) := by decide +kernel
theorem dX9_isWord_49 : decode cX9_isWord 49 = .ok (.iadd, 1) := by decide +kernel
theorem dX9_isWord_50 : decode cX9_isWord 50 = .ok (.invokevirtual 99, 3) := by decide +kernel
theorem dX9_isWord_53 : decode cX9_isWord 53 = .ok (.istore_n 2, 1) := by decide +kernel
theorem dX9_isWord_54 : decode cX9_isWord 54 = .ok (.iload_n 2, 1) := by decide +kernel
theorem dX9_isWord_55 : decode cX9_isWord 55 = .ok (.bipush 97, 2) := by decide +kernel
theorem dX9_isWord_57 : decode cX9_isWord 57 = .ok (.if_icmp .lt 9, 3) := by decide +kernel
theorem dX9_isWord_60 : decode cX9_isWord 60 = .ok (.iload_n 2, 1) := by decide +kernel
theorem dX9_isWord_61 : decode cX9_isWord 61 = .ok (.bipush 122, 2) := by decide +kernel
theorem dX9_isWord_63 : decode cX9_isWord 63 = .ok (.if_icmp .le 7, 3) := by decide +kernel
theorem dX9_isWord_66 : decode cX9_isWord 66 = .ok (.iconst 1, 1) := by decide +kernel
theorem dX9_isWord_67 : decode cX9_isWord 67 = .ok (.goto 4, 3) := by decide +kernel
theorem dX9_isWord_70 : decode cX9_isWord 70 = .ok (.iconst 0, 1) := by decide +kernel
theorem dX9_isWord_71 : decode cX9_isWord 71 = .ok (.ireturn, 1) := by decide +kernel
theorem dX9_wordOf_0 : decode cX9_wordOf 0 = .ok (.iload_n 0, 1) := by decide +kernel
theorem dX9_wordOf_1 : decode cX9_wordOf 1 = .ok (.tableswitch 73 0 9 #[55, 73, 73, 73, 73, 58, 61, 64, 67, 70], 55) := by decide +kernel
theorem dX9_wordOf_56 : decode cX9_wordOf 56 = .ok (.ldc 116, 2) := by decide +kernel
theorem dX9_wordOf_58 : decode cX9_wordOf 58 = .ok (.areturn, 1) := by decide +kernel
theorem dX9_wordOf_59 : decode cX9_wordOf 59 = .ok (.ldc 118, 2) := by decide +kernel
theorem dX9_wordOf_61 : decode cX9_wordOf 61 = .ok (.areturn, 1) := by decide +kernel
theorem dX9_wordOf_62 : decode cX9_wordOf 62 = .ok (.ldc 120, 2) := by decide +kernel
theorem dX9_wordOf_64 : decode cX9_wordOf 64 = .ok (.areturn, 1) := by decide +kernel
theorem dX9_wordOf_65 : decode cX9_wordOf 65 = .ok (.ldc 122, 2) := by decide +kernel
theorem dX9_wordOf_67 : decode cX9_wordOf 67 = .ok (.areturn, 1) := by decide +kernel
theorem dX9_wordOf_68 : decode cX9_wordOf 68 = .ok (.ldc 124, 2) := by decide +kernel
theorem dX9_wordOf_70 : decode cX9_wordOf 70 = .ok (.areturn, 1) := by decide +kernel
theorem dX9_wordOf_71 : decode cX9_wordOf 71 = .ok (.ldc 126, 2) := by decide +kernel
theorem dX9_wordOf_73 : decode cX9_wordOf 73 = .ok (.areturn, 1) := by decide +kernel
theorem dX9_wordOf_74 : decode cX9_wordOf 74 = .ok (.ldc 128, 2) := by decide +kernel
theorem dX9_wordOf_76 : decode cX9_wordOf 76 = .ok (.areturn, 1) := by decide +kernel
set_option maxRecDepth 20000 in
theorem ggX9_clauseHere_X9_wordOf : GoodIn wsX9_clauseHere wsX9_wordOf := goodIn_r _ [4] (by decide +kernel) (by decide +kernel)
set_option maxRecDepth 20000 in
theorem gX9_clauseHere_X9_wordOf : GoodIn wsX9_clauseHere (va_wsS RX9 130 yX9_wordOf wsX9_wordOf) := goodIn_app (goodIn_of _ (by decide +kernel)) ggX9_clauseHere_X9_wordOf
set_option maxRecDepth 20000 in
theorem ggX9_clauseHere_X9_isWord : GoodIn wsX9_clauseHere wsX9_isWord := goodIn_r _ [8, 9, 10, 11, 12, 3, 13, 14, 15, 16, 17, 18, 19, 20, 21, 22, 23, 24, 25, 26, 27, 28, 29, 30, 31, 32, 33, 34, 35, 36, 37, 38, 39, 40, 41, 42, 43, 44, 45, 46, 47, 48, 49, 50, 51, 52, 53, 54, 55, 56, 57, 58, 59, 60, 61, 62, 63, 64, 65, 66, 67, 68, 69, 70, 71, 72, 73, 74, 75, 76, 77, 78, 79, 80, 81, 82, 83, 84, 85, 86, 87, 88, 89, 90, 91, 92, 93, 94, 95, 96, 97, 98, 99, 100, 101] (by decide +kernel) (by decide +kernel)
set_option maxRecDepth 20000 in
theorem gX9_clauseHere_X9_isWord : GoodIn wsX9_clauseHere (wsV RX9 134 RX9 yX9_isWord wsX9_isWord) := goodIn_app (goodIn_of _ (by decide +kernel)) ggX9_clauseHere_X9_isWord
theorem dX9_clauseHere_0 : decode cX9_clauseHere 0 = .ok (.iconst 0, 1) := by decide +kernel
theorem dX9_clauseHere_1 : decode cX9_clauseHere 1 = .ok (.istore_n 1, 1) := by decide +kernel
theorem dX9_clauseHere_2 : decode cX9_clauseHere 2 = .ok (.iload_n 1, 1) := by decide +kernel
theorem dX9_clauseHere_3 : decode cX9_clauseHere 3 = .ok (.bipush 11, 2) := by decide +kernel
theorem dX9_clauseHere_5 : decode cX9_clauseHere 5 = .ok (.if_icmp .ge 31, 3) := by decide +kernel
theorem dX9_clauseHere_8 : decode cX9_clauseHere 8 = .ok (.iload_n 1, 1) := by decide +kernel
theorem dX9_clauseHere_9 : decode cX9_clauseHere 9 = .ok (.ifCond .eq 8, 3) := by decide +kernel
theorem dX9_clauseHere_12 : decode cX9_clauseHere 12 = .ok (.iload_n 1, 1) := by decide +kernel
theorem dX9_clauseHere_13 : decode cX9_clauseHere 13 = .ok (.iconst 4, 1) := by decide +kernel
theorem dX9_clauseHere_14 : decode cX9_clauseHere 14 = .ok (.if_icmp .le 16, 3) := by decide +kernel
theorem dX9_clauseHere_17 : decode cX9_clauseHere 17 = .ok (.aload_n 0, 1) := by decide +kernel
theorem dX9_clauseHere_18 : decode cX9_clauseHere 18 = .ok (.iload_n 1, 1) := by decide +kernel
theorem dX9_clauseHere_19 : decode cX9_clauseHere 19 = .ok (.invokestatic 130, 3) := by decide +kernel
theorem dX9_clauseHere_22 : decode cX9_clauseHere 22 = .ok (.invokevirtual 134, 3) := by decide +kernel
theorem dX9_clauseHere_25 : decode cX9_clauseHere 25 = .ok (.ifCond .eq 5, 3) := by decide +kernel
theorem dX9_clauseHere_28 : decode cX9_clauseHere 28 = .ok (.iload_n 1, 1) := by decide +kernel
theorem dX9_clauseHere_29 : decode cX9_clauseHere 29 = .ok (.ireturn, 1) := by decide +kernel
theorem dX9_clauseHere_30 : decode cX9_clauseHere 30 = .ok (.iinc 1 1, 3) := by decide +kernel
theorem dX9_clauseHere_33 : decode cX9_clauseHere 33 = .ok (.goto (-31), 3) := by decide +kernel
theorem dX9_clauseHere_36 : decode cX9_clauseHere 36 = .ok (.iconst (-1), 1) := by decide +kernel
theorem dX9_clauseHere_37 : decode cX9_clauseHere 37 = .ok (.ireturn, 1) := by decide +kernel
set_option maxRecDepth 20000 in
theorem ggX9_eat_X9_blanks : GoodIn wsX9_eat wsX9_blanks := goodIn_r _ [8, 2, 3, 9, 10, 11, 7, 12, 13, 14, 15, 16, 17, 18, 19, 20, 21, 22, 23, 24, 25, 26, 27, 28, 29, 30, 31, 32, 33, 34, 35, 36, 37, 38, 39, 40, 41, 42, 43, 44, 45, 46] (by decide +kernel) (by decide +kernel)
set_option maxRecDepth 20000 in
theorem gX9_eat_X9_blanks : GoodIn wsX9_eat (wsV RX9 103 RX9 yX9_blanks wsX9_blanks) := goodIn_app (goodIn_of _ (by decide +kernel)) ggX9_eat_X9_blanks
set_option maxRecDepth 20000 in
theorem ggX9_eat_X9_byteAt : GoodIn wsX9_eat wsX9_byteAt := goodIn_r _ [12, 3, 13, 14, 15, 16, 17, 18, 19, 20, 21, 22, 23, 24, 25, 26, 27, 28, 29, 30, 31, 32, 33, 34, 35, 36, 37, 38, 39, 40, 41, 42, 43, 44, 45, 46] (by decide +kernel) (by decide +kernel)
set_option maxRecDepth 20000 in
theorem gX9_eat_X9_byteAt : GoodIn wsX9_eat (wsV RX9 99 RX9 yX9_byteAt wsX9_byteAt) := goodIn_app (goodIn_of _ (by decide +kernel)) ggX9_eat_X9_byteAt
theorem dX9_eat_0 : decode cX9_eat 0 = .ok (.aload_n 0, 1) := by decide +kernel
theorem dX9_eat_1 : decode cX9_eat 1 = .ok (.invokevirtual 103, 3) := by decide +kernel
theorem dX9_eat_4 : decode cX9_eat 4 = .ok (.aload_n 0, 1) := by decide +kernel
theorem dX9_eat_5 : decode cX9_eat 5 = .ok (.getfield 138, 3) := by decide +kernel
theorem dX9_eat_8 : decode cX9_eat 8 = .ok (.ifCond .ne 30, 3) := by decide +kernel
theorem dX9_eat_11 : decode cX9_eat 11 = .ok (.aload_n 0, 1) := by decide +kernel
theorem dX9_eat_12 : decode cX9_eat 12 = .ok (.getfield 96, 3) := by decide +kernel
theorem dX9_eat_15 : decode cX9_eat 15 = .ok (.aload_n 0, 1) := by decide +kernel
theorem dX9_eat_16 : decode cX9_eat 16 = .ok (.getfield 93, 3) := by decide +kernel
theorem dX9_eat_19 : decode cX9_eat 19 = .ok (.if_icmp .ge 19, 3) := by decide +kernel
theorem dX9_eat_22 : decode cX9_eat 22 = .ok (.aload_n 0, 1) := by decide +kernel
theorem dX9_eat_23 : decode cX9_eat 23 = .ok (.aload_n 0, 1) := by decide +kernel
theorem dX9_eat_24 : decode cX9_eat 24 = .ok (.getfield 96, 3) := by decide +kernel
theorem dX9_eat_27 : decode cX9_eat 27 = .ok (.invokevirtual 99, 3) := by decide +kernel
theorem dX9_eat_30 : decode cX9_eat 30 = .ok (.iload_n 1, 1) := by decide +kernel
theorem dX9_eat_31 : decode cX9_eat 31 = .ok (.if_icmp .ne 7, 3) := by decide +kernel
theorem dX9_eat_34 : decode cX9_eat 34 = .ok (.iconst 1, 1) := by decide +kernel
theorem dX9_eat_35 : decode cX9_eat 35 = .ok (.goto 4, 3) := by decide +kernel
theorem dX9_eat_38 : decode cX9_eat 38 = .ok (.iconst 0, 1) := by decide +kernel
theorem dX9_eat_39 : decode cX9_eat 39 = .ok (.istore_n 2, 1) := by decide +kernel
theorem dX9_eat_40 : decode cX9_eat 40 = .ok (.iload_n 2, 1) := by decide +kernel
theorem dX9_eat_41 : decode cX9_eat 41 = .ok (.ifCond .eq 13, 3) := by decide +kernel
theorem dX9_eat_44 : decode cX9_eat 44 = .ok (.aload_n 0, 1) := by decide +kernel
theorem dX9_eat_45 : decode cX9_eat 45 = .ok (.dup, 1) := by decide +kernel
theorem dX9_eat_46 : decode cX9_eat 46 = .ok (.getfield 96, 3) := by decide +kernel
theorem dX9_eat_49 : decode cX9_eat 49 = .ok (.iconst 1, 1) := by decide +kernel
theorem dX9_eat_50 : decode cX9_eat 50 = .ok (.iadd, 1) := by decide +kernel
theorem dX9_eat_51 : decode cX9_eat 51 = .ok (.putfield 96, 3) := by decide +kernel
theorem dX9_eat_54 : decode cX9_eat 54 = .ok (.iload_n 2, 1) := by decide +kernel
theorem dX9_eat_55 : decode cX9_eat 55 = .ok (.ireturn, 1) := by decide +kernel
set_option maxRecDepth 20000 in
theorem ggX9_number_X9_blanks : GoodIn wsX9_number wsX9_blanks := goodIn_r _ [7, 2, 8, 9, 10, 11, 6, 12, 13, 14, 15, 16, 17, 18, 19, 20, 21, 22, 23, 24, 25, 26, 27, 28, 29, 30, 31, 32, 33, 34, 35, 36, 37, 38, 39, 40, 41, 42, 43, 44, 45, 46] (by decide +kernel) (by decide +kernel)
set_option maxRecDepth 20000 in
theorem gX9_number_X9_blanks : GoodIn wsX9_number (wsV RX9 103 RX9 yX9_blanks wsX9_blanks) := goodIn_app (goodIn_of _ (by decide +kernel)) ggX9_number_X9_blanks
set_option maxRecDepth 20000 in
theorem ggX9_number_X9_byteAt : GoodIn wsX9_number wsX9_byteAt := goodIn_r _ [12, 8, 13, 14, 15, 16, 17, 18, 19, 20, 21, 22, 23, 24, 25, 26, 27, 28, 29, 30, 31, 32, 33, 34, 35, 36, 37, 38, 39, 40, 41, 42, 43, 44, 45, 46] (by decide +kernel) (by decide +kernel)
set_option maxRecDepth 20000 in
theorem gX9_number_X9_byteAt : GoodIn wsX9_number (wsV RX9 99 RX9 yX9_byteAt wsX9_byteAt) := goodIn_app (goodIn_of _ (by decide +kernel)) ggX9_number_X9_byteAt
theorem dX9_number_0 : decode cX9_number 0 = .ok (.aload_n 0, 1) := by decide +kernel
theorem dX9_number_1 : decode cX9_number 1 = .ok (.invokevirtual 103, 3) := by decide +kernel
theorem dX9_number_4 : decode cX9_number 4 = .ok (.iconst 0, 1) := by decide +kernel
theorem dX9_number_5 : decode cX9_number 5 = .ok (.istore_n 1, 1) := by decide +kernel
theorem dX9_number_6 : decode cX9_number 6 = .ok (.iconst 0, 1) := by decide +kernel
theorem dX9_number_7 : decode cX9_number 7 = .ok (.istore_n 2, 1) := by decide +kernel
theorem dX9_number_8 : decode cX9_number 8 = .ok (.aload_n 0, 1) := by decide +kernel
theorem dX9_number_9 : decode cX9_number 9 = .ok (.getfield 138, 3) := by decide +kernel
theorem dX9_number_12 : decode cX9_number 12 = .ok (.ifCond .ne 74, 3) := by decide +kernel
theorem dX9_number_15 : decode cX9_number 15 = .ok (.aload_n 0, 1) := by decide +kernel
theorem dX9_number_16 : decode cX9_number 16 = .ok (.aload_n 0, 1) := by decide +kernel
theorem dX9_number_17 : decode cX9_number 17 = .ok (.getfield 96, 3) := by decide +kernel
theorem dX9_number_20 : decode cX9_number 20 = .ok (.invokevirtual 99, 3) := by decide +kernel
theorem dX9_number_23 : decode cX9_number 23 = .ok (.bipush 48, 2) := by decide +kernel
theorem dX9_number_25 : decode cX9_number 25 = .ok (.if_icmp .lt 61, 3) := by decide +kernel
theorem dX9_number_28 : decode cX9_number 28 = .ok (.aload_n 0, 1) := by decide +kernel
theorem dX9_number_29 : decode cX9_number 29 = .ok (.aload_n 0, 1) := by decide +kernel
theorem dX9_number_30 : decode cX9_number 30 = .ok (.getfield 96, 3) := by decide +kernel
theorem dX9_number_33 : decode cX9_number 33 = .ok (.invokevirtual 99, 3) := by decide +kernel
theorem dX9_number_36 : decode cX9_number 36 = .ok (.bipush 57, 2) := by decide +kernel
theorem dX9_number_38 : decode cX9_number 38 = .ok (.if_icmp .gt 48, 3) := by decide +kernel
theorem dX9_number_41 : decode cX9_number 41 = .ok (.iload_n 2, 1) := by decide +kernel
theorem dX9_number_42 : decode cX9_number 42 = .ok (.iconst 2, 1) := by decide +kernel
theorem dX9_number_43 : decode cX9_number 43 = .ok (.if_icmp .ne 10, 3) := by decide +kernel
theorem dX9_number_46 : decode cX9_number 46 = .ok (.aload_n 0, 1) := by decide +kernel
theorem dX9_number_47 : decode cX9_number 47 = .ok (.iconst 1, 1) := by decide +kernel
theorem dX9_number_48 : decode cX9_number 48 = .ok (.putfield 138, 3) := by decide +kernel
theorem dX9_number_51 : decode cX9_number 51 = .ok (.iconst 0, 1) := by decide +kernel
theorem dX9_number_52 : decode cX9_number 52 = .ok (.ireturn, 1) := by decide +kernel
theorem dX9_number_53 : decode cX9_number 53 = .ok (.bipush 10, 2) := by decide +kernel
theorem dX9_number_55 : decode cX9_number 55 = .ok (.iload_n 1, 1) := by decide +kernel
theorem dX9_number_56 : decode cX9_number 56 = .ok (.imul, 1) := by decide +kernel
theorem dX9_number_57 : decode cX9_number 57 = .ok (.aload_n 0, 1) := by decide +kernel
theorem dX9_number_58 : decode cX9_number 58 = .ok (.aload_n 0, 1) := by decide +kernel
theorem dX9_number_59 : decode cX9_number 59 = .ok (.getfield 96, 3) := by decide +kernel
theorem dX9_number_62 : decode cX9_number 62 = .ok (.invokevirtual 99, 3) := by decide +kernel
theorem dX9_number_65 : decode cX9_number 65 = .ok (.iadd, 1) := by decide +kernel
theorem dX9_number_66 : decode cX9_number 66 = .ok (.bipush 48, 2) := by decide +kernel
theorem dX9_number_68 : decode cX9_number 68 = .ok (.isub, 1) := by decide +kernel
theorem dX9_number_69 : decode cX9_number 69 = .ok (.istore_n 1, 1) := by decide +kernel
theorem dX9_number_70 : decode cX9_number 70 = .ok (.iinc 2 1, 3) := by decide +kernel
theorem dX9_number_73 : decode cX9_number 73 = .ok (.aload_n 0, 1) := by decide +kernel
theorem dX9_number_74 : decode cX9_number 74 = .ok (.dup, 1) := by decide +kernel
theorem dX9_number_75 : decode cX9_number 75 = .ok (.getfield 96, 3) := by decide +kernel
theorem dX9_number_78 : decode cX9_number 78 = .ok (.iconst 1, 1) := by decide +kernel
theorem dX9_number_79 : decode cX9_number 79 = .ok (.iadd, 1) := by decide +kernel
theorem dX9_number_80 : decode cX9_number 80 = .ok (.putfield 96, 3) := by decide +kernel
theorem dX9_number_83 : decode cX9_number 83 = .ok (.goto (-75), 3) := by decide +kernel
theorem dX9_number_86 : decode cX9_number 86 = .ok (.aload_n 0, 1) := by decide +kernel
theorem dX9_number_87 : decode cX9_number 87 = .ok (.aload_n 0, 1) := by decide +kernel
theorem dX9_number_88 : decode cX9_number 88 = .ok (.getfield 138, 3) := by decide +kernel
theorem dX9_number_91 : decode cX9_number 91 = .ok (.ifCond .ne 7, 3) := by decide +kernel
theorem dX9_number_94 : decode cX9_number 94 = .ok (.iload_n 2, 1) := by decide +kernel
theorem dX9_number_95 : decode cX9_number 95 = .ok (.ifCond .ne 7, 3) := by decide +kernel
theorem dX9_number_98 : decode cX9_number 98 = .ok (.iconst 1, 1) := by decide +kernel
theorem dX9_number_99 : decode cX9_number 99 = .ok (.goto 4, 3) := by decide +kernel
theorem dX9_number_102 : decode cX9_number 102 = .ok (.iconst 0, 1) := by decide +kernel
theorem dX9_number_103 : decode cX9_number 103 = .ok (.putfield 138, 3) := by decide +kernel
theorem dX9_number_106 : decode cX9_number 106 = .ok (.iload_n 1, 1) := by decide +kernel
theorem dX9_number_107 : decode cX9_number 107 = .ok (.ireturn, 1) := by decide +kernel
set_option maxRecDepth 20000 in
theorem ggX9_some_X9_eat : GoodIn wsX9_some wsX9_eat := goodIn_r _ [10, 4, 5, 11, 12, 13, 14, 9, 15, 16, 17, 18, 19, 20, 25, 26, 27, 28, 29, 30, 31, 32, 33, 34, 35, 36, 37, 38, 39, 40, 41, 42, 43, 44, 45, 46, 47, 48, 49, 50, 51, 52, 53, 54, 55, 56, 57] (by decide +kernel) (by decide +kernel)
set_option maxRecDepth 20000 in
theorem gX9_some_X9_eat : GoodIn wsX9_some (wsV RX9 149 RX9 yX9_eat wsX9_eat) := goodIn_app (goodIn_of _ (by decide +kernel)) ggX9_some_X9_eat
set_option maxRecDepth 20000 in
theorem ggX9_some_X9_number : GoodIn wsX9_some wsX9_number := goodIn_r _ [24, 4, 5, 12, 13, 14, 9, 15, 11, 16, 17, 18, 19, 20, 25, 26, 27, 28, 29, 30, 31, 32, 33, 34, 35, 36, 37, 38, 39, 40, 41, 42, 43, 44, 45, 46, 47, 48, 49, 50, 51, 52, 53, 54, 55, 56, 57] (by decide +kernel) (by decide +kernel)
set_option maxRecDepth 20000 in
theorem gX9_some_X9_number : GoodIn wsX9_some (wsV RX9 154 RX9 yX9_number wsX9_number) := goodIn_app (goodIn_of _ (by decide +kernel)) ggX9_some_X9_number
set_option maxRecDepth 20000 in
theorem ggX9_some_X9_blanks : GoodIn wsX9_some wsX9_blanks := goodIn_r _ [15, 5, 11, 16, 17, 18, 9, 19, 20, 25, 26, 27, 28, 29, 30, 31, 32, 33, 34, 35, 36, 37, 38, 39, 40, 41, 42, 43, 44, 45, 46, 47, 48, 49, 50, 51, 52, 53, 54, 55, 56, 57] (by decide +kernel) (by decide +kernel)
set_option maxRecDepth 20000 in
theorem gX9_some_X9_blanks : GoodIn wsX9_some (wsV RX9 103 RX9 yX9_blanks wsX9_blanks) := goodIn_app (goodIn_of _ (by decide +kernel)) ggX9_some_X9_blanks
theorem dX9_some_0 : decode cX9_some 0 = .ok (.aload_n 0, 1) := by decide +kernel
theorem dX9_some_1 : decode cX9_some 1 = .ok (.lconst 0, 1) := by decide +kernel
theorem dX9_some_2 : decode cX9_some 2 = .ok (.putfield 142, 3) := by decide +kernel
theorem dX9_some_5 : decode cX9_some 5 = .ok (.aload_n 0, 1) := by decide +kernel
theorem dX9_some_6 : decode cX9_some 6 = .ok (.lconst 0, 1) := by decide +kernel
theorem dX9_some_7 : decode cX9_some 7 = .ok (.putfield 146, 3) := by decide +kernel
theorem dX9_some_10 : decode cX9_some 10 = .ok (.aload_n 0, 1) := by decide +kernel
theorem dX9_some_11 : decode cX9_some 11 = .ok (.bipush 63, 2) := by decide +kernel
theorem dX9_some_13 : decode cX9_some 13 = .ok (.invokevirtual 149, 3) := by decide +kernel
theorem dX9_some_16 : decode cX9_some 16 = .ok (.ifCond .eq 18, 3) := by decide +kernel
theorem dX9_some_19 : decode cX9_some 19 = .ok (.aload_n 0, 1) := by decide +kernel
theorem dX9_some_20 : decode cX9_some 20 = .ok (.ldc2_w 152, 3) := by decide +kernel
theorem dX9_some_23 : decode cX9_some 23 = .ok (.putfield 142, 3) := by decide +kernel
theorem dX9_some_26 : decode cX9_some 26 = .ok (.aload_n 0, 1) := by decide +kernel
theorem dX9_some_27 : decode cX9_some 27 = .ok (.ldc2_w 152, 3) := by decide +kernel
theorem dX9_some_30 : decode cX9_some 30 = .ok (.putfield 146, 3) := by decide +kernel
theorem dX9_some_33 : decode cX9_some 33 = .ok (.return_, 1) := by decide +kernel
theorem dX9_some_34 : decode cX9_some 34 = .ok (.iconst 1, 1) := by decide +kernel
theorem dX9_some_35 : decode cX9_some 35 = .ok (.istore_n 1, 1) := by decide +kernel
theorem dX9_some_36 : decode cX9_some 36 = .ok (.iload_n 1, 1) := by decide +kernel
theorem dX9_some_37 : decode cX9_some 37 = .ok (.ifCond .eq 128, 3) := by decide +kernel
theorem dX9_some_40 : decode cX9_some 40 = .ok (.aload_n 0, 1) := by decide +kernel
theorem dX9_some_41 : decode cX9_some 41 = .ok (.getfield 138, 3) := by decide +kernel
theorem dX9_some_44 : decode cX9_some 44 = .ok (.ifCond .ne 121, 3) := by decide +kernel
theorem dX9_some_47 : decode cX9_some 47 = .ok (.aload_n 0, 1) := by decide +kernel
theorem dX9_some_48 : decode cX9_some 48 = .ok (.invokevirtual 154, 3) := by decide +kernel
theorem dX9_some_51 : decode cX9_some 51 = .ok (.istore_n 2, 1) := by decide +kernel
theorem dX9_some_52 : decode cX9_some 52 = .ok (.iload_n 2, 1) := by decide +kernel
theorem dX9_some_53 : decode cX9_some 53 = .ok (.istore_n 3, 1) := by decide +kernel
theorem dX9_some_54 : decode cX9_some 54 = .ok (.aload_n 0, 1) := by decide +kernel
theorem dX9_some_55 : decode cX9_some 55 = .ok (.bipush 45, 2) := by decide +kernel
theorem dX9_some_57 : decode cX9_some 57 = .ok (.invokevirtual 149, 3) := by decide +kernel
theorem dX9_some_60 : decode cX9_some 60 = .ok (.ifCond .eq 41, 3) := by decide +kernel
theorem dX9_some_63 : decode cX9_some 63 = .ok (.aload_n 0, 1) := by decide +kernel
theorem dX9_some_64 : decode cX9_some 64 = .ok (.invokevirtual 103, 3) := by decide +kernel
theorem dX9_some_67 : decode cX9_some 67 = .ok (.aload_n 0, 1) := by decide +kernel
theorem dX9_some_68 : decode cX9_some 68 = .ok (.getfield 96, 3) := by decide +kernel
theorem dX9_some_71 : decode cX9_some 71 = .ok (.istore 4, 2) := by decide +kernel
theorem dX9_some_73 : decode cX9_some 73 = .ok (.aload_n 0, 1) := by decide +kernel
theorem dX9_some_74 : decode cX9_some 74 = .ok (.invokevirtual 154, 3) := by decide +kernel
theorem dX9_some_77 : decode cX9_some 77 = .ok (.istore_n 3, 1) := by decide +kernel
theorem dX9_some_78 : decode cX9_some 78 = .ok (.aload_n 0, 1) := by decide +kernel
theorem dX9_some_79 : decode cX9_some 79 = .ok (.getfield 138, 3) := by decide +kernel
theorem dX9_some_82 : decode cX9_some 82 = .ok (.ifCond .ne 19, 3) := by decide +kernel
theorem dX9_some_85 : decode cX9_some 85 = .ok (.iload_n 3, 1) := by decide +kernel
theorem dX9_some_86 : decode cX9_some 86 = .ok (.iload_n 2, 1) := by decide +kernel
theorem dX9_some_87 : decode cX9_some 87 = .ok (.if_icmp .ge 14, 3) := by decide +kernel
theorem dX9_some_90 : decode cX9_some 90 = .ok (.aload_n 0, 1) := by decide +kernel
theorem dX9_some_91 : decode cX9_some 91 = .ok (.iconst 1, 1) := by decide +kernel
theorem dX9_some_92 : decode cX9_some 92 = .ok (.putfield 138, 3) := by decide +kernel
theorem dX9_some_95 : decode cX9_some 95 = .ok (.aload_n 0, 1) := by decide +kernel
theorem dX9_some_96 : decode cX9_some 96 = .ok (.iload 4, 2) := by decide +kernel
theorem dX9_some_98 : decode cX9_some 98 = .ok (.putfield 96, 3) := by decide +kernel
theorem dX9_some_101 : decode cX9_some 101 = .ok (.iload_n 2, 1) := by decide +kernel
theorem dX9_some_102 : decode cX9_some 102 = .ok (.istore 4, 2) := by decide +kernel
theorem dX9_some_104 : decode cX9_some 104 = .ok (.iload 4, 2) := by decide +kernel
theorem dX9_some_106 : decode cX9_some 106 = .ok (.iload_n 3, 1) := by decide +kernel
theorem dX9_some_107 : decode cX9_some 107 = .ok (.if_icmp .gt 48, 3) := by decide +kernel
theorem dX9_some_110 : decode cX9_some 110 = .ok (.iload 4, 2) := by decide +kernel
theorem dX9_some_112 : decode cX9_some 112 = .ok (.bipush 64, 2) := by decide +kernel
theorem dX9_some_114 : decode cX9_some 114 = .ok (.if_icmp .ge 19, 3) := by decide +kernel
theorem dX9_some_117 : decode cX9_some 117 = .ok (.aload_n 0, 1) := by decide +kernel
theorem dX9_some_118 : decode cX9_some 118 = .ok (.dup, 1) := by decide +kernel
theorem dX9_some_119 : decode cX9_some 119 = .ok (.getfield 142, 3) := by decide +kernel
theorem dX9_some_122 : decode cX9_some 122 = .ok (.lconst 1, 1) := by decide +kernel
theorem dX9_some_123 : decode cX9_some 123 = .ok (.iload 4, 2) := by decide +kernel
theorem dX9_some_125 : decode cX9_some 125 = .ok (.lshl, 1) := by decide +kernel
theorem dX9_some_126 : decode cX9_some 126 = .ok (.lor, 1) := by decide +kernel
theorem dX9_some_127 : decode cX9_some 127 = .ok (.putfield 142, 3) := by decide +kernel
theorem dX9_some_130 : decode cX9_some 130 = .ok (.goto 19, 3) := by decide +kernel
theorem dX9_some_133 : decode cX9_some 133 = .ok (.aload_n 0, 1) := by decide +kernel
theorem dX9_some_134 : decode cX9_some 134 = .ok (.dup, 1) := by decide +kernel
theorem dX9_some_135 : decode cX9_some 135 = .ok (.getfield 146, 3) := by decide +kernel
theorem dX9_some_138 : decode cX9_some 138 = .ok (.lconst 1, 1) := by decide +kernel
theorem dX9_some_139 : decode cX9_some 139 = .ok (.iload 4, 2) := by decide +kernel
theorem dX9_some_141 : decode cX9_some 141 = .ok (.bipush 64, 2) := by decide +kernel
theorem dX9_some_143 : decode cX9_some 143 = .ok (.isub, 1) := by decide +kernel
theorem dX9_some_144 : decode cX9_some 144 = .ok (.lshl, 1) := by decide +kernel
theorem dX9_some_145 : decode cX9_some 145 = .ok (.lor, 1) := by decide +kernel
theorem dX9_some_146 : decode cX9_some 146 = .ok (.putfield 146, 3) := by decide +kernel
theorem dX9_some_149 : decode cX9_some 149 = .ok (.iinc 4 1, 3) := by decide +kernel
theorem dX9_some_152 : decode cX9_some 152 = .ok (.goto (-48), 3) := by decide +kernel
theorem dX9_some_155 : decode cX9_some 155 = .ok (.aload_n 0, 1) := by decide +kernel
theorem dX9_some_156 : decode cX9_some 156 = .ok (.bipush 47, 2) := by decide +kernel
theorem dX9_some_158 : decode cX9_some 158 = .ok (.invokevirtual 149, 3) := by decide +kernel
theorem dX9_some_161 : decode cX9_some 161 = .ok (.istore_n 1, 1) := by decide +kernel
theorem dX9_some_162 : decode cX9_some 162 = .ok (.goto (-126), 3) := by decide +kernel
theorem dX9_some_165 : decode cX9_some 165 = .ok (.return_, 1) := by decide +kernel
set_option maxRecDepth 20000 in
theorem ggX9_allows_X9_some : GoodIn wsX9_allows wsX9_some := goodIn_r _ [9, 2, 4, 10, 11, 12, 13, 14, 15, 8, 16, 17, 18, 19, 20, 21, 22, 23, 24, 25, 26, 27, 28, 29, 30, 31, 32, 33, 34, 35, 36, 37, 38, 39, 40, 41, 42, 43, 44, 45, 46, 47, 48, 49, 50, 51, 52, 53, 54, 55, 56, 57, 58, 59, 60, 61, 62, 63] (by decide +kernel) (by decide +kernel)
set_option maxRecDepth 20000 in
theorem gX9_allows_X9_some : GoodIn wsX9_allows (wsV RX9 156 RX9 yX9_some wsX9_some) := goodIn_app (goodIn_of _ (by decide +kernel)) ggX9_allows_X9_some
theorem dX9_allows_0 : decode cX9_allows 0 = .ok (.aload_n 0, 1) := by decide +kernel
theorem dX9_allows_1 : decode cX9_allows 1 = .ok (.invokevirtual 156, 3) := by decide +kernel
theorem dX9_allows_4 : decode cX9_allows 4 = .ok (.aload_n 0, 1) := by decide +kernel
theorem dX9_allows_5 : decode cX9_allows 5 = .ok (.getfield 17, 3) := by decide +kernel
theorem dX9_allows_8 : decode cX9_allows 8 = .ok (.bipush 11, 2) := by decide +kernel
theorem dX9_allows_10 : decode cX9_allows 10 = .ok (.iload_n 1, 1) := by decide +kernel
theorem dX9_allows_11 : decode cX9_allows 11 = .ok (.imul, 1) := by decide +kernel
theorem dX9_allows_12 : decode cX9_allows 12 = .ok (.iload_n 2, 1) := by decide +kernel
theorem dX9_allows_13 : decode cX9_allows 13 = .ok (.iadd, 1) := by decide +kernel
theorem dX9_allows_14 : decode cX9_allows 14 = .ok (.dup2, 1) := by decide +kernel
theorem dX9_allows_15 : decode cX9_allows 15 = .ok (.laload, 1) := by decide +kernel
theorem dX9_allows_16 : decode cX9_allows 16 = .ok (.aload_n 0, 1) := by decide +kernel
theorem dX9_allows_17 : decode cX9_allows 17 = .ok (.getfield 142, 3) := by decide +kernel
theorem dX9_allows_20 : decode cX9_allows 20 = .ok (.land, 1) := by decide +kernel
theorem dX9_allows_21 : decode cX9_allows 21 = .ok (.lastore, 1) := by decide +kernel
theorem dX9_allows_22 : decode cX9_allows 22 = .ok (.aload_n 0, 1) := by decide +kernel
theorem dX9_allows_23 : decode cX9_allows 23 = .ok (.getfield 21, 3) := by decide +kernel
theorem dX9_allows_26 : decode cX9_allows 26 = .ok (.bipush 11, 2) := by decide +kernel
theorem dX9_allows_28 : decode cX9_allows 28 = .ok (.iload_n 1, 1) := by decide +kernel
theorem dX9_allows_29 : decode cX9_allows 29 = .ok (.imul, 1) := by decide +kernel
theorem dX9_allows_30 : decode cX9_allows 30 = .ok (.iload_n 2, 1) := by decide +kernel
theorem dX9_allows_31 : decode cX9_allows 31 = .ok (.iadd, 1) := by decide +kernel
theorem dX9_allows_32 : decode cX9_allows 32 = .ok (.dup2, 1) := by decide +kernel
theorem dX9_allows_33 : decode cX9_allows 33 = .ok (.laload, 1) := by decide +kernel
theorem dX9_allows_34 : decode cX9_allows 34 = .ok (.aload_n 0, 1) := by decide +kernel
theorem dX9_allows_35 : decode cX9_allows 35 = .ok (.getfield 146, 3) := by decide +kernel
theorem dX9_allows_38 : decode cX9_allows 38 = .ok (.land, 1) := by decide +kernel
theorem dX9_allows_39 : decode cX9_allows 39 = .ok (.lastore, 1) := by decide +kernel
theorem dX9_allows_40 : decode cX9_allows 40 = .ok (.return_, 1) := by decide +kernel
set_option maxRecDepth 20000 in
theorem ggX9_clause_X9_wordOf : GoodIn wsX9_clause wsX9_wordOf := goodIn_r _ [6] (by decide +kernel) (by decide +kernel)
set_option maxRecDepth 20000 in
theorem gX9_clause_X9_wordOf : GoodIn wsX9_clause (va_wsS RX9 130 yX9_wordOf wsX9_wordOf) := goodIn_app (goodIn_of _ (by decide +kernel)) ggX9_clause_X9_wordOf
set_option maxRecDepth 20000 in
theorem ggX9_clause_J0_length_8abf5 : GoodIn wsX9_clause wsJ0_length_8abf5 := goodIn_r _ [11, 12, 13, 14, 15, 10, 16, 17, 18] (by decide +kernel) (by decide +kernel)
set_option maxRecDepth 20000 in
theorem gX9_clause_J0_length_8abf5 : GoodIn wsX9_clause (wsV RX9 106 RJ0 yJ0_length_8abf5 wsJ0_length_8abf5) := goodIn_app (goodIn_of _ (by decide +kernel)) ggX9_clause_J0_length_8abf5
set_option maxRecDepth 20000 in
theorem ggX9_clause_X9_allows : GoodIn wsX9_clause wsX9_allows := goodIn_r _ [22, 23, 24, 25, 26, 27, 28, 29, 5, 30, 31, 2, 1, 32, 33, 34, 35, 36, 37, 38, 39, 40, 41, 42, 43, 44, 45, 46, 47, 48, 49, 50, 51, 52, 53, 54, 55, 56, 57, 58, 59, 60, 61, 62, 63, 64, 65, 66, 67, 68, 69, 70, 71, 72, 73, 74, 75, 76, 77, 78, 79, 80, 81, 82] (by decide +kernel) (by decide +kernel)
set_option maxRecDepth 20000 in
theorem gX9_clause_X9_allows : GoodIn wsX9_clause (wsV RX9 159 RX9 yX9_allows wsX9_allows) := goodIn_app (goodIn_of _ (by decide +kernel)) ggX9_clause_X9_allows
set_option maxRecDepth 20000 in
theorem ggX9_clause_X9_eat : GoodIn wsX9_clause wsX9_eat := goodIn_r _ [35, 2, 1, 36, 37, 38, 39, 5, 40, 41, 42, 43, 44, 45, 50, 51, 52, 53, 54, 55, 56, 57, 58, 59, 60, 61, 62, 63, 64, 65, 66, 67, 68, 69, 70, 71, 72, 73, 74, 75, 76, 77, 78, 79, 80, 81, 82] (by decide +kernel) (by decide +kernel)
set_option maxRecDepth 20000 in
theorem gX9_clause_X9_eat : GoodIn wsX9_clause (wsV RX9 149 RX9 yX9_eat wsX9_eat) := goodIn_app (goodIn_of _ (by decide +kernel)) ggX9_clause_X9_eat
theorem dX9_clause_0 : decode cX9_clause 0 = .ok (.aload_n 0, 1) := by decide +kernel
theorem dX9_clause_1 : decode cX9_clause 1 = .ok (.dup, 1) := by decide +kernel
theorem dX9_clause_2 : decode cX9_clause 2 = .ok (.getfield 96, 3) := by decide +kernel
theorem dX9_clause_5 : decode cX9_clause 5 = .ok (.iload_n 2, 1) := by decide +kernel
theorem dX9_clause_6 : decode cX9_clause 6 = .ok (.invokestatic 130, 3) := by decide +kernel
theorem dX9_clause_9 : decode cX9_clause 9 = .ok (.invokevirtual 106, 3) := by decide +kernel
theorem dX9_clause_12 : decode cX9_clause 12 = .ok (.iadd, 1) := by decide +kernel
theorem dX9_clause_13 : decode cX9_clause 13 = .ok (.putfield 96, 3) := by decide +kernel
theorem dX9_clause_16 : decode cX9_clause 16 = .ok (.aload_n 0, 1) := by decide +kernel
theorem dX9_clause_17 : decode cX9_clause 17 = .ok (.iload_n 1, 1) := by decide +kernel
theorem dX9_clause_18 : decode cX9_clause 18 = .ok (.iload_n 2, 1) := by decide +kernel
theorem dX9_clause_19 : decode cX9_clause 19 = .ok (.invokevirtual 159, 3) := by decide +kernel
theorem dX9_clause_22 : decode cX9_clause 22 = .ok (.iconst 1, 1) := by decide +kernel
theorem dX9_clause_23 : decode cX9_clause 23 = .ok (.istore_n 3, 1) := by decide +kernel
theorem dX9_clause_24 : decode cX9_clause 24 = .ok (.iload_n 3, 1) := by decide +kernel
theorem dX9_clause_25 : decode cX9_clause 25 = .ok (.iconst 5, 1) := by decide +kernel
theorem dX9_clause_26 : decode cX9_clause 26 = .ok (.if_icmp .ge 51, 3) := by decide +kernel
theorem dX9_clause_29 : decode cX9_clause 29 = .ok (.iload_n 2, 1) := by decide +kernel
theorem dX9_clause_30 : decode cX9_clause 30 = .ok (.ifCond .ne 47, 3) := by decide +kernel
theorem dX9_clause_33 : decode cX9_clause 33 = .ok (.aload_n 0, 1) := by decide +kernel
theorem dX9_clause_34 : decode cX9_clause 34 = .ok (.getfield 138, 3) := by decide +kernel
theorem dX9_clause_37 : decode cX9_clause 37 = .ok (.ifCond .ne 40, 3) := by decide +kernel
theorem dX9_clause_40 : decode cX9_clause 40 = .ok (.aload_n 0, 1) := by decide +kernel
theorem dX9_clause_41 : decode cX9_clause 41 = .ok (.aload_n 0, 1) := by decide +kernel
theorem dX9_clause_42 : decode cX9_clause 42 = .ok (.bipush 46, 2) := by decide +kernel
theorem dX9_clause_44 : decode cX9_clause 44 = .ok (.invokevirtual 149, 3) := by decide +kernel
theorem dX9_clause_47 : decode cX9_clause 47 = .ok (.ifCond .ne 7, 3) := by decide +kernel
theorem dX9_clause_50 : decode cX9_clause 50 = .ok (.iconst 1, 1) := by decide +kernel
theorem dX9_clause_51 : decode cX9_clause 51 = .ok (.goto 4, 3) := by decide +kernel
theorem dX9_clause_54 : decode cX9_clause 54 = .ok (.iconst 0, 1) := by decide +kernel
theorem dX9_clause_55 : decode cX9_clause 55 = .ok (.putfield 138, 3) := by decide +kernel
theorem dX9_clause_58 : decode cX9_clause 58 = .ok (.aload_n 0, 1) := by decide +kernel
theorem dX9_clause_59 : decode cX9_clause 59 = .ok (.getfield 138, 3) := by decide +kernel
theorem dX9_clause_62 : decode cX9_clause 62 = .ok (.ifCond .ne 9, 3) := by decide +kernel
theorem dX9_clause_65 : decode cX9_clause 65 = .ok (.aload_n 0, 1) := by decide +kernel
theorem dX9_clause_66 : decode cX9_clause 66 = .ok (.iload_n 1, 1) := by decide +kernel
theorem dX9_clause_67 : decode cX9_clause 67 = .ok (.iload_n 3, 1) := by decide +kernel
theorem dX9_clause_68 : decode cX9_clause 68 = .ok (.invokevirtual 159, 3) := by decide +kernel
theorem dX9_clause_71 : decode cX9_clause 71 = .ok (.iinc 3 1, 3) := by decide +kernel
theorem dX9_clause_74 : decode cX9_clause 74 = .ok (.goto (-50), 3) := by decide +kernel
theorem dX9_clause_77 : decode cX9_clause 77 = .ok (.aload_n 0, 1) := by decide +kernel
theorem dX9_clause_78 : decode cX9_clause 78 = .ok (.getfield 138, 3) := by decide +kernel
theorem dX9_clause_81 : decode cX9_clause 81 = .ok (.ifCond .ne 17, 3) := by decide +kernel
theorem dX9_clause_84 : decode cX9_clause 84 = .ok (.aload_n 0, 1) := by decide +kernel
theorem dX9_clause_85 : decode cX9_clause 85 = .ok (.bipush 59, 2) := by decide +kernel
theorem dX9_clause_87 : decode cX9_clause 87 = .ok (.invokevirtual 149, 3) := by decide +kernel
theorem dX9_clause_90 : decode cX9_clause 90 = .ok (.ifCond .ne 8, 3) := by decide +kernel
theorem dX9_clause_93 : decode cX9_clause 93 = .ok (.aload_n 0, 1) := by decide +kernel
theorem dX9_clause_94 : decode cX9_clause 94 = .ok (.iconst 1, 1) := by decide +kernel
theorem dX9_clause_95 : decode cX9_clause 95 = .ok (.putfield 138, 3) := by decide +kernel
theorem dX9_clause_98 : decode cX9_clause 98 = .ok (.return_, 1) := by decide +kernel
set_option maxRecDepth 20000 in
theorem ggX9_stone_X9_bad : GoodIn wsX9_stone wsX9_bad := goodIn_r _ [17, 1, 135, 136, 137, 138, 139, 140, 141, 142, 143, 144, 145, 146, 147, 148, 149, 150, 151, 152, 153, 154, 155, 156, 157, 158, 159, 160, 161, 162, 163, 164, 165, 166, 167] (by decide +kernel) (by decide +kernel)
set_option maxRecDepth 20000 in
theorem gX9_stone_X9_bad : GoodIn wsX9_stone (wsV RX9 65 RX9 yX9_bad wsX9_bad) := goodIn_app (goodIn_of _ (by decide +kernel)) ggX9_stone_X9_bad
set_option maxRecDepth 20000 in
theorem ggX9_stone_X9_clauseHere : GoodIn wsX9_stone wsX9_clauseHere := goodIn_r _ [21, 22, 23, 16, 24, 25, 26, 27, 28, 6, 29, 30, 31, 32, 5, 33, 34, 35, 36, 37, 38, 39, 40, 41, 42, 43, 44, 45, 46, 47, 48, 49, 50, 51, 52, 53, 54, 55, 56, 57, 58, 59, 60, 61, 62, 63, 64, 65, 66, 67, 68, 69, 70, 71, 72, 73, 74, 75, 76, 77, 78, 79, 80, 81, 82, 83, 84, 85, 86, 135, 136, 137, 138, 139, 140, 141, 142, 143, 144, 145, 146, 147, 148, 149, 150, 151, 152, 153, 154, 155, 156, 157, 158, 159, 160, 161, 162, 163, 164, 165, 166, 167] (by decide +kernel) (by decide +kernel)
set_option maxRecDepth 20000 in
theorem gX9_stone_X9_clauseHere : GoodIn wsX9_stone (wsV RX9 166 RX9 yX9_clauseHere wsX9_clauseHere) := goodIn_app (goodIn_of _ (by decide +kernel)) ggX9_stone_X9_clauseHere
set_option maxRecDepth 20000 in
theorem ggX9_stone_X9_clause : GoodIn wsX9_stone wsX9_clause := goodIn_r _ [90, 6, 7, 22, 23, 16, 24, 38, 39, 40, 41, 42, 43, 44, 45, 46, 47, 48, 49, 91, 92, 93, 94, 8, 95, 10, 96, 97, 98, 99, 100, 9, 101, 102, 103, 104, 5, 29, 30, 31, 32, 33, 34, 35, 36, 37, 105, 106, 107, 108, 135, 136, 137, 138, 139, 140, 141, 142, 143, 144, 145, 146, 147, 148, 149, 150, 151, 152, 153, 154, 155, 156, 157, 158, 159, 160, 161, 162, 163, 164, 165, 166, 167] (by decide +kernel) (by decide +kernel)
set_option maxRecDepth 20000 in
theorem gX9_stone_X9_clause : GoodIn wsX9_stone (wsV RX9 169 RX9 yX9_clause wsX9_clause) := goodIn_app (goodIn_of _ (by decide +kernel)) ggX9_stone_X9_clause
set_option maxRecDepth 20000 in
theorem ggX9_stone_X9_blanks : GoodIn wsX9_stone wsX9_blanks := goodIn_r _ [32, 6, 5, 33, 34, 35, 16, 36, 37, 135, 136, 137, 138, 139, 140, 141, 142, 143, 144, 145, 146, 147, 148, 149, 150, 151, 152, 153, 154, 155, 156, 157, 158, 159, 160, 161, 162, 163, 164, 165, 166, 167] (by decide +kernel) (by decide +kernel)
set_option maxRecDepth 20000 in
theorem gX9_stone_X9_blanks : GoodIn wsX9_stone (wsV RX9 103 RX9 yX9_blanks wsX9_blanks) := goodIn_app (goodIn_of _ (by decide +kernel)) ggX9_stone_X9_blanks
set_option maxRecDepth 20000 in
theorem ggX9_stone_X9_lists : GoodIn wsX9_stone wsX9_lists := goodIn_r _ [112, 113, 114, 115, 116, 117, 118, 119, 16, 120, 121, 11, 122, 123, 124, 125, 126, 127, 128, 129, 8, 10, 130, 131, 132, 133, 134, 135, 136, 137, 138, 139, 140, 141, 142, 143, 144, 145, 146, 147, 148, 149, 150, 151, 152, 153, 154, 155, 156, 157, 158, 159, 160, 161, 162, 163, 164, 165, 166, 167] (by decide +kernel) (by decide +kernel)
set_option maxRecDepth 20000 in
theorem gX9_stone_X9_lists : GoodIn wsX9_stone (wsV RX9 172 RX9 yX9_lists wsX9_lists) := goodIn_app (goodIn_of _ (by decide +kernel)) ggX9_stone_X9_lists
theorem dX9_stone_0 : decode cX9_stone 0 = .ok (.aload_n 0, 1) := by decide +kernel
theorem dX9_stone_1 : decode cX9_stone 1 = .ok (.iconst 0, 1) := by decide +kernel
theorem dX9_stone_2 : decode cX9_stone 2 = .ok (.putfield 61, 3) := by decide +kernel
theorem dX9_stone_5 : decode cX9_stone 5 = .ok (.aload_n 0, 1) := by decide +kernel
theorem dX9_stone_6 : decode cX9_stone 6 = .ok (.iload_n 1, 1) := by decide +kernel
theorem dX9_stone_7 : decode cX9_stone 7 = .ok (.ifCond .lt 11, 3) := by decide +kernel
theorem dX9_stone_10 : decode cX9_stone 10 = .ok (.iload_n 1, 1) := by decide +kernel
theorem dX9_stone_11 : decode cX9_stone 11 = .ok (.aload_n 0, 1) := by decide +kernel
theorem dX9_stone_12 : decode cX9_stone 12 = .ok (.getfield 69, 3) := by decide +kernel
theorem dX9_stone_15 : decode cX9_stone 15 = .ok (.if_icmp .lt 7, 3) := by decide +kernel
theorem dX9_stone_18 : decode cX9_stone 18 = .ok (.iconst 1, 1) := by decide +kernel
theorem dX9_stone_19 : decode cX9_stone 19 = .ok (.goto 4, 3) := by decide +kernel
theorem dX9_stone_22 : decode cX9_stone 22 = .ok (.iconst 0, 1) := by decide +kernel
theorem dX9_stone_23 : decode cX9_stone 23 = .ok (.iconst 1, 1) := by decide +kernel
theorem dX9_stone_24 : decode cX9_stone 24 = .ok (.invokevirtual 65, 3) := by decide +kernel
theorem dX9_stone_27 : decode cX9_stone 27 = .ok (.ifCond .ne 50, 3) := by decide +kernel
theorem dX9_stone_30 : decode cX9_stone 30 = .ok (.aload_n 0, 1) := by decide +kernel
theorem dX9_stone_31 : decode cX9_stone 31 = .ok (.iload_n 2, 1) := by decide +kernel
theorem dX9_stone_32 : decode cX9_stone 32 = .ok (.ifCond .lt 11, 3) := by decide +kernel
theorem dX9_stone_35 : decode cX9_stone 35 = .ok (.iload_n 2, 1) := by decide +kernel
theorem dX9_stone_36 : decode cX9_stone 36 = .ok (.aload_n 0, 1) := by decide +kernel
theorem dX9_stone_37 : decode cX9_stone 37 = .ok (.getfield 90, 3) := by decide +kernel
theorem dX9_stone_40 : decode cX9_stone 40 = .ok (.if_icmp .le 7, 3) := by decide +kernel
theorem dX9_stone_43 : decode cX9_stone 43 = .ok (.iconst 1, 1) := by decide +kernel
theorem dX9_stone_44 : decode cX9_stone 44 = .ok (.goto 4, 3) := by decide +kernel
theorem dX9_stone_47 : decode cX9_stone 47 = .ok (.iconst 0, 1) := by decide +kernel
theorem dX9_stone_48 : decode cX9_stone 48 = .ok (.iconst 2, 1) := by decide +kernel
theorem dX9_stone_49 : decode cX9_stone 49 = .ok (.invokevirtual 65, 3) := by decide +kernel
theorem dX9_stone_52 : decode cX9_stone 52 = .ok (.ifCond .ne 25, 3) := by decide +kernel
theorem dX9_stone_55 : decode cX9_stone 55 = .ok (.aload_n 0, 1) := by decide +kernel
theorem dX9_stone_56 : decode cX9_stone 56 = .ok (.aload_n 0, 1) := by decide +kernel
theorem dX9_stone_57 : decode cX9_stone 57 = .ok (.getfield 163, 3) := by decide +kernel
theorem dX9_stone_60 : decode cX9_stone 60 = .ok (.bipush 30, 2) := by decide +kernel
theorem dX9_stone_62 : decode cX9_stone 62 = .ok (.if_icmp .ne 7, 3) := by decide +kernel
theorem dX9_stone_65 : decode cX9_stone 65 = .ok (.iconst 1, 1) := by decide +kernel
theorem dX9_stone_66 : decode cX9_stone 66 = .ok (.goto 4, 3) := by decide +kernel
theorem dX9_stone_69 : decode cX9_stone 69 = .ok (.iconst 0, 1) := by decide +kernel
theorem dX9_stone_70 : decode cX9_stone 70 = .ok (.iconst 3, 1) := by decide +kernel
theorem dX9_stone_71 : decode cX9_stone 71 = .ok (.invokevirtual 65, 3) := by decide +kernel
theorem dX9_stone_74 : decode cX9_stone 74 = .ok (.ifCond .eq 5, 3) := by decide +kernel
theorem dX9_stone_77 : decode cX9_stone 77 = .ok (.iconst 0, 1) := by decide +kernel
theorem dX9_stone_78 : decode cX9_stone 78 = .ok (.ireturn, 1) := by decide +kernel
theorem dX9_stone_79 : decode cX9_stone 79 = .ok (.aload_n 0, 1) := by decide +kernel
theorem dX9_stone_80 : decode cX9_stone 80 = .ok (.iload_n 2, 1) := by decide +kernel
theorem dX9_stone_81 : decode cX9_stone 81 = .ok (.putfield 93, 3) := by decide +kernel
theorem dX9_stone_84 : decode cX9_stone 84 = .ok (.aload_n 0, 1) := by decide +kernel
theorem dX9_stone_85 : decode cX9_stone 85 = .ok (.iconst 0, 1) := by decide +kernel
theorem dX9_stone_86 : decode cX9_stone 86 = .ok (.putfield 90, 3) := by decide +kernel
theorem dX9_stone_89 : decode cX9_stone 89 = .ok (.aload_n 0, 1) := by decide +kernel
theorem dX9_stone_90 : decode cX9_stone 90 = .ok (.iconst 0, 1) := by decide +kernel
theorem dX9_stone_91 : decode cX9_stone 91 = .ok (.putfield 96, 3) := by decide +kernel
theorem dX9_stone_94 : decode cX9_stone 94 = .ok (.aload_n 0, 1) := by decide +kernel
theorem dX9_stone_95 : decode cX9_stone 95 = .ok (.iconst 0, 1) := by decide +kernel
theorem dX9_stone_96 : decode cX9_stone 96 = .ok (.putfield 138, 3) := by decide +kernel
theorem dX9_stone_99 : decode cX9_stone 99 = .ok (.iconst 0, 1) := by decide +kernel
theorem dX9_stone_100 : decode cX9_stone 100 = .ok (.istore_n 3, 1) := by decide +kernel
theorem dX9_stone_101 : decode cX9_stone 101 = .ok (.iload_n 3, 1) := by decide +kernel
theorem dX9_stone_102 : decode cX9_stone 102 = .ok (.bipush 11, 2) := by decide +kernel
theorem dX9_stone_104 : decode cX9_stone 104 = .ok (.if_icmp .ge 43, 3) := by decide +kernel
theorem dX9_stone_107 : decode cX9_stone 107 = .ok (.aload_n 0, 1) := by decide +kernel
theorem dX9_stone_108 : decode cX9_stone 108 = .ok (.getfield 17, 3) := by decide +kernel
theorem dX9_stone_111 : decode cX9_stone 111 = .ok (.bipush 11, 2) := by decide +kernel
theorem dX9_stone_113 : decode cX9_stone 113 = .ok (.aload_n 0, 1) := by decide +kernel
theorem dX9_stone_114 : decode cX9_stone 114 = .ok (.getfield 163, 3) := by decide +kernel
theorem dX9_stone_117 : decode cX9_stone 117 = .ok (.imul, 1) := by decide +kernel
theorem dX9_stone_118 : decode cX9_stone 118 = .ok (.iload_n 3, 1) := by decide +kernel
theorem dX9_stone_119 : decode cX9_stone 119 = .ok (.iadd, 1) := by decide +kernel
theorem dX9_stone_120 : decode cX9_stone 120 = .ok (.ldc2_w 152, 3) := by decide +kernel
theorem dX9_stone_123 : decode cX9_stone 123 = .ok (.lastore, 1) := by decide +kernel
theorem dX9_stone_124 : decode cX9_stone 124 = .ok (.aload_n 0, 1) := by decide +kernel
theorem dX9_stone_125 : decode cX9_stone 125 = .ok (.getfield 21, 3) := by decide +kernel
theorem dX9_stone_128 : decode cX9_stone 128 = .ok (.bipush 11, 2) := by decide +kernel
theorem dX9_stone_130 : decode cX9_stone 130 = .ok (.aload_n 0, 1) := by decide +kernel
theorem dX9_stone_131 : decode cX9_stone 131 = .ok (.getfield 163, 3) := by decide +kernel
theorem dX9_stone_134 : decode cX9_stone 134 = .ok (.imul, 1) := by decide +kernel
theorem dX9_stone_135 : decode cX9_stone 135 = .ok (.iload_n 3, 1) := by decide +kernel
theorem dX9_stone_136 : decode cX9_stone 136 = .ok (.iadd, 1) := by decide +kernel
theorem dX9_stone_137 : decode cX9_stone 137 = .ok (.ldc2_w 152, 3) := by decide +kernel
theorem dX9_stone_140 : decode cX9_stone 140 = .ok (.lastore, 1) := by decide +kernel
theorem dX9_stone_141 : decode cX9_stone 141 = .ok (.iinc 3 1, 3) := by decide +kernel
theorem dX9_stone_144 : decode cX9_stone 144 = .ok (.goto (-43), 3) := by decide +kernel
theorem dX9_stone_147 : decode cX9_stone 147 = .ok (.iconst 0, 1) := by decide +kernel
theorem dX9_stone_148 : decode cX9_stone 148 = .ok (.istore_n 3, 1) := by decide +kernel
theorem dX9_stone_149 : decode cX9_stone 149 = .ok (.aload_n 0, 1) := by decide +kernel
theorem dX9_stone_150 : decode cX9_stone 150 = .ok (.invokevirtual 166, 3) := by decide +kernel
theorem dX9_stone_153 : decode cX9_stone 153 = .ok (.istore 4, 2) := by decide +kernel
theorem dX9_stone_155 : decode cX9_stone 155 = .ok (.iload 4, 2) := by decide +kernel
theorem dX9_stone_157 : decode cX9_stone 157 = .ok (.ifCond .lt 69, 3) := by decide +kernel
theorem dX9_stone_160 : decode cX9_stone 160 = .ok (.aload_n 0, 1) := by decide +kernel
theorem dX9_stone_161 : decode cX9_stone 161 = .ok (.getfield 138, 3) := by decide +kernel
theorem dX9_stone_164 : decode cX9_stone 164 = .ok (.ifCond .ne 62, 3) := by decide +kernel
theorem dX9_stone_167 : decode cX9_stone 167 = .ok (.aload_n 0, 1) := by decide +kernel
theorem dX9_stone_168 : decode cX9_stone 168 = .ok (.iload_n 3, 1) := by decide +kernel
theorem dX9_stone_169 : decode cX9_stone 169 = .ok (.bipush 12, 2) := by decide +kernel
theorem dX9_stone_171 : decode cX9_stone 171 = .ok (.if_icmp .ne 7, 3) := by decide +kernel
theorem dX9_stone_174 : decode cX9_stone 174 = .ok (.iconst 1, 1) := by decide +kernel
theorem dX9_stone_175 : decode cX9_stone 175 = .ok (.goto 4, 3) := by decide +kernel
theorem dX9_stone_178 : decode cX9_stone 178 = .ok (.iconst 0, 1) := by decide +kernel
theorem dX9_stone_179 : decode cX9_stone 179 = .ok (.putfield 138, 3) := by decide +kernel
theorem dX9_stone_182 : decode cX9_stone 182 = .ok (.aload_n 0, 1) := by decide +kernel
theorem dX9_stone_183 : decode cX9_stone 183 = .ok (.getfield 138, 3) := by decide +kernel
theorem dX9_stone_186 : decode cX9_stone 186 = .ok (.ifCond .eq 11, 3) := by decide +kernel
theorem dX9_stone_189 : decode cX9_stone 189 = .ok (.bipush (-2), 2) := by decide +kernel
theorem dX9_stone_191 : decode cX9_stone 191 = .ok (.aload_n 0, 1) := by decide +kernel
theorem dX9_stone_192 : decode cX9_stone 192 = .ok (.getfield 96, 3) := by decide +kernel
theorem dX9_stone_195 : decode cX9_stone 195 = .ok (.isub, 1) := by decide +kernel
theorem dX9_stone_196 : decode cX9_stone 196 = .ok (.ireturn, 1) := by decide +kernel
theorem dX9_stone_197 : decode cX9_stone 197 = .ok (.aload_n 0, 1) := by decide +kernel
theorem dX9_stone_198 : decode cX9_stone 198 = .ok (.aload_n 0, 1) := by decide +kernel
theorem dX9_stone_199 : decode cX9_stone 199 = .ok (.getfield 163, 3) := by decide +kernel
theorem dX9_stone_202 : decode cX9_stone 202 = .ok (.iload 4, 2) := by decide +kernel
theorem dX9_stone_204 : decode cX9_stone 204 = .ok (.invokevirtual 169, 3) := by decide +kernel
theorem dX9_stone_207 : decode cX9_stone 207 = .ok (.iinc 3 1, 3) := by decide +kernel
theorem dX9_stone_210 : decode cX9_stone 210 = .ok (.aload_n 0, 1) := by decide +kernel
theorem dX9_stone_211 : decode cX9_stone 211 = .ok (.getfield 138, 3) := by decide +kernel
theorem dX9_stone_214 : decode cX9_stone 214 = .ok (.ifCond .ne (-59), 3) := by decide +kernel
theorem dX9_stone_217 : decode cX9_stone 217 = .ok (.aload_n 0, 1) := by decide +kernel
theorem dX9_stone_218 : decode cX9_stone 218 = .ok (.invokevirtual 166, 3) := by decide +kernel
theorem dX9_stone_221 : decode cX9_stone 221 = .ok (.istore 4, 2) := by decide +kernel
theorem dX9_stone_223 : decode cX9_stone 223 = .ok (.goto (-68), 3) := by decide +kernel
theorem dX9_stone_226 : decode cX9_stone 226 = .ok (.aload_n 0, 1) := by decide +kernel
theorem dX9_stone_227 : decode cX9_stone 227 = .ok (.getfield 138, 3) := by decide +kernel
theorem dX9_stone_230 : decode cX9_stone 230 = .ok (.ifCond .ne 7, 3) := by decide +kernel
theorem dX9_stone_233 : decode cX9_stone 233 = .ok (.aload_n 0, 1) := by decide +kernel
theorem dX9_stone_234 : decode cX9_stone 234 = .ok (.invokevirtual 103, 3) := by decide +kernel
theorem dX9_stone_237 : decode cX9_stone 237 = .ok (.aload_n 0, 1) := by decide +kernel
theorem dX9_stone_238 : decode cX9_stone 238 = .ok (.getfield 138, 3) := by decide +kernel
theorem dX9_stone_241 : decode cX9_stone 241 = .ok (.ifCond .ne 14, 3) := by decide +kernel
theorem dX9_stone_244 : decode cX9_stone 244 = .ok (.aload_n 0, 1) := by decide +kernel
theorem dX9_stone_245 : decode cX9_stone 245 = .ok (.getfield 96, 3) := by decide +kernel
theorem dX9_stone_248 : decode cX9_stone 248 = .ok (.aload_n 0, 1) := by decide +kernel
theorem dX9_stone_249 : decode cX9_stone 249 = .ok (.getfield 93, 3) := by decide +kernel
theorem dX9_stone_252 : decode cX9_stone 252 = .ok (.if_icmp .ge 11, 3) := by decide +kernel
theorem dX9_stone_255 : decode cX9_stone 255 = .ok (.bipush (-2), 2) := by decide +kernel
theorem dX9_stone_257 : decode cX9_stone 257 = .ok (.aload_n 0, 1) := by decide +kernel
theorem dX9_stone_258 : decode cX9_stone 258 = .ok (.getfield 96, 3) := by decide +kernel
theorem dX9_stone_261 : decode cX9_stone 261 = .ok (.isub, 1) := by decide +kernel
theorem dX9_stone_262 : decode cX9_stone 262 = .ok (.ireturn, 1) := by decide +kernel
theorem dX9_stone_263 : decode cX9_stone 263 = .ok (.aload_n 0, 1) := by decide +kernel
theorem dX9_stone_264 : decode cX9_stone 264 = .ok (.getfield 24, 3) := by decide +kernel
theorem dX9_stone_267 : decode cX9_stone 267 = .ok (.aload_n 0, 1) := by decide +kernel
theorem dX9_stone_268 : decode cX9_stone 268 = .ok (.getfield 163, 3) := by decide +kernel
theorem dX9_stone_271 : decode cX9_stone 271 = .ok (.iload_n 1, 1) := by decide +kernel
theorem dX9_stone_272 : decode cX9_stone 272 = .ok (.iastore, 1) := by decide +kernel
theorem dX9_stone_273 : decode cX9_stone 273 = .ok (.aload_n 0, 1) := by decide +kernel
theorem dX9_stone_274 : decode cX9_stone 274 = .ok (.dup, 1) := by decide +kernel
theorem dX9_stone_275 : decode cX9_stone 275 = .ok (.getfield 163, 3) := by decide +kernel
theorem dX9_stone_278 : decode cX9_stone 278 = .ok (.iconst 1, 1) := by decide +kernel
theorem dX9_stone_279 : decode cX9_stone 279 = .ok (.iadd, 1) := by decide +kernel
theorem dX9_stone_280 : decode cX9_stone 280 = .ok (.putfield 163, 3) := by decide +kernel
theorem dX9_stone_283 : decode cX9_stone 283 = .ok (.aload_n 0, 1) := by decide +kernel
theorem dX9_stone_284 : decode cX9_stone 284 = .ok (.aload_n 0, 1) := by decide +kernel
theorem dX9_stone_285 : decode cX9_stone 285 = .ok (.getfield 163, 3) := by decide +kernel
theorem dX9_stone_288 : decode cX9_stone 288 = .ok (.iconst 1, 1) := by decide +kernel
theorem dX9_stone_289 : decode cX9_stone 289 = .ok (.isub, 1) := by decide +kernel
theorem dX9_stone_290 : decode cX9_stone 290 = .ok (.invokevirtual 172, 3) := by decide +kernel
theorem dX9_stone_293 : decode cX9_stone 293 = .ok (.aload_n 0, 1) := by decide +kernel
theorem dX9_stone_294 : decode cX9_stone 294 = .ok (.iconst 0, 1) := by decide +kernel
theorem dX9_stone_295 : decode cX9_stone 295 = .ok (.putfield 176, 3) := by decide +kernel
theorem dX9_stone_298 : decode cX9_stone 298 = .ok (.aload_n 0, 1) := by decide +kernel
theorem dX9_stone_299 : decode cX9_stone 299 = .ok (.getfield 163, 3) := by decide +kernel
theorem dX9_stone_302 : decode cX9_stone 302 = .ok (.iconst 1, 1) := by decide +kernel
theorem dX9_stone_303 : decode cX9_stone 303 = .ok (.isub, 1) := by decide +kernel
theorem dX9_stone_304 : decode cX9_stone 304 = .ok (.ireturn, 1) := by decide +kernel
theorem dX9_isAllowed_0 : decode cX9_isAllowed 0 = .ok (.iload_n 3, 1) := by decide +kernel
theorem dX9_isAllowed_1 : decode cX9_isAllowed 1 = .ok (.bipush 64, 2) := by decide +kernel
theorem dX9_isAllowed_3 : decode cX9_isAllowed 3 = .ok (.if_icmp .ge 31, 3) := by decide +kernel
theorem dX9_isAllowed_6 : decode cX9_isAllowed 6 = .ok (.aload_n 0, 1) := by decide +kernel
theorem dX9_isAllowed_7 : decode cX9_isAllowed 7 = .ok (.getfield 17, 3) := by decide +kernel
theorem dX9_isAllowed_10 : decode cX9_isAllowed 10 = .ok (.bipush 11, 2) := by decide +kernel
theorem dX9_isAllowed_12 : decode cX9_isAllowed 12 = .ok (.iload_n 1, 1) := by decide +kernel
theorem dX9_isAllowed_13 : decode cX9_isAllowed 13 = .ok (.imul, 1) := by decide +kernel
theorem dX9_isAllowed_14 : decode cX9_isAllowed 14 = .ok (.iload_n 2, 1) := by decide +kernel
theorem dX9_isAllowed_15 : decode cX9_isAllowed 15 = .ok (.iadd, 1) := by decide +kernel
theorem dX9_isAllowed_16 : decode cX9_isAllowed 16 = .ok (.laload, 1) := by decide +kernel
theorem dX9_isAllowed_17 : decode cX9_isAllowed 17 = .ok (.iload_n 3, 1) := by decide +kernel
theorem dX9_isAllowed_18 : decode cX9_isAllowed 18 = .ok (.lshr, 1) := by decide +kernel
theorem dX9_isAllowed_19 : decode cX9_isAllowed 19 = .ok (.lconst 1, 1) := by decide +kernel
theorem dX9_isAllowed_20 : decode cX9_isAllowed 20 = .ok (.land, 1) := by decide +kernel
theorem dX9_isAllowed_21 : decode cX9_isAllowed 21 = .ok (.lconst 1, 1) := by decide +kernel
theorem dX9_isAllowed_22 : decode cX9_isAllowed 22 = .ok (.lcmp, 1) := by decide +kernel
theorem dX9_isAllowed_23 : decode cX9_isAllowed 23 = .ok (.ifCond .ne 7, 3) := by decide +kernel
theorem dX9_isAllowed_26 : decode cX9_isAllowed 26 = .ok (.iconst 1, 1) := by decide +kernel
theorem dX9_isAllowed_27 : decode cX9_isAllowed 27 = .ok (.goto 35, 3) := by decide +kernel
theorem dX9_isAllowed_30 : decode cX9_isAllowed 30 = .ok (.iconst 0, 1) := by decide +kernel
theorem dX9_isAllowed_31 : decode cX9_isAllowed 31 = .ok (.goto 31, 3) := by decide +kernel
theorem dX9_isAllowed_34 : decode cX9_isAllowed 34 = .ok (.aload_n 0, 1) := by decide +kernel
theorem dX9_isAllowed_35 : decode cX9_isAllowed 35 = .ok (.getfield 21, 3) := by decide +kernel
theorem dX9_isAllowed_38 : decode cX9_isAllowed 38 = .ok (.bipush 11, 2) := by decide +kernel
theorem dX9_isAllowed_40 : decode cX9_isAllowed 40 = .ok (.iload_n 1, 1) := by decide +kernel
theorem dX9_isAllowed_41 : decode cX9_isAllowed 41 = .ok (.imul, 1) := by decide +kernel
theorem dX9_isAllowed_42 : decode cX9_isAllowed 42 = .ok (.iload_n 2, 1) := by decide +kernel
theorem dX9_isAllowed_43 : decode cX9_isAllowed 43 = .ok (.iadd, 1) := by decide +kernel
theorem dX9_isAllowed_44 : decode cX9_isAllowed 44 = .ok (.laload, 1) := by decide +kernel
theorem dX9_isAllowed_45 : decode cX9_isAllowed 45 = .ok (.iload_n 3, 1) := by decide +kernel
theorem dX9_isAllowed_46 : decode cX9_isAllowed 46 = .ok (.bipush 64, 2) := by decide +kernel
theorem dX9_isAllowed_48 : decode cX9_isAllowed 48 = .ok (.isub, 1) := by decide +kernel
theorem dX9_isAllowed_49 : decode cX9_isAllowed 49 = .ok (.lshr, 1) := by decide +kernel
theorem dX9_isAllowed_50 : decode cX9_isAllowed 50 = .ok (.lconst 1, 1) := by decide +kernel
theorem dX9_isAllowed_51 : decode cX9_isAllowed 51 = .ok (.land, 1) := by decide +kernel
theorem dX9_isAllowed_52 : decode cX9_isAllowed 52 = .ok (.lconst 1, 1) := by decide +kernel
theorem dX9_isAllowed_53 : decode cX9_isAllowed 53 = .ok (.lcmp, 1) := by decide +kernel
theorem dX9_isAllowed_54 : decode cX9_isAllowed 54 = .ok (.ifCond .ne 7, 3) := by decide +kernel
theorem dX9_isAllowed_57 : decode cX9_isAllowed 57 = .ok (.iconst 1, 1) := by decide +kernel
theorem dX9_isAllowed_58 : decode cX9_isAllowed 58 = .ok (.goto 4, 3) := by decide +kernel
theorem dX9_isAllowed_61 : decode cX9_isAllowed 61 = .ok (.iconst 0, 1) := by decide +kernel
theorem dX9_isAllowed_62 : decode cX9_isAllowed 62 = .ok (.ireturn, 1) := by decide +kernel
set_option maxRecDepth 20000 in
theorem ggX9_isFit_X9_valueOf : GoodIn wsX9_isFit wsX9_valueOf := goodIn_r _ [6, 7] (by decide +kernel) (by decide +kernel)
set_option maxRecDepth 20000 in
theorem gX9_isFit_X9_valueOf : GoodIn wsX9_isFit (va_wsS RX9 83 yX9_valueOf wsX9_valueOf) := goodIn_app (goodIn_of _ (by decide +kernel)) ggX9_isFit_X9_valueOf
set_option maxRecDepth 20000 in
theorem ggX9_isFit_X9_isAllowed : GoodIn wsX9_isFit wsX9_isAllowed := goodIn_r _ [11, 12, 13, 19, 20, 21, 22, 23, 24, 25, 26, 27, 28, 29, 30, 31, 32, 33, 34, 35, 36, 37, 38, 39, 40, 41, 42, 43, 44, 45, 46, 47, 48, 49, 50, 51] (by decide +kernel) (by decide +kernel)
set_option maxRecDepth 20000 in
theorem gX9_isFit_X9_isAllowed : GoodIn wsX9_isFit (wsV RX9 179 RX9 yX9_isAllowed wsX9_isAllowed) := goodIn_app (goodIn_of _ (by decide +kernel)) ggX9_isFit_X9_isAllowed
set_option maxRecDepth 20000 in
theorem ggX9_isFit_X9_moonOf : GoodIn wsX9_isFit wsX9_moonOf := goodIn_r _ [16, 17, 18] (by decide +kernel) (by decide +kernel)
set_option maxRecDepth 20000 in
theorem gX9_isFit_X9_moonOf : GoodIn wsX9_isFit (va_wsS RX9 87 yX9_moonOf wsX9_moonOf) := goodIn_app (goodIn_of _ (by decide +kernel)) ggX9_isFit_X9_moonOf
theorem dX9_isFit_0 : decode cX9_isFit 0 = .ok (.iconst 0, 1) := by decide +kernel
theorem dX9_isFit_1 : decode cX9_isFit 1 = .ok (.istore_n 3, 1) := by decide +kernel
theorem dX9_isFit_2 : decode cX9_isFit 2 = .ok (.iload_n 3, 1) := by decide +kernel
theorem dX9_isFit_3 : decode cX9_isFit 3 = .ok (.bipush 10, 2) := by decide +kernel
theorem dX9_isFit_5 : decode cX9_isFit 5 = .ok (.if_icmp .ge 25, 3) := by decide +kernel
theorem dX9_isFit_8 : decode cX9_isFit 8 = .ok (.aload_n 0, 1) := by decide +kernel
theorem dX9_isFit_9 : decode cX9_isFit 9 = .ok (.iload_n 1, 1) := by decide +kernel
theorem dX9_isFit_10 : decode cX9_isFit 10 = .ok (.iload_n 3, 1) := by decide +kernel
theorem dX9_isFit_11 : decode cX9_isFit 11 = .ok (.iload_n 2, 1) := by decide +kernel
theorem dX9_isFit_12 : decode cX9_isFit 12 = .ok (.iload_n 3, 1) := by decide +kernel
theorem dX9_isFit_13 : decode cX9_isFit 13 = .ok (.invokestatic 83, 3) := by decide +kernel
theorem dX9_isFit_16 : decode cX9_isFit 16 = .ok (.invokevirtual 179, 3) := by decide +kernel
theorem dX9_isFit_19 : decode cX9_isFit 19 = .ok (.ifCond .ne 5, 3) := by decide +kernel
theorem dX9_isFit_22 : decode cX9_isFit 22 = .ok (.iconst 0, 1) := by decide +kernel
theorem dX9_isFit_23 : decode cX9_isFit 23 = .ok (.ireturn, 1) := by decide +kernel
theorem dX9_isFit_24 : decode cX9_isFit 24 = .ok (.iinc 3 1, 3) := by decide +kernel
theorem dX9_isFit_27 : decode cX9_isFit 27 = .ok (.goto (-25), 3) := by decide +kernel
theorem dX9_isFit_30 : decode cX9_isFit 30 = .ok (.aload_n 0, 1) := by decide +kernel
theorem dX9_isFit_31 : decode cX9_isFit 31 = .ok (.iload_n 1, 1) := by decide +kernel
theorem dX9_isFit_32 : decode cX9_isFit 32 = .ok (.bipush 10, 2) := by decide +kernel
theorem dX9_isFit_34 : decode cX9_isFit 34 = .ok (.iload_n 2, 1) := by decide +kernel
theorem dX9_isFit_35 : decode cX9_isFit 35 = .ok (.aload_n 0, 1) := by decide +kernel
theorem dX9_isFit_36 : decode cX9_isFit 36 = .ok (.getfield 9, 3) := by decide +kernel
theorem dX9_isFit_39 : decode cX9_isFit 39 = .ok (.aload_n 0, 1) := by decide +kernel
theorem dX9_isFit_40 : decode cX9_isFit 40 = .ok (.getfield 24, 3) := by decide +kernel
theorem dX9_isFit_43 : decode cX9_isFit 43 = .ok (.iload_n 1, 1) := by decide +kernel
theorem dX9_isFit_44 : decode cX9_isFit 44 = .ok (.iaload, 1) := by decide +kernel
theorem dX9_isFit_45 : decode cX9_isFit 45 = .ok (.iaload, 1) := by decide +kernel
theorem dX9_isFit_46 : decode cX9_isFit 46 = .ok (.invokestatic 87, 3) := by decide +kernel
theorem dX9_isFit_49 : decode cX9_isFit 49 = .ok (.invokevirtual 179, 3) := by decide +kernel
theorem dX9_isFit_52 : decode cX9_isFit 52 = .ok (.ireturn, 1) := by decide +kernel
set_option maxRecDepth 20000 in
theorem ggX9_lists_X9_isFit : GoodIn wsX9_lists wsX9_isFit := goodIn_r _ [9, 10, 11, 12, 13, 8, 14, 15, 16, 17, 18, 19, 20, 21, 22, 23, 24, 25, 26, 27, 28, 29, 30, 31, 32, 33, 34, 35, 36, 37, 38, 39, 40, 41, 42, 43, 44, 45, 46, 47, 48, 49, 50, 51, 52, 53, 54, 55, 56, 57, 58, 59] (by decide +kernel) (by decide +kernel)
set_option maxRecDepth 20000 in
theorem gX9_lists_X9_isFit : GoodIn wsX9_lists (wsV RX9 183 RX9 yX9_isFit wsX9_isFit) := goodIn_app (goodIn_of _ (by decide +kernel)) ggX9_lists_X9_isFit
theorem dX9_lists_0 : decode cX9_lists 0 = .ok (.aload_n 0, 1) := by decide +kernel
theorem dX9_lists_1 : decode cX9_lists 1 = .ok (.getfield 27, 3) := by decide +kernel
theorem dX9_lists_4 : decode cX9_lists 4 = .ok (.iload_n 1, 1) := by decide +kernel
theorem dX9_lists_5 : decode cX9_lists 5 = .ok (.iconst 0, 1) := by decide +kernel
theorem dX9_lists_6 : decode cX9_lists 6 = .ok (.iastore, 1) := by decide +kernel
theorem dX9_lists_7 : decode cX9_lists 7 = .ok (.ldc 72, 2) := by decide +kernel
theorem dX9_lists_9 : decode cX9_lists 9 = .ok (.istore_n 2, 1) := by decide +kernel
theorem dX9_lists_10 : decode cX9_lists 10 = .ok (.iload_n 2, 1) := by decide +kernel
theorem dX9_lists_11 : decode cX9_lists 11 = .ok (.ldc 73, 2) := by decide +kernel
theorem dX9_lists_13 : decode cX9_lists 13 = .ok (.if_icmp .gt 61, 3) := by decide +kernel
theorem dX9_lists_16 : decode cX9_lists 16 = .ok (.aload_n 0, 1) := by decide +kernel
theorem dX9_lists_17 : decode cX9_lists 17 = .ok (.iload_n 1, 1) := by decide +kernel
theorem dX9_lists_18 : decode cX9_lists 18 = .ok (.iload_n 2, 1) := by decide +kernel
theorem dX9_lists_19 : decode cX9_lists 19 = .ok (.invokevirtual 183, 3) := by decide +kernel
theorem dX9_lists_22 : decode cX9_lists 22 = .ok (.ifCond .ne 6, 3) := by decide +kernel
theorem dX9_lists_25 : decode cX9_lists 25 = .ok (.goto 43, 3) := by decide +kernel
theorem dX9_lists_28 : decode cX9_lists 28 = .ok (.aload_n 0, 1) := by decide +kernel
theorem dX9_lists_29 : decode cX9_lists 29 = .ok (.getfield 27, 3) := by decide +kernel
theorem dX9_lists_32 : decode cX9_lists 32 = .ok (.iload_n 1, 1) := by decide +kernel
theorem dX9_lists_33 : decode cX9_lists 33 = .ok (.iaload, 1) := by decide +kernel
theorem dX9_lists_34 : decode cX9_lists 34 = .ok (.sipush 300, 3) := by decide +kernel
theorem dX9_lists_37 : decode cX9_lists 37 = .ok (.if_icmp .ge 21, 3) := by decide +kernel
theorem dX9_lists_40 : decode cX9_lists 40 = .ok (.aload_n 0, 1) := by decide +kernel
theorem dX9_lists_41 : decode cX9_lists 41 = .ok (.getfield 30, 3) := by decide +kernel
theorem dX9_lists_44 : decode cX9_lists 44 = .ok (.sipush 300, 3) := by decide +kernel
theorem dX9_lists_47 : decode cX9_lists 47 = .ok (.iload_n 1, 1) := by decide +kernel
theorem dX9_lists_48 : decode cX9_lists 48 = .ok (.imul, 1) := by decide +kernel
theorem dX9_lists_49 : decode cX9_lists 49 = .ok (.aload_n 0, 1) := by decide +kernel
theorem dX9_lists_50 : decode cX9_lists 50 = .ok (.getfield 27, 3) := by decide +kernel
theorem dX9_lists_53 : decode cX9_lists 53 = .ok (.iload_n 1, 1) := by decide +kernel
theorem dX9_lists_54 : decode cX9_lists 54 = .ok (.iaload, 1) := by decide +kernel
theorem dX9_lists_55 : decode cX9_lists 55 = .ok (.iadd, 1) := by decide +kernel
theorem dX9_lists_56 : decode cX9_lists 56 = .ok (.iload_n 2, 1) := by decide +kernel
theorem dX9_lists_57 : decode cX9_lists 57 = .ok (.iastore, 1) := by decide +kernel
theorem dX9_lists_58 : decode cX9_lists 58 = .ok (.aload_n 0, 1) := by decide +kernel
theorem dX9_lists_59 : decode cX9_lists 59 = .ok (.getfield 27, 3) := by decide +kernel
theorem dX9_lists_62 : decode cX9_lists 62 = .ok (.iload_n 1, 1) := by decide +kernel
theorem dX9_lists_63 : decode cX9_lists 63 = .ok (.dup2, 1) := by decide +kernel
theorem dX9_lists_64 : decode cX9_lists 64 = .ok (.iaload, 1) := by decide +kernel
theorem dX9_lists_65 : decode cX9_lists 65 = .ok (.iconst 1, 1) := by decide +kernel
theorem dX9_lists_66 : decode cX9_lists 66 = .ok (.iadd, 1) := by decide +kernel
theorem dX9_lists_67 : decode cX9_lists 67 = .ok (.iastore, 1) := by decide +kernel
theorem dX9_lists_68 : decode cX9_lists 68 = .ok (.iinc 2 1, 3) := by decide +kernel
theorem dX9_lists_71 : decode cX9_lists 71 = .ok (.goto (-61), 3) := by decide +kernel
theorem dX9_lists_74 : decode cX9_lists 74 = .ok (.return_, 1) := by decide +kernel
theorem dX9_isStone_0 : decode cX9_isStone 0 = .ok (.aload_n 0, 1) := by decide +kernel
theorem dX9_isStone_1 : decode cX9_isStone 1 = .ok (.iload_n 1, 1) := by decide +kernel
theorem dX9_isStone_2 : decode cX9_isStone 2 = .ok (.ifCond .lt 11, 3) := by decide +kernel
theorem dX9_isStone_5 : decode cX9_isStone 5 = .ok (.iload_n 1, 1) := by decide +kernel
theorem dX9_isStone_6 : decode cX9_isStone 6 = .ok (.aload_n 0, 1) := by decide +kernel
theorem dX9_isStone_7 : decode cX9_isStone 7 = .ok (.getfield 163, 3) := by decide +kernel
theorem dX9_isStone_10 : decode cX9_isStone 10 = .ok (.if_icmp .lt 7, 3) := by decide +kernel
theorem dX9_isStone_13 : decode cX9_isStone 13 = .ok (.iconst 1, 1) := by decide +kernel
theorem dX9_isStone_14 : decode cX9_isStone 14 = .ok (.goto 4, 3) := by decide +kernel
theorem dX9_isStone_17 : decode cX9_isStone 17 = .ok (.iconst 0, 1) := by decide +kernel
theorem dX9_isStone_18 : decode cX9_isStone 18 = .ok (.putfield 61, 3) := by decide +kernel
theorem dX9_isStone_21 : decode cX9_isStone 21 = .ok (.aload_n 0, 1) := by decide +kernel
theorem dX9_isStone_22 : decode cX9_isStone 22 = .ok (.getfield 61, 3) := by decide +kernel
theorem dX9_isStone_25 : decode cX9_isStone 25 = .ok (.ifCond .ne 7, 3) := by decide +kernel
theorem dX9_isStone_28 : decode cX9_isStone 28 = .ok (.iconst 1, 1) := by decide +kernel
theorem dX9_isStone_29 : decode cX9_isStone 29 = .ok (.goto 4, 3) := by decide +kernel
theorem dX9_isStone_32 : decode cX9_isStone 32 = .ok (.iconst 0, 1) := by decide +kernel
theorem dX9_isStone_33 : decode cX9_isStone 33 = .ok (.ireturn, 1) := by decide +kernel
set_option maxRecDepth 20000 in
theorem ggX9_many_X9_isStone : GoodIn wsX9_many wsX9_isStone := goodIn_r _ [6, 7, 8, 9, 10, 11, 12, 13, 14, 15, 16, 17, 18, 19, 20, 21, 22, 23, 24, 25, 26, 27, 28, 29, 30, 31, 32, 33, 34, 35, 36, 37, 38, 39, 40, 41] (by decide +kernel) (by decide +kernel)
set_option maxRecDepth 20000 in
theorem gX9_many_X9_isStone : GoodIn wsX9_many (wsV RX9 187 RX9 yX9_isStone wsX9_isStone) := goodIn_app (goodIn_of _ (by decide +kernel)) ggX9_many_X9_isStone
theorem dX9_many_0 : decode cX9_many 0 = .ok (.aload_n 0, 1) := by decide +kernel
theorem dX9_many_1 : decode cX9_many 1 = .ok (.iload_n 1, 1) := by decide +kernel
theorem dX9_many_2 : decode cX9_many 2 = .ok (.invokevirtual 187, 3) := by decide +kernel
theorem dX9_many_5 : decode cX9_many 5 = .ok (.ifCond .eq 12, 3) := by decide +kernel
theorem dX9_many_8 : decode cX9_many 8 = .ok (.aload_n 0, 1) := by decide +kernel
theorem dX9_many_9 : decode cX9_many 9 = .ok (.getfield 27, 3) := by decide +kernel
theorem dX9_many_12 : decode cX9_many 12 = .ok (.iload_n 1, 1) := by decide +kernel
theorem dX9_many_13 : decode cX9_many 13 = .ok (.iaload, 1) := by decide +kernel
theorem dX9_many_14 : decode cX9_many 14 = .ok (.goto 4, 3) := by decide +kernel
theorem dX9_many_17 : decode cX9_many 17 = .ok (.iconst 0, 1) := by decide +kernel
theorem dX9_many_18 : decode cX9_many 18 = .ok (.ireturn, 1) := by decide +kernel
set_option maxRecDepth 20000 in
theorem ggX9_day_X9_isStone : GoodIn wsX9_day wsX9_isStone := goodIn_r _ [7, 8, 9, 10, 11, 12, 13, 14, 15, 16, 17, 18, 19, 20, 21, 22, 23, 24, 25, 26, 27, 28, 29, 30, 31, 32, 33, 34, 35, 36, 37, 38, 39, 40, 41, 42] (by decide +kernel) (by decide +kernel)
set_option maxRecDepth 20000 in
theorem gX9_day_X9_isStone : GoodIn wsX9_day (wsV RX9 187 RX9 yX9_isStone wsX9_isStone) := goodIn_app (goodIn_of _ (by decide +kernel)) ggX9_day_X9_isStone
theorem dX9_day_0 : decode cX9_day 0 = .ok (.aload_n 0, 1) := by decide +kernel
theorem dX9_day_1 : decode cX9_day 1 = .ok (.iload_n 1, 1) := by decide +kernel
theorem dX9_day_2 : decode cX9_day 2 = .ok (.invokevirtual 187, 3) := by decide +kernel
theorem dX9_day_5 : decode cX9_day 5 = .ok (.ifCond .ne 5, 3) := by decide +kernel
theorem dX9_day_8 : decode cX9_day 8 = .ok (.iconst 0, 1) := by decide +kernel
theorem dX9_day_9 : decode cX9_day 9 = .ok (.ireturn, 1) := by decide +kernel
theorem dX9_day_10 : decode cX9_day 10 = .ok (.iload_n 2, 1) := by decide +kernel
theorem dX9_day_11 : decode cX9_day 11 = .ok (.ifCond .lt 35, 3) := by decide +kernel
theorem dX9_day_14 : decode cX9_day 14 = .ok (.iload_n 2, 1) := by decide +kernel
theorem dX9_day_15 : decode cX9_day 15 = .ok (.sipush 300, 3) := by decide +kernel
theorem dX9_day_18 : decode cX9_day 18 = .ok (.if_icmp .ge 28, 3) := by decide +kernel
theorem dX9_day_21 : decode cX9_day 21 = .ok (.iload_n 2, 1) := by decide +kernel
theorem dX9_day_22 : decode cX9_day 22 = .ok (.aload_n 0, 1) := by decide +kernel
theorem dX9_day_23 : decode cX9_day 23 = .ok (.getfield 27, 3) := by decide +kernel
theorem dX9_day_26 : decode cX9_day 26 = .ok (.iload_n 1, 1) := by decide +kernel
theorem dX9_day_27 : decode cX9_day 27 = .ok (.iaload, 1) := by decide +kernel
theorem dX9_day_28 : decode cX9_day 28 = .ok (.if_icmp .ge 18, 3) := by decide +kernel
theorem dX9_day_31 : decode cX9_day 31 = .ok (.aload_n 0, 1) := by decide +kernel
theorem dX9_day_32 : decode cX9_day 32 = .ok (.getfield 30, 3) := by decide +kernel
theorem dX9_day_35 : decode cX9_day 35 = .ok (.sipush 300, 3) := by decide +kernel
theorem dX9_day_38 : decode cX9_day 38 = .ok (.iload_n 1, 1) := by decide +kernel
theorem dX9_day_39 : decode cX9_day 39 = .ok (.imul, 1) := by decide +kernel
theorem dX9_day_40 : decode cX9_day 40 = .ok (.iload_n 2, 1) := by decide +kernel
theorem dX9_day_41 : decode cX9_day 41 = .ok (.iadd, 1) := by decide +kernel
theorem dX9_day_42 : decode cX9_day 42 = .ok (.iaload, 1) := by decide +kernel
theorem dX9_day_43 : decode cX9_day 43 = .ok (.goto 4, 3) := by decide +kernel
theorem dX9_day_46 : decode cX9_day 46 = .ok (.iconst (-1), 1) := by decide +kernel
theorem dX9_day_47 : decode cX9_day 47 = .ok (.ireturn, 1) := by decide +kernel
set_option maxRecDepth 20000 in
theorem ggX9_fits_X9_isStone : GoodIn wsX9_fits wsX9_isStone := goodIn_r _ [5, 6, 7, 38, 39, 40, 41, 42, 43, 44, 45, 46, 47, 48, 49, 50, 51, 52, 53, 54, 55, 56, 57, 58, 59, 60, 61, 62, 63, 64, 65, 66, 67, 68, 69, 70] (by decide +kernel) (by decide +kernel)
set_option maxRecDepth 20000 in
theorem gX9_fits_X9_isStone : GoodIn wsX9_fits (wsV RX9 187 RX9 yX9_isStone wsX9_isStone) := goodIn_app (goodIn_of _ (by decide +kernel)) ggX9_fits_X9_isStone
set_option maxRecDepth 20000 in
theorem ggX9_fits_X9_isDay : GoodIn wsX9_fits wsX9_isDay := goodIn_r _ [10, 11, 12] (by decide +kernel) (by decide +kernel)
set_option maxRecDepth 20000 in
theorem gX9_fits_X9_isDay : GoodIn wsX9_fits (va_wsS RX9 79 yX9_isDay wsX9_isDay) := goodIn_app (goodIn_of _ (by decide +kernel)) ggX9_fits_X9_isDay
set_option maxRecDepth 20000 in
theorem ggX9_fits_X9_bad : GoodIn wsX9_fits wsX9_bad := goodIn_r _ [16, 7, 38, 39, 40, 41, 42, 43, 44, 45, 46, 47, 48, 49, 50, 51, 52, 53, 54, 55, 56, 57, 58, 59, 60, 61, 62, 63, 64, 65, 66, 67, 68, 69, 70] (by decide +kernel) (by decide +kernel)
set_option maxRecDepth 20000 in
theorem gX9_fits_X9_bad : GoodIn wsX9_fits (wsV RX9 65 RX9 yX9_bad wsX9_bad) := goodIn_app (goodIn_of _ (by decide +kernel)) ggX9_fits_X9_bad
set_option maxRecDepth 20000 in
theorem ggX9_fits_X9_isFit : GoodIn wsX9_fits wsX9_isFit := goodIn_r _ [20, 21, 22, 23, 24, 4, 25, 26, 27, 28, 29, 30, 31, 32, 33, 34, 35, 36, 37, 38, 39, 40, 41, 42, 43, 44, 45, 46, 47, 48, 49, 50, 51, 52, 53, 54, 55, 56, 57, 58, 59, 60, 61, 62, 63, 64, 65, 66, 67, 68, 69, 70] (by decide +kernel) (by decide +kernel)
set_option maxRecDepth 20000 in
theorem gX9_fits_X9_isFit : GoodIn wsX9_fits (wsV RX9 183 RX9 yX9_isFit wsX9_isFit) := goodIn_app (goodIn_of _ (by decide +kernel)) ggX9_fits_X9_isFit
theorem dX9_fits_0 : decode cX9_fits 0 = .ok (.aload_n 0, 1) := by decide +kernel
theorem dX9_fits_1 : decode cX9_fits 1 = .ok (.iload_n 1, 1) := by decide +kernel
theorem dX9_fits_2 : decode cX9_fits 2 = .ok (.invokevirtual 187, 3) := by decide +kernel
theorem dX9_fits_5 : decode cX9_fits 5 = .ok (.ifCond .eq 23, 3) := by decide +kernel
theorem dX9_fits_8 : decode cX9_fits 8 = .ok (.aload_n 0, 1) := by decide +kernel
theorem dX9_fits_9 : decode cX9_fits 9 = .ok (.iload_n 2, 1) := by decide +kernel
theorem dX9_fits_10 : decode cX9_fits 10 = .ok (.invokestatic 79, 3) := by decide +kernel
theorem dX9_fits_13 : decode cX9_fits 13 = .ok (.ifCond .ne 7, 3) := by decide +kernel
theorem dX9_fits_16 : decode cX9_fits 16 = .ok (.iconst 1, 1) := by decide +kernel
theorem dX9_fits_17 : decode cX9_fits 17 = .ok (.goto 4, 3) := by decide +kernel
theorem dX9_fits_20 : decode cX9_fits 20 = .ok (.iconst 0, 1) := by decide +kernel
theorem dX9_fits_21 : decode cX9_fits 21 = .ok (.iconst 2, 1) := by decide +kernel
theorem dX9_fits_22 : decode cX9_fits 22 = .ok (.invokevirtual 65, 3) := by decide +kernel
theorem dX9_fits_25 : decode cX9_fits 25 = .ok (.ifCond .eq 5, 3) := by decide +kernel
theorem dX9_fits_28 : decode cX9_fits 28 = .ok (.iconst 0, 1) := by decide +kernel
theorem dX9_fits_29 : decode cX9_fits 29 = .ok (.ireturn, 1) := by decide +kernel
theorem dX9_fits_30 : decode cX9_fits 30 = .ok (.aload_n 0, 1) := by decide +kernel
theorem dX9_fits_31 : decode cX9_fits 31 = .ok (.iload_n 1, 1) := by decide +kernel
theorem dX9_fits_32 : decode cX9_fits 32 = .ok (.iload_n 2, 1) := by decide +kernel
theorem dX9_fits_33 : decode cX9_fits 33 = .ok (.invokevirtual 183, 3) := by decide +kernel
theorem dX9_fits_36 : decode cX9_fits 36 = .ok (.ireturn, 1) := by decide +kernel
set_option maxRecDepth 20000 in
theorem ggX9_distance_X9_bad : GoodIn wsX9_distance wsX9_bad := goodIn_r _ [14, 1, 15, 16, 17, 18, 19, 20, 21, 22, 23, 24, 25, 26, 27, 28, 29, 30, 31, 32, 33, 34, 35, 36, 37, 38, 39, 40, 41, 42, 43, 44, 45, 46, 47] (by decide +kernel) (by decide +kernel)
set_option maxRecDepth 20000 in
theorem gX9_distance_X9_bad : GoodIn wsX9_distance (wsV RX9 65 RX9 yX9_bad wsX9_bad) := goodIn_app (goodIn_of _ (by decide +kernel)) ggX9_distance_X9_bad
theorem dX9_distance_0 : decode cX9_distance 0 = .ok (.aload_n 0, 1) := by decide +kernel
theorem dX9_distance_1 : decode cX9_distance 1 = .ok (.iconst 0, 1) := by decide +kernel
theorem dX9_distance_2 : decode cX9_distance 2 = .ok (.putfield 61, 3) := by decide +kernel
theorem dX9_distance_5 : decode cX9_distance 5 = .ok (.aload_n 0, 1) := by decide +kernel
theorem dX9_distance_6 : decode cX9_distance 6 = .ok (.iload_n 1, 1) := by decide +kernel
theorem dX9_distance_7 : decode cX9_distance 7 = .ok (.ifCond .lt 23, 3) := by decide +kernel
theorem dX9_distance_10 : decode cX9_distance 10 = .ok (.iload_n 1, 1) := by decide +kernel
theorem dX9_distance_11 : decode cX9_distance 11 = .ok (.aload_n 0, 1) := by decide +kernel
theorem dX9_distance_12 : decode cX9_distance 12 = .ok (.getfield 163, 3) := by decide +kernel
theorem dX9_distance_15 : decode cX9_distance 15 = .ok (.if_icmp .ge 15, 3) := by decide +kernel
theorem dX9_distance_18 : decode cX9_distance 18 = .ok (.iload_n 2, 1) := by decide +kernel
theorem dX9_distance_19 : decode cX9_distance 19 = .ok (.ifCond .lt 11, 3) := by decide +kernel
theorem dX9_distance_22 : decode cX9_distance 22 = .ok (.iload_n 2, 1) := by decide +kernel
theorem dX9_distance_23 : decode cX9_distance 23 = .ok (.aload_n 0, 1) := by decide +kernel
theorem dX9_distance_24 : decode cX9_distance 24 = .ok (.getfield 163, 3) := by decide +kernel
theorem dX9_distance_27 : decode cX9_distance 27 = .ok (.if_icmp .lt 7, 3) := by decide +kernel
theorem dX9_distance_30 : decode cX9_distance 30 = .ok (.iconst 1, 1) := by decide +kernel
theorem dX9_distance_31 : decode cX9_distance 31 = .ok (.goto 4, 3) := by decide +kernel
theorem dX9_distance_34 : decode cX9_distance 34 = .ok (.iconst 0, 1) := by decide +kernel
theorem dX9_distance_35 : decode cX9_distance 35 = .ok (.iconst 1, 1) := by decide +kernel
theorem dX9_distance_36 : decode cX9_distance 36 = .ok (.invokevirtual 65, 3) := by decide +kernel
theorem dX9_distance_39 : decode cX9_distance 39 = .ok (.ifCond .ne 55, 3) := by decide +kernel
theorem dX9_distance_42 : decode cX9_distance 42 = .ok (.aload_n 0, 1) := by decide +kernel
theorem dX9_distance_43 : decode cX9_distance 43 = .ok (.iload_n 1, 1) := by decide +kernel
theorem dX9_distance_44 : decode cX9_distance 44 = .ok (.iload_n 2, 1) := by decide +kernel
theorem dX9_distance_45 : decode cX9_distance 45 = .ok (.if_icmp .eq 15, 3) := by decide +kernel
theorem dX9_distance_48 : decode cX9_distance 48 = .ok (.iload_n 3, 1) := by decide +kernel
theorem dX9_distance_49 : decode cX9_distance 49 = .ok (.ldc 190, 2) := by decide +kernel
theorem dX9_distance_51 : decode cX9_distance 51 = .ok (.if_icmp .lt 9, 3) := by decide +kernel
theorem dX9_distance_54 : decode cX9_distance 54 = .ok (.iload_n 3, 1) := by decide +kernel
theorem dX9_distance_55 : decode cX9_distance 55 = .ok (.ldc 191, 2) := by decide +kernel
theorem dX9_distance_57 : decode cX9_distance 57 = .ok (.if_icmp .le 7, 3) := by decide +kernel
theorem dX9_distance_60 : decode cX9_distance 60 = .ok (.iconst 1, 1) := by decide +kernel
theorem dX9_distance_61 : decode cX9_distance 61 = .ok (.goto 4, 3) := by decide +kernel
theorem dX9_distance_64 : decode cX9_distance 64 = .ok (.iconst 0, 1) := by decide +kernel
theorem dX9_distance_65 : decode cX9_distance 65 = .ok (.iconst 2, 1) := by decide +kernel
theorem dX9_distance_66 : decode cX9_distance 66 = .ok (.invokevirtual 65, 3) := by decide +kernel
theorem dX9_distance_69 : decode cX9_distance 69 = .ok (.ifCond .ne 25, 3) := by decide +kernel
theorem dX9_distance_72 : decode cX9_distance 72 = .ok (.aload_n 0, 1) := by decide +kernel
theorem dX9_distance_73 : decode cX9_distance 73 = .ok (.aload_n 0, 1) := by decide +kernel
theorem dX9_distance_74 : decode cX9_distance 74 = .ok (.getfield 192, 3) := by decide +kernel
theorem dX9_distance_77 : decode cX9_distance 77 = .ok (.bipush 12, 2) := by decide +kernel
theorem dX9_distance_79 : decode cX9_distance 79 = .ok (.if_icmp .ne 7, 3) := by decide +kernel
theorem dX9_distance_82 : decode cX9_distance 82 = .ok (.iconst 1, 1) := by decide +kernel
theorem dX9_distance_83 : decode cX9_distance 83 = .ok (.goto 4, 3) := by decide +kernel
theorem dX9_distance_86 : decode cX9_distance 86 = .ok (.iconst 0, 1) := by decide +kernel
theorem dX9_distance_87 : decode cX9_distance 87 = .ok (.iconst 3, 1) := by decide +kernel
theorem dX9_distance_88 : decode cX9_distance 88 = .ok (.invokevirtual 65, 3) := by decide +kernel
theorem dX9_distance_91 : decode cX9_distance 91 = .ok (.ifCond .eq 5, 3) := by decide +kernel
theorem dX9_distance_94 : decode cX9_distance 94 = .ok (.iconst 0, 1) := by decide +kernel
theorem dX9_distance_95 : decode cX9_distance 95 = .ok (.ireturn, 1) := by decide +kernel
theorem dX9_distance_96 : decode cX9_distance 96 = .ok (.aload_n 0, 1) := by decide +kernel
theorem dX9_distance_97 : decode cX9_distance 97 = .ok (.getfield 33, 3) := by decide +kernel
theorem dX9_distance_100 : decode cX9_distance 100 = .ok (.aload_n 0, 1) := by decide +kernel
theorem dX9_distance_101 : decode cX9_distance 101 = .ok (.getfield 192, 3) := by decide +kernel
theorem dX9_distance_104 : decode cX9_distance 104 = .ok (.iload_n 1, 1) := by decide +kernel
theorem dX9_distance_105 : decode cX9_distance 105 = .ok (.iastore, 1) := by decide +kernel
theorem dX9_distance_106 : decode cX9_distance 106 = .ok (.aload_n 0, 1) := by decide +kernel
theorem dX9_distance_107 : decode cX9_distance 107 = .ok (.getfield 36, 3) := by decide +kernel
theorem dX9_distance_110 : decode cX9_distance 110 = .ok (.aload_n 0, 1) := by decide +kernel
theorem dX9_distance_111 : decode cX9_distance 111 = .ok (.getfield 192, 3) := by decide +kernel
theorem dX9_distance_114 : decode cX9_distance 114 = .ok (.iload_n 2, 1) := by decide +kernel
theorem dX9_distance_115 : decode cX9_distance 115 = .ok (.iastore, 1) := by decide +kernel
theorem dX9_distance_116 : decode cX9_distance 116 = .ok (.aload_n 0, 1) := by decide +kernel
theorem dX9_distance_117 : decode cX9_distance 117 = .ok (.getfield 39, 3) := by decide +kernel
theorem dX9_distance_120 : decode cX9_distance 120 = .ok (.aload_n 0, 1) := by decide +kernel
theorem dX9_distance_121 : decode cX9_distance 121 = .ok (.getfield 192, 3) := by decide +kernel
theorem dX9_distance_124 : decode cX9_distance 124 = .ok (.iload_n 3, 1) := by decide +kernel
theorem dX9_distance_125 : decode cX9_distance 125 = .ok (.iastore, 1) := by decide +kernel
theorem dX9_distance_126 : decode cX9_distance 126 = .ok (.aload_n 0, 1) := by decide +kernel
theorem dX9_distance_127 : decode cX9_distance 127 = .ok (.dup, 1) := by decide +kernel
theorem dX9_distance_128 : decode cX9_distance 128 = .ok (.getfield 192, 3) := by decide +kernel
theorem dX9_distance_131 : decode cX9_distance 131 = .ok (.iconst 1, 1) := by decide +kernel
theorem dX9_distance_132 : decode cX9_distance 132 = .ok (.iadd, 1) := by decide +kernel
theorem dX9_distance_133 : decode cX9_distance 133 = .ok (.putfield 192, 3) := by decide +kernel
theorem dX9_distance_136 : decode cX9_distance 136 = .ok (.aload_n 0, 1) := by decide +kernel
theorem dX9_distance_137 : decode cX9_distance 137 = .ok (.iconst 0, 1) := by decide +kernel
theorem dX9_distance_138 : decode cX9_distance 138 = .ok (.putfield 176, 3) := by decide +kernel
theorem dX9_distance_141 : decode cX9_distance 141 = .ok (.aload_n 0, 1) := by decide +kernel
theorem dX9_distance_142 : decode cX9_distance 142 = .ok (.getfield 192, 3) := by decide +kernel
theorem dX9_distance_145 : decode cX9_distance 145 = .ok (.iconst 1, 1) := by decide +kernel
theorem dX9_distance_146 : decode cX9_distance 146 = .ok (.isub, 1) := by decide +kernel
theorem dX9_distance_147 : decode cX9_distance 147 = .ok (.ireturn, 1) := by decide +kernel
theorem dX9_inNet_0 : decode cX9_inNet 0 = .ok (.aload_n 0, 1) := by decide +kernel
theorem dX9_inNet_1 : decode cX9_inNet 1 = .ok (.getfield 27, 3) := by decide +kernel
theorem dX9_inNet_4 : decode cX9_inNet 4 = .ok (.iload_n 1, 1) := by decide +kernel
theorem dX9_inNet_5 : decode cX9_inNet 5 = .ok (.iaload, 1) := by decide +kernel
theorem dX9_inNet_6 : decode cX9_inNet 6 = .ok (.iconst 1, 1) := by decide +kernel
theorem dX9_inNet_7 : decode cX9_inNet 7 = .ok (.if_icmp .lt 19, 3) := by decide +kernel
theorem dX9_inNet_10 : decode cX9_inNet 10 = .ok (.aload_n 0, 1) := by decide +kernel
theorem dX9_inNet_11 : decode cX9_inNet 11 = .ok (.getfield 27, 3) := by decide +kernel
theorem dX9_inNet_14 : decode cX9_inNet 14 = .ok (.iload_n 1, 1) := by decide +kernel
theorem dX9_inNet_15 : decode cX9_inNet 15 = .ok (.iaload, 1) := by decide +kernel
theorem dX9_inNet_16 : decode cX9_inNet 16 = .ok (.sipush 300, 3) := by decide +kernel
theorem dX9_inNet_19 : decode cX9_inNet 19 = .ok (.if_icmp .gt 7, 3) := by decide +kernel
theorem dX9_inNet_22 : decode cX9_inNet 22 = .ok (.iconst 1, 1) := by decide +kernel
theorem dX9_inNet_23 : decode cX9_inNet 23 = .ok (.goto 4, 3) := by decide +kernel
theorem dX9_inNet_26 : decode cX9_inNet 26 = .ok (.iconst 0, 1) := by decide +kernel
theorem dX9_inNet_27 : decode cX9_inNet 27 = .ok (.ireturn, 1) := by decide +kernel
theorem dX9_isAskedWrong_0 : decode cX9_isAskedWrong 0 = .ok (.iload_n 2, 1) := by decide +kernel
theorem dX9_isAskedWrong_1 : decode cX9_isAskedWrong 1 = .ok (.aload_n 0, 1) := by decide +kernel
theorem dX9_isAskedWrong_2 : decode cX9_isAskedWrong 2 = .ok (.getfield 195, 3) := by decide +kernel
theorem dX9_isAskedWrong_5 : decode cX9_isAskedWrong 5 = .ok (.iconst 1, 1) := by decide +kernel
theorem dX9_isAskedWrong_6 : decode cX9_isAskedWrong 6 = .ok (.isub, 1) := by decide +kernel
theorem dX9_isAskedWrong_7 : decode cX9_isAskedWrong 7 = .ok (.iload_n 1, 1) := by decide +kernel
theorem dX9_isAskedWrong_8 : decode cX9_isAskedWrong 8 = .ok (.isub, 1) := by decide +kernel
theorem dX9_isAskedWrong_9 : decode cX9_isAskedWrong 9 = .ok (.ishr, 1) := by decide +kernel
theorem dX9_isAskedWrong_10 : decode cX9_isAskedWrong 10 = .ok (.iconst 1, 1) := by decide +kernel
theorem dX9_isAskedWrong_11 : decode cX9_isAskedWrong 11 = .ok (.iand, 1) := by decide +kernel
theorem dX9_isAskedWrong_12 : decode cX9_isAskedWrong 12 = .ok (.iconst 1, 1) := by decide +kernel
theorem dX9_isAskedWrong_13 : decode cX9_isAskedWrong 13 = .ok (.if_icmp .ne 7, 3) := by decide +kernel
theorem dX9_isAskedWrong_16 : decode cX9_isAskedWrong 16 = .ok (.iconst 1, 1) := by decide +kernel
theorem dX9_isAskedWrong_17 : decode cX9_isAskedWrong 17 = .ok (.goto 4, 3) := by decide +kernel
theorem dX9_isAskedWrong_20 : decode cX9_isAskedWrong 20 = .ok (.iconst 0, 1) := by decide +kernel
theorem dX9_isAskedWrong_21 : decode cX9_isAskedWrong 21 = .ok (.ireturn, 1) := by decide +kernel
set_option maxRecDepth 20000 in
theorem ggX9_joins_X9_isAskedWrong : GoodIn wsX9_joins wsX9_isAskedWrong := goodIn_r _ [13, 4, 14, 15, 16, 17, 18, 19, 20, 21, 22, 23, 24, 25, 26, 27, 28, 29, 30, 31, 32, 33, 34, 35, 36, 37, 38, 39, 40, 41, 42, 43, 44, 45, 46] (by decide +kernel) (by decide +kernel)
set_option maxRecDepth 20000 in
theorem gX9_joins_X9_isAskedWrong : GoodIn wsX9_joins (wsV RX9 198 RX9 yX9_isAskedWrong wsX9_isAskedWrong) := goodIn_app (goodIn_of _ (by decide +kernel)) ggX9_joins_X9_isAskedWrong
theorem dX9_joins_0 : decode cX9_joins 0 = .ok (.iconst 0, 1) := by decide +kernel
theorem dX9_joins_1 : decode cX9_joins 1 = .ok (.istore_n 2, 1) := by decide +kernel
theorem dX9_joins_2 : decode cX9_joins 2 = .ok (.iload_n 2, 1) := by decide +kernel
theorem dX9_joins_3 : decode cX9_joins 3 = .ok (.aload_n 0, 1) := by decide +kernel
theorem dX9_joins_4 : decode cX9_joins 4 = .ok (.getfield 163, 3) := by decide +kernel
theorem dX9_joins_7 : decode cX9_joins 7 = .ok (.if_icmp .ge 23, 3) := by decide +kernel
theorem dX9_joins_10 : decode cX9_joins 10 = .ok (.aload_n 0, 1) := by decide +kernel
theorem dX9_joins_11 : decode cX9_joins 11 = .ok (.getfield 45, 3) := by decide +kernel
theorem dX9_joins_14 : decode cX9_joins 14 = .ok (.iload_n 2, 1) := by decide +kernel
theorem dX9_joins_15 : decode cX9_joins 15 = .ok (.iload_n 2, 1) := by decide +kernel
theorem dX9_joins_16 : decode cX9_joins 16 = .ok (.iastore, 1) := by decide +kernel
theorem dX9_joins_17 : decode cX9_joins 17 = .ok (.aload_n 0, 1) := by decide +kernel
theorem dX9_joins_18 : decode cX9_joins 18 = .ok (.getfield 48, 3) := by decide +kernel
theorem dX9_joins_21 : decode cX9_joins 21 = .ok (.iload_n 2, 1) := by decide +kernel
theorem dX9_joins_22 : decode cX9_joins 22 = .ok (.iconst 0, 1) := by decide +kernel
theorem dX9_joins_23 : decode cX9_joins 23 = .ok (.iastore, 1) := by decide +kernel
theorem dX9_joins_24 : decode cX9_joins 24 = .ok (.iinc 2 1, 3) := by decide +kernel
theorem dX9_joins_27 : decode cX9_joins 27 = .ok (.goto (-25), 3) := by decide +kernel
theorem dX9_joins_30 : decode cX9_joins 30 = .ok (.iconst 0, 1) := by decide +kernel
theorem dX9_joins_31 : decode cX9_joins 31 = .ok (.istore_n 2, 1) := by decide +kernel
theorem dX9_joins_32 : decode cX9_joins 32 = .ok (.iload_n 2, 1) := by decide +kernel
theorem dX9_joins_33 : decode cX9_joins 33 = .ok (.aload_n 0, 1) := by decide +kernel
theorem dX9_joins_34 : decode cX9_joins 34 = .ok (.getfield 195, 3) := by decide +kernel
theorem dX9_joins_37 : decode cX9_joins 37 = .ok (.if_icmp .ge 160, 3) := by decide +kernel
theorem dX9_joins_40 : decode cX9_joins 40 = .ok (.aload_n 0, 1) := by decide +kernel
theorem dX9_joins_41 : decode cX9_joins 41 = .ok (.iload_n 2, 1) := by decide +kernel
theorem dX9_joins_42 : decode cX9_joins 42 = .ok (.iload_n 1, 1) := by decide +kernel
theorem dX9_joins_43 : decode cX9_joins 43 = .ok (.invokevirtual 198, 3) := by decide +kernel
theorem dX9_joins_46 : decode cX9_joins 46 = .ok (.ifCond .eq 6, 3) := by decide +kernel
theorem dX9_joins_49 : decode cX9_joins 49 = .ok (.goto 142, 3) := by decide +kernel
theorem dX9_joins_52 : decode cX9_joins 52 = .ok (.aload_n 0, 1) := by decide +kernel
theorem dX9_joins_53 : decode cX9_joins 53 = .ok (.getfield 42, 3) := by decide +kernel
theorem dX9_joins_56 : decode cX9_joins 56 = .ok (.iload_n 2, 1) := by decide +kernel
theorem dX9_joins_57 : decode cX9_joins 57 = .ok (.iaload, 1) := by decide +kernel
theorem dX9_joins_58 : decode cX9_joins 58 = .ok (.istore_n 3, 1) := by decide +kernel
theorem dX9_joins_59 : decode cX9_joins 59 = .ok (.aload_n 0, 1) := by decide +kernel
theorem dX9_joins_60 : decode cX9_joins 60 = .ok (.getfield 33, 3) := by decide +kernel
theorem dX9_joins_63 : decode cX9_joins 63 = .ok (.iload_n 3, 1) := by decide +kernel
theorem dX9_joins_64 : decode cX9_joins 64 = .ok (.iaload, 1) := by decide +kernel
theorem dX9_joins_65 : decode cX9_joins 65 = .ok (.istore 4, 2) := by decide +kernel
theorem dX9_joins_67 : decode cX9_joins 67 = .ok (.aload_n 0, 1) := by decide +kernel
theorem dX9_joins_68 : decode cX9_joins 68 = .ok (.getfield 36, 3) := by decide +kernel
theorem dX9_joins_71 : decode cX9_joins 71 = .ok (.iload_n 3, 1) := by decide +kernel
theorem dX9_joins_72 : decode cX9_joins 72 = .ok (.iaload, 1) := by decide +kernel
theorem dX9_joins_73 : decode cX9_joins 73 = .ok (.istore 5, 2) := by decide +kernel
theorem dX9_joins_75 : decode cX9_joins 75 = .ok (.aload_n 0, 1) := by decide +kernel
theorem dX9_joins_76 : decode cX9_joins 76 = .ok (.getfield 48, 3) := by decide +kernel
theorem dX9_joins_79 : decode cX9_joins 79 = .ok (.iload 4, 2) := by decide +kernel
theorem dX9_joins_81 : decode cX9_joins 81 = .ok (.iaload, 1) := by decide +kernel
theorem dX9_joins_82 : decode cX9_joins 82 = .ok (.aload_n 0, 1) := by decide +kernel
theorem dX9_joins_83 : decode cX9_joins 83 = .ok (.getfield 39, 3) := by decide +kernel
theorem dX9_joins_86 : decode cX9_joins 86 = .ok (.iload_n 3, 1) := by decide +kernel
theorem dX9_joins_87 : decode cX9_joins 87 = .ok (.iaload, 1) := by decide +kernel
theorem dX9_joins_88 : decode cX9_joins 88 = .ok (.iadd, 1) := by decide +kernel
theorem dX9_joins_89 : decode cX9_joins 89 = .ok (.aload_n 0, 1) := by decide +kernel
theorem dX9_joins_90 : decode cX9_joins 90 = .ok (.getfield 48, 3) := by decide +kernel
theorem dX9_joins_93 : decode cX9_joins 93 = .ok (.iload 5, 2) := by decide +kernel
theorem dX9_joins_95 : decode cX9_joins 95 = .ok (.iaload, 1) := by decide +kernel
theorem dX9_joins_96 : decode cX9_joins 96 = .ok (.isub, 1) := by decide +kernel
theorem dX9_joins_97 : decode cX9_joins 97 = .ok (.istore 6, 2) := by decide +kernel
theorem dX9_joins_99 : decode cX9_joins 99 = .ok (.aload_n 0, 1) := by decide +kernel
theorem dX9_joins_100 : decode cX9_joins 100 = .ok (.getfield 45, 3) := by decide +kernel
theorem dX9_joins_103 : decode cX9_joins 103 = .ok (.iload 4, 2) := by decide +kernel
theorem dX9_joins_105 : decode cX9_joins 105 = .ok (.iaload, 1) := by decide +kernel
theorem dX9_joins_106 : decode cX9_joins 106 = .ok (.aload_n 0, 1) := by decide +kernel
theorem dX9_joins_107 : decode cX9_joins 107 = .ok (.getfield 45, 3) := by decide +kernel
theorem dX9_joins_110 : decode cX9_joins 110 = .ok (.iload 5, 2) := by decide +kernel
theorem dX9_joins_112 : decode cX9_joins 112 = .ok (.iaload, 1) := by decide +kernel
theorem dX9_joins_113 : decode cX9_joins 113 = .ok (.if_icmp .ne 10, 3) := by decide +kernel
theorem dX9_joins_116 : decode cX9_joins 116 = .ok (.iload 6, 2) := by decide +kernel
theorem dX9_joins_118 : decode cX9_joins 118 = .ok (.ifCond .eq 73, 3) := by decide +kernel
theorem dX9_joins_121 : decode cX9_joins 121 = .ok (.iconst 0, 1) := by decide +kernel
theorem dX9_joins_122 : decode cX9_joins 122 = .ok (.ireturn, 1) := by decide +kernel
theorem dX9_joins_123 : decode cX9_joins 123 = .ok (.aload_n 0, 1) := by decide +kernel
theorem dX9_joins_124 : decode cX9_joins 124 = .ok (.getfield 45, 3) := by decide +kernel
theorem dX9_joins_127 : decode cX9_joins 127 = .ok (.iload 5, 2) := by decide +kernel
theorem dX9_joins_129 : decode cX9_joins 129 = .ok (.iaload, 1) := by decide +kernel
theorem dX9_joins_130 : decode cX9_joins 130 = .ok (.istore 7, 2) := by decide +kernel
theorem dX9_joins_132 : decode cX9_joins 132 = .ok (.iconst 0, 1) := by decide +kernel
theorem dX9_joins_133 : decode cX9_joins 133 = .ok (.istore 8, 2) := by decide +kernel
theorem dX9_joins_135 : decode cX9_joins 135 = .ok (.iload 8, 2) := by decide +kernel
theorem dX9_joins_137 : decode cX9_joins 137 = .ok (.aload_n 0, 1) := by decide +kernel
theorem dX9_joins_138 : decode cX9_joins 138 = .ok (.getfield 163, 3) := by decide +kernel
theorem dX9_joins_141 : decode cX9_joins 141 = .ok (.if_icmp .ge 50, 3) := by decide +kernel
theorem dX9_joins_144 : decode cX9_joins 144 = .ok (.aload_n 0, 1) := by decide +kernel
theorem dX9_joins_145 : decode cX9_joins 145 = .ok (.getfield 45, 3) := by decide +kernel
theorem dX9_joins_148 : decode cX9_joins 148 = .ok (.iload 8, 2) := by decide +kernel
theorem dX9_joins_150 : decode cX9_joins 150 = .ok (.iaload, 1) := by decide +kernel
theorem dX9_joins_151 : decode cX9_joins 151 = .ok (.iload 7, 2) := by decide +kernel
theorem dX9_joins_153 : decode cX9_joins 153 = .ok (.if_icmp .eq 6, 3) := by decide +kernel
theorem dX9_joins_156 : decode cX9_joins 156 = .ok (.goto 29, 3) := by decide +kernel
theorem dX9_joins_159 : decode cX9_joins 159 = .ok (.aload_n 0, 1) := by decide +kernel
theorem dX9_joins_160 : decode cX9_joins 160 = .ok (.getfield 45, 3) := by decide +kernel
theorem dX9_joins_163 : decode cX9_joins 163 = .ok (.iload 8, 2) := by decide +kernel
theorem dX9_joins_165 : decode cX9_joins 165 = .ok (.aload_n 0, 1) := by decide +kernel
theorem dX9_joins_166 : decode cX9_joins 166 = .ok (.getfield 45, 3) := by decide +kernel
theorem dX9_joins_169 : decode cX9_joins 169 = .ok (.iload 4, 2) := by decide +kernel
theorem dX9_joins_171 : decode cX9_joins 171 = .ok (.iaload, 1) := by decide +kernel
theorem dX9_joins_172 : decode cX9_joins 172 = .ok (.iastore, 1) := by decide +kernel
theorem dX9_joins_173 : decode cX9_joins 173 = .ok (.aload_n 0, 1) := by decide +kernel
theorem dX9_joins_174 : decode cX9_joins 174 = .ok (.getfield 48, 3) := by decide +kernel
theorem dX9_joins_177 : decode cX9_joins 177 = .ok (.iload 8, 2) := by decide +kernel
theorem dX9_joins_179 : decode cX9_joins 179 = .ok (.dup2, 1) := by decide +kernel
theorem dX9_joins_180 : decode cX9_joins 180 = .ok (.iaload, 1) := by decide +kernel
theorem dX9_joins_181 : decode cX9_joins 181 = .ok (.iload 6, 2) := by decide +kernel
theorem dX9_joins_183 : decode cX9_joins 183 = .ok (.iadd, 1) := by decide +kernel
theorem dX9_joins_184 : decode cX9_joins 184 = .ok (.iastore, 1) := by decide +kernel
theorem dX9_joins_185 : decode cX9_joins 185 = .ok (.iinc 8 1, 3) := by decide +kernel
theorem dX9_joins_188 : decode cX9_joins 188 = .ok (.goto (-53), 3) := by decide +kernel
theorem dX9_joins_191 : decode cX9_joins 191 = .ok (.iinc 2 1, 3) := by decide +kernel
theorem dX9_joins_194 : decode cX9_joins 194 = .ok (.goto (-162), 3) := by decide +kernel
theorem dX9_joins_197 : decode cX9_joins 197 = .ok (.iconst 1, 1) := by decide +kernel
theorem dX9_joins_198 : decode cX9_joins 198 = .ok (.ireturn, 1) := by decide +kernel
theorem dX9_hasDay_0 : decode cX9_hasDay 0 = .ok (.iconst 0, 1) := by decide +kernel
theorem dX9_hasDay_1 : decode cX9_hasDay 1 = .ok (.istore_n 3, 1) := by decide +kernel
theorem dX9_hasDay_2 : decode cX9_hasDay 2 = .ok (.aload_n 0, 1) := by decide +kernel
theorem dX9_hasDay_3 : decode cX9_hasDay 3 = .ok (.getfield 27, 3) := by decide +kernel
theorem dX9_hasDay_6 : decode cX9_hasDay 6 = .ok (.iload_n 1, 1) := by decide +kernel
theorem dX9_hasDay_7 : decode cX9_hasDay 7 = .ok (.iaload, 1) := by decide +kernel
theorem dX9_hasDay_8 : decode cX9_hasDay 8 = .ok (.iconst 1, 1) := by decide +kernel
theorem dX9_hasDay_9 : decode cX9_hasDay 9 = .ok (.isub, 1) := by decide +kernel
theorem dX9_hasDay_10 : decode cX9_hasDay 10 = .ok (.istore 4, 2) := by decide +kernel
theorem dX9_hasDay_12 : decode cX9_hasDay 12 = .ok (.iload_n 3, 1) := by decide +kernel
theorem dX9_hasDay_13 : decode cX9_hasDay 13 = .ok (.iload 4, 2) := by decide +kernel
theorem dX9_hasDay_15 : decode cX9_hasDay 15 = .ok (.if_icmp .ge 43, 3) := by decide +kernel
theorem dX9_hasDay_18 : decode cX9_hasDay 18 = .ok (.iload_n 3, 1) := by decide +kernel
theorem dX9_hasDay_19 : decode cX9_hasDay 19 = .ok (.iload 4, 2) := by decide +kernel
theorem dX9_hasDay_21 : decode cX9_hasDay 21 = .ok (.iadd, 1) := by decide +kernel
theorem dX9_hasDay_22 : decode cX9_hasDay 22 = .ok (.iconst 2, 1) := by decide +kernel
theorem dX9_hasDay_23 : decode cX9_hasDay 23 = .ok (.idiv, 1) := by decide +kernel
theorem dX9_hasDay_24 : decode cX9_hasDay 24 = .ok (.istore 5, 2) := by decide +kernel
theorem dX9_hasDay_26 : decode cX9_hasDay 26 = .ok (.aload_n 0, 1) := by decide +kernel
theorem dX9_hasDay_27 : decode cX9_hasDay 27 = .ok (.getfield 30, 3) := by decide +kernel
theorem dX9_hasDay_30 : decode cX9_hasDay 30 = .ok (.sipush 300, 3) := by decide +kernel
theorem dX9_hasDay_33 : decode cX9_hasDay 33 = .ok (.iload_n 1, 1) := by decide +kernel
theorem dX9_hasDay_34 : decode cX9_hasDay 34 = .ok (.imul, 1) := by decide +kernel
theorem dX9_hasDay_35 : decode cX9_hasDay 35 = .ok (.iload 5, 2) := by decide +kernel
theorem dX9_hasDay_37 : decode cX9_hasDay 37 = .ok (.iadd, 1) := by decide +kernel
theorem dX9_hasDay_38 : decode cX9_hasDay 38 = .ok (.iaload, 1) := by decide +kernel
theorem dX9_hasDay_39 : decode cX9_hasDay 39 = .ok (.iload_n 2, 1) := by decide +kernel
theorem dX9_hasDay_40 : decode cX9_hasDay 40 = .ok (.if_icmp .ge 11, 3) := by decide +kernel
theorem dX9_hasDay_43 : decode cX9_hasDay 43 = .ok (.iload 5, 2) := by decide +kernel
theorem dX9_hasDay_45 : decode cX9_hasDay 45 = .ok (.iconst 1, 1) := by decide +kernel
theorem dX9_hasDay_46 : decode cX9_hasDay 46 = .ok (.iadd, 1) := by decide +kernel
theorem dX9_hasDay_47 : decode cX9_hasDay 47 = .ok (.istore_n 3, 1) := by decide +kernel
theorem dX9_hasDay_48 : decode cX9_hasDay 48 = .ok (.goto 7, 3) := by decide +kernel
theorem dX9_hasDay_51 : decode cX9_hasDay 51 = .ok (.iload 5, 2) := by decide +kernel
theorem dX9_hasDay_53 : decode cX9_hasDay 53 = .ok (.istore 4, 2) := by decide +kernel
theorem dX9_hasDay_55 : decode cX9_hasDay 55 = .ok (.goto (-43), 3) := by decide +kernel
theorem dX9_hasDay_58 : decode cX9_hasDay 58 = .ok (.aload_n 0, 1) := by decide +kernel
theorem dX9_hasDay_59 : decode cX9_hasDay 59 = .ok (.getfield 30, 3) := by decide +kernel
theorem dX9_hasDay_62 : decode cX9_hasDay 62 = .ok (.sipush 300, 3) := by decide +kernel
theorem dX9_hasDay_65 : decode cX9_hasDay 65 = .ok (.iload_n 1, 1) := by decide +kernel
theorem dX9_hasDay_66 : decode cX9_hasDay 66 = .ok (.imul, 1) := by decide +kernel
theorem dX9_hasDay_67 : decode cX9_hasDay 67 = .ok (.iload_n 3, 1) := by decide +kernel
theorem dX9_hasDay_68 : decode cX9_hasDay 68 = .ok (.iadd, 1) := by decide +kernel
theorem dX9_hasDay_69 : decode cX9_hasDay 69 = .ok (.iaload, 1) := by decide +kernel
theorem dX9_hasDay_70 : decode cX9_hasDay 70 = .ok (.iload_n 2, 1) := by decide +kernel
theorem dX9_hasDay_71 : decode cX9_hasDay 71 = .ok (.if_icmp .ne 7, 3) := by decide +kernel
theorem dX9_hasDay_74 : decode cX9_hasDay 74 = .ok (.iconst 1, 1) := by decide +kernel
theorem dX9_hasDay_75 : decode cX9_hasDay 75 = .ok (.goto 4, 3) := by decide +kernel
theorem dX9_hasDay_78 : decode cX9_hasDay 78 = .ok (.iconst 0, 1) := by decide +kernel
theorem dX9_hasDay_79 : decode cX9_hasDay 79 = .ok (.ireturn, 1) := by decide +kernel
set_option maxRecDepth 20000 in
theorem ggX9_isGood_X9_inNet : GoodIn wsX9_isGood wsX9_inNet := goodIn_r _ [8, 9, 15, 16, 17, 18, 19, 20, 21, 22, 23, 24, 25, 26, 27, 28, 29, 30, 31, 32, 33, 34, 35, 36, 37, 38, 39, 40, 41, 42, 43, 44, 45, 46, 47] (by decide +kernel) (by decide +kernel)
set_option maxRecDepth 20000 in
theorem gX9_isGood_X9_inNet : GoodIn wsX9_isGood (wsV RX9 201 RX9 yX9_inNet wsX9_inNet) := goodIn_app (goodIn_of _ (by decide +kernel)) ggX9_isGood_X9_inNet
set_option maxRecDepth 20000 in
theorem ggX9_isGood_X9_hasDay : GoodIn wsX9_isGood wsX9_hasDay := goodIn_r _ [13, 9, 14, 15, 16, 17, 18, 19, 20, 21, 22, 23, 24, 25, 26, 27, 28, 29, 30, 31, 32, 33, 34, 35, 36, 37, 38, 39, 40, 41, 42, 43, 44, 45, 46, 47] (by decide +kernel) (by decide +kernel)
set_option maxRecDepth 20000 in
theorem gX9_isGood_X9_hasDay : GoodIn wsX9_isGood (wsV RX9 204 RX9 yX9_hasDay wsX9_hasDay) := goodIn_app (goodIn_of _ (by decide +kernel)) ggX9_isGood_X9_hasDay
theorem dX9_isGood_0 : decode cX9_isGood 0 = .ok (.iconst 0, 1) := by decide +kernel
theorem dX9_isGood_1 : decode cX9_isGood 1 = .ok (.istore_n 3, 1) := by decide +kernel
theorem dX9_isGood_2 : decode cX9_isGood 2 = .ok (.iload_n 3, 1) := by decide +kernel
theorem dX9_isGood_3 : decode cX9_isGood 3 = .ok (.aload_n 0, 1) := by decide +kernel
theorem dX9_isGood_4 : decode cX9_isGood 4 = .ok (.getfield 163, 3) := by decide +kernel
theorem dX9_isGood_7 : decode cX9_isGood 7 = .ok (.if_icmp .ge 57, 3) := by decide +kernel
theorem dX9_isGood_10 : decode cX9_isGood 10 = .ok (.aload_n 0, 1) := by decide +kernel
theorem dX9_isGood_11 : decode cX9_isGood 11 = .ok (.getfield 45, 3) := by decide +kernel
theorem dX9_isGood_14 : decode cX9_isGood 14 = .ok (.iload_n 3, 1) := by decide +kernel
theorem dX9_isGood_15 : decode cX9_isGood 15 = .ok (.iaload, 1) := by decide +kernel
theorem dX9_isGood_16 : decode cX9_isGood 16 = .ok (.aload_n 0, 1) := by decide +kernel
theorem dX9_isGood_17 : decode cX9_isGood 17 = .ok (.getfield 45, 3) := by decide +kernel
theorem dX9_isGood_20 : decode cX9_isGood 20 = .ok (.iload_n 1, 1) := by decide +kernel
theorem dX9_isGood_21 : decode cX9_isGood 21 = .ok (.iaload, 1) := by decide +kernel
theorem dX9_isGood_22 : decode cX9_isGood 22 = .ok (.if_icmp .ne 36, 3) := by decide +kernel
theorem dX9_isGood_25 : decode cX9_isGood 25 = .ok (.aload_n 0, 1) := by decide +kernel
theorem dX9_isGood_26 : decode cX9_isGood 26 = .ok (.iload_n 3, 1) := by decide +kernel
theorem dX9_isGood_27 : decode cX9_isGood 27 = .ok (.invokevirtual 201, 3) := by decide +kernel
theorem dX9_isGood_30 : decode cX9_isGood 30 = .ok (.ifCond .eq 28, 3) := by decide +kernel
theorem dX9_isGood_33 : decode cX9_isGood 33 = .ok (.aload_n 0, 1) := by decide +kernel
theorem dX9_isGood_34 : decode cX9_isGood 34 = .ok (.iload_n 3, 1) := by decide +kernel
theorem dX9_isGood_35 : decode cX9_isGood 35 = .ok (.iload_n 2, 1) := by decide +kernel
theorem dX9_isGood_36 : decode cX9_isGood 36 = .ok (.aload_n 0, 1) := by decide +kernel
theorem dX9_isGood_37 : decode cX9_isGood 37 = .ok (.getfield 48, 3) := by decide +kernel
theorem dX9_isGood_40 : decode cX9_isGood 40 = .ok (.iload_n 1, 1) := by decide +kernel
theorem dX9_isGood_41 : decode cX9_isGood 41 = .ok (.iaload, 1) := by decide +kernel
theorem dX9_isGood_42 : decode cX9_isGood 42 = .ok (.isub, 1) := by decide +kernel
theorem dX9_isGood_43 : decode cX9_isGood 43 = .ok (.aload_n 0, 1) := by decide +kernel
theorem dX9_isGood_44 : decode cX9_isGood 44 = .ok (.getfield 48, 3) := by decide +kernel
theorem dX9_isGood_47 : decode cX9_isGood 47 = .ok (.iload_n 3, 1) := by decide +kernel
theorem dX9_isGood_48 : decode cX9_isGood 48 = .ok (.iaload, 1) := by decide +kernel
theorem dX9_isGood_49 : decode cX9_isGood 49 = .ok (.iadd, 1) := by decide +kernel
theorem dX9_isGood_50 : decode cX9_isGood 50 = .ok (.invokevirtual 204, 3) := by decide +kernel
theorem dX9_isGood_53 : decode cX9_isGood 53 = .ok (.ifCond .ne 5, 3) := by decide +kernel
theorem dX9_isGood_56 : decode cX9_isGood 56 = .ok (.iconst 0, 1) := by decide +kernel
theorem dX9_isGood_57 : decode cX9_isGood 57 = .ok (.ireturn, 1) := by decide +kernel
theorem dX9_isGood_58 : decode cX9_isGood 58 = .ok (.iinc 3 1, 3) := by decide +kernel
theorem dX9_isGood_61 : decode cX9_isGood 61 = .ok (.goto (-59), 3) := by decide +kernel
theorem dX9_isGood_64 : decode cX9_isGood 64 = .ok (.iconst 1, 1) := by decide +kernel
theorem dX9_isGood_65 : decode cX9_isGood 65 = .ok (.ireturn, 1) := by decide +kernel
set_option maxRecDepth 20000 in
theorem ggX9_canBe_X9_joins : GoodIn wsX9_canBe wsX9_joins := goodIn_r _ [8, 1, 9, 10, 11, 12, 13, 14, 15, 16, 17, 18, 7, 19, 32, 33, 34, 35, 36, 37, 38, 39, 40, 41, 42, 43, 44, 45, 46, 47, 48, 49, 50, 51, 52, 53, 54, 55, 56, 57, 58, 59, 60, 61, 62, 63, 64] (by decide +kernel) (by decide +kernel)
set_option maxRecDepth 20000 in
theorem gX9_canBe_X9_joins : GoodIn wsX9_canBe (wsV RX9 207 RX9 yX9_joins wsX9_joins) := goodIn_app (goodIn_of _ (by decide +kernel)) ggX9_canBe_X9_joins
set_option maxRecDepth 20000 in
theorem ggX9_canBe_X9_inNet : GoodIn wsX9_canBe wsX9_inNet := goodIn_r _ [23, 2, 32, 33, 34, 35, 36, 37, 38, 39, 40, 41, 42, 43, 44, 45, 46, 47, 48, 49, 50, 51, 52, 53, 54, 55, 56, 57, 58, 59, 60, 61, 62, 63, 64] (by decide +kernel) (by decide +kernel)
set_option maxRecDepth 20000 in
theorem gX9_canBe_X9_inNet : GoodIn wsX9_canBe (wsV RX9 201 RX9 yX9_inNet wsX9_inNet) := goodIn_app (goodIn_of _ (by decide +kernel)) ggX9_canBe_X9_inNet
set_option maxRecDepth 20000 in
theorem ggX9_canBe_X9_isGood : GoodIn wsX9_canBe wsX9_isGood := goodIn_r _ [27, 1, 9, 10, 20, 21, 22, 7, 23, 2, 28, 29, 30, 31, 3, 32, 33, 34, 35, 36, 37, 38, 39, 40, 41, 42, 43, 44, 45, 46, 47, 48, 49, 50, 51, 52, 53, 54, 55, 56, 57, 58, 59, 60, 61, 62, 63, 64] (by decide +kernel) (by decide +kernel)
set_option maxRecDepth 20000 in
theorem gX9_canBe_X9_isGood : GoodIn wsX9_canBe (wsV RX9 210 RX9 yX9_isGood wsX9_isGood) := goodIn_app (goodIn_of _ (by decide +kernel)) ggX9_canBe_X9_isGood
theorem dX9_canBe_0 : decode cX9_canBe 0 = .ok (.aload_n 0, 1) := by decide +kernel
theorem dX9_canBe_1 : decode cX9_canBe 1 = .ok (.iload_n 1, 1) := by decide +kernel
theorem dX9_canBe_2 : decode cX9_canBe 2 = .ok (.invokevirtual 207, 3) := by decide +kernel
theorem dX9_canBe_5 : decode cX9_canBe 5 = .ok (.ifCond .ne 5, 3) := by decide +kernel
theorem dX9_canBe_8 : decode cX9_canBe 8 = .ok (.iconst 0, 1) := by decide +kernel
theorem dX9_canBe_9 : decode cX9_canBe 9 = .ok (.ireturn, 1) := by decide +kernel
theorem dX9_canBe_10 : decode cX9_canBe 10 = .ok (.iconst 0, 1) := by decide +kernel
theorem dX9_canBe_11 : decode cX9_canBe 11 = .ok (.istore_n 2, 1) := by decide +kernel
theorem dX9_canBe_12 : decode cX9_canBe 12 = .ok (.iload_n 2, 1) := by decide +kernel
theorem dX9_canBe_13 : decode cX9_canBe 13 = .ok (.aload_n 0, 1) := by decide +kernel
theorem dX9_canBe_14 : decode cX9_canBe 14 = .ok (.getfield 163, 3) := by decide +kernel
theorem dX9_canBe_17 : decode cX9_canBe 17 = .ok (.if_icmp .ge 71, 3) := by decide +kernel
theorem dX9_canBe_20 : decode cX9_canBe 20 = .ok (.aload_n 0, 1) := by decide +kernel
theorem dX9_canBe_21 : decode cX9_canBe 21 = .ok (.iload_n 2, 1) := by decide +kernel
theorem dX9_canBe_22 : decode cX9_canBe 22 = .ok (.invokevirtual 201, 3) := by decide +kernel
theorem dX9_canBe_25 : decode cX9_canBe 25 = .ok (.ifCond .ne 6, 3) := by decide +kernel
theorem dX9_canBe_28 : decode cX9_canBe 28 = .ok (.goto 54, 3) := by decide +kernel
theorem dX9_canBe_31 : decode cX9_canBe 31 = .ok (.iconst 0, 1) := by decide +kernel
theorem dX9_canBe_32 : decode cX9_canBe 32 = .ok (.istore_n 3, 1) := by decide +kernel
theorem dX9_canBe_33 : decode cX9_canBe 33 = .ok (.iconst 0, 1) := by decide +kernel
theorem dX9_canBe_34 : decode cX9_canBe 34 = .ok (.istore 4, 2) := by decide +kernel
theorem dX9_canBe_36 : decode cX9_canBe 36 = .ok (.iload 4, 2) := by decide +kernel
theorem dX9_canBe_38 : decode cX9_canBe 38 = .ok (.aload_n 0, 1) := by decide +kernel
theorem dX9_canBe_39 : decode cX9_canBe 39 = .ok (.getfield 27, 3) := by decide +kernel
theorem dX9_canBe_42 : decode cX9_canBe 42 = .ok (.iload_n 2, 1) := by decide +kernel
theorem dX9_canBe_43 : decode cX9_canBe 43 = .ok (.iaload, 1) := by decide +kernel
theorem dX9_canBe_44 : decode cX9_canBe 44 = .ok (.if_icmp .ge 32, 3) := by decide +kernel
theorem dX9_canBe_47 : decode cX9_canBe 47 = .ok (.iload_n 3, 1) := by decide +kernel
theorem dX9_canBe_48 : decode cX9_canBe 48 = .ok (.ifCond .ne 28, 3) := by decide +kernel
theorem dX9_canBe_51 : decode cX9_canBe 51 = .ok (.aload_n 0, 1) := by decide +kernel
theorem dX9_canBe_52 : decode cX9_canBe 52 = .ok (.iload_n 2, 1) := by decide +kernel
theorem dX9_canBe_53 : decode cX9_canBe 53 = .ok (.aload_n 0, 1) := by decide +kernel
theorem dX9_canBe_54 : decode cX9_canBe 54 = .ok (.getfield 30, 3) := by decide +kernel
theorem dX9_canBe_57 : decode cX9_canBe 57 = .ok (.sipush 300, 3) := by decide +kernel
theorem dX9_canBe_60 : decode cX9_canBe 60 = .ok (.iload_n 2, 1) := by decide +kernel
theorem dX9_canBe_61 : decode cX9_canBe 61 = .ok (.imul, 1) := by decide +kernel
theorem dX9_canBe_62 : decode cX9_canBe 62 = .ok (.iload 4, 2) := by decide +kernel
theorem dX9_canBe_64 : decode cX9_canBe 64 = .ok (.iadd, 1) := by decide +kernel
theorem dX9_canBe_65 : decode cX9_canBe 65 = .ok (.iaload, 1) := by decide +kernel
theorem dX9_canBe_66 : decode cX9_canBe 66 = .ok (.invokevirtual 210, 3) := by decide +kernel
theorem dX9_canBe_69 : decode cX9_canBe 69 = .ok (.istore_n 3, 1) := by decide +kernel
theorem dX9_canBe_70 : decode cX9_canBe 70 = .ok (.iinc 4 1, 3) := by decide +kernel
theorem dX9_canBe_73 : decode cX9_canBe 73 = .ok (.goto (-37), 3) := by decide +kernel
theorem dX9_canBe_76 : decode cX9_canBe 76 = .ok (.iload_n 3, 1) := by decide +kernel
theorem dX9_canBe_77 : decode cX9_canBe 77 = .ok (.ifCond .ne 5, 3) := by decide +kernel
theorem dX9_canBe_80 : decode cX9_canBe 80 = .ok (.iconst 0, 1) := by decide +kernel
theorem dX9_canBe_81 : decode cX9_canBe 81 = .ok (.ireturn, 1) := by decide +kernel
theorem dX9_canBe_82 : decode cX9_canBe 82 = .ok (.iinc 2 1, 3) := by decide +kernel
theorem dX9_canBe_85 : decode cX9_canBe 85 = .ok (.goto (-73), 3) := by decide +kernel
theorem dX9_canBe_88 : decode cX9_canBe 88 = .ok (.iconst 1, 1) := by decide +kernel
theorem dX9_canBe_89 : decode cX9_canBe 89 = .ok (.ireturn, 1) := by decide +kernel
theorem dX9_bits_0 : decode cX9_bits 0 = .ok (.iconst 0, 1) := by decide +kernel
theorem dX9_bits_1 : decode cX9_bits 1 = .ok (.istore_n 1, 1) := by decide +kernel
theorem dX9_bits_2 : decode cX9_bits 2 = .ok (.iconst 0, 1) := by decide +kernel
theorem dX9_bits_3 : decode cX9_bits 3 = .ok (.istore_n 2, 1) := by decide +kernel
theorem dX9_bits_4 : decode cX9_bits 4 = .ok (.iload_n 2, 1) := by decide +kernel
theorem dX9_bits_5 : decode cX9_bits 5 = .ok (.bipush 12, 2) := by decide +kernel
theorem dX9_bits_7 : decode cX9_bits 7 = .ok (.if_icmp .ge 17, 3) := by decide +kernel
theorem dX9_bits_10 : decode cX9_bits 10 = .ok (.iload_n 1, 1) := by decide +kernel
theorem dX9_bits_11 : decode cX9_bits 11 = .ok (.iload_n 0, 1) := by decide +kernel
theorem dX9_bits_12 : decode cX9_bits 12 = .ok (.iload_n 2, 1) := by decide +kernel
theorem dX9_bits_13 : decode cX9_bits 13 = .ok (.ishr, 1) := by decide +kernel
theorem dX9_bits_14 : decode cX9_bits 14 = .ok (.iconst 1, 1) := by decide +kernel
theorem dX9_bits_15 : decode cX9_bits 15 = .ok (.iand, 1) := by decide +kernel
theorem dX9_bits_16 : decode cX9_bits 16 = .ok (.iadd, 1) := by decide +kernel
theorem dX9_bits_17 : decode cX9_bits 17 = .ok (.istore_n 1, 1) := by decide +kernel
theorem dX9_bits_18 : decode cX9_bits 18 = .ok (.iinc 2 1, 3) := by decide +kernel
theorem dX9_bits_21 : decode cX9_bits 21 = .ok (.goto (-17), 3) := by decide +kernel
theorem dX9_bits_24 : decode cX9_bits 24 = .ok (.iload_n 1, 1) := by decide +kernel
theorem dX9_bits_25 : decode cX9_bits 25 = .ok (.ireturn, 1) := by decide +kernel
set_option maxRecDepth 20000 in
theorem ggX9_solves_X9_inNet : GoodIn wsX9_solves wsX9_inNet := goodIn_r _ [16, 10, 43, 44, 45, 46, 47, 48, 49, 50, 51, 52, 53, 54, 55, 56, 57, 58, 59, 60, 61, 62, 63, 64, 65, 66, 67, 68, 69, 70, 71, 72, 73, 74, 75] (by decide +kernel) (by decide +kernel)
set_option maxRecDepth 20000 in
theorem gX9_solves_X9_inNet : GoodIn wsX9_solves (wsV RX9 201 RX9 yX9_inNet wsX9_inNet) := goodIn_app (goodIn_of _ (by decide +kernel)) ggX9_solves_X9_inNet
set_option maxRecDepth 20000 in
theorem ggX9_solves_X9_bits : GoodIn wsX9_solves wsX9_bits := goodIn_r _ [19] (by decide +kernel) (by decide +kernel)
set_option maxRecDepth 20000 in
theorem gX9_solves_X9_bits : GoodIn wsX9_solves (va_wsS RX9 216 yX9_bits wsX9_bits) := goodIn_app (goodIn_of _ (by decide +kernel)) ggX9_solves_X9_bits
set_option maxRecDepth 20000 in
theorem ggX9_solves_X9_canBe : GoodIn wsX9_solves wsX9_canBe := goodIn_r _ [23, 8, 10, 11, 24, 25, 26, 15, 27, 28, 29, 2, 6, 4, 5, 30, 31, 32, 33, 34, 12, 13, 14, 16, 35, 36, 37, 38, 39, 40, 41, 42, 43, 44, 45, 46, 47, 48, 49, 50, 51, 52, 53, 54, 55, 56, 57, 58, 59, 60, 61, 62, 63, 64, 65, 66, 67, 68, 69, 70, 71, 72, 73, 74, 75] (by decide +kernel) (by decide +kernel)
set_option maxRecDepth 20000 in
theorem gX9_solves_X9_canBe : GoodIn wsX9_solves (wsV RX9 219 RX9 yX9_canBe wsX9_canBe) := goodIn_app (goodIn_of _ (by decide +kernel)) ggX9_solves_X9_canBe
set_option maxRecDepth 20000 in
theorem ggX9_solves_X9_joins : GoodIn wsX9_solves wsX9_joins := goodIn_r _ [27, 8, 28, 29, 2, 6, 4, 5, 30, 31, 32, 33, 15, 34, 43, 44, 45, 46, 47, 48, 49, 50, 51, 52, 53, 54, 55, 56, 57, 58, 59, 60, 61, 62, 63, 64, 65, 66, 67, 68, 69, 70, 71, 72, 73, 74, 75] (by decide +kernel) (by decide +kernel)
set_option maxRecDepth 20000 in
theorem gX9_solves_X9_joins : GoodIn wsX9_solves (wsV RX9 207 RX9 yX9_joins wsX9_joins) := goodIn_app (goodIn_of _ (by decide +kernel)) ggX9_solves_X9_joins
set_option maxRecDepth 20000 in
theorem ggX9_solves_X9_isGood : GoodIn wsX9_solves wsX9_isGood := goodIn_r _ [38, 8, 28, 29, 12, 13, 14, 15, 16, 10, 39, 40, 41, 42, 11, 43, 44, 45, 46, 47, 48, 49, 50, 51, 52, 53, 54, 55, 56, 57, 58, 59, 60, 61, 62, 63, 64, 65, 66, 67, 68, 69, 70, 71, 72, 73, 74, 75] (by decide +kernel) (by decide +kernel)
set_option maxRecDepth 20000 in
theorem gX9_solves_X9_isGood : GoodIn wsX9_solves (wsV RX9 210 RX9 yX9_isGood wsX9_isGood) := goodIn_app (goodIn_of _ (by decide +kernel)) ggX9_solves_X9_isGood
theorem dX9_solves_0 : decode cX9_solves 0 = .ok (.aload_n 0, 1) := by decide +kernel
theorem dX9_solves_1 : decode cX9_solves 1 = .ok (.getfield 176, 3) := by decide +kernel
theorem dX9_solves_4 : decode cX9_solves 4 = .ok (.ifCond .eq 4, 3) := by decide +kernel
theorem dX9_solves_7 : decode cX9_solves 7 = .ok (.return_, 1) := by decide +kernel
theorem dX9_solves_8 : decode cX9_solves 8 = .ok (.aload_n 0, 1) := by decide +kernel
theorem dX9_solves_9 : decode cX9_solves 9 = .ok (.iconst 1, 1) := by decide +kernel
theorem dX9_solves_10 : decode cX9_solves 10 = .ok (.putfield 176, 3) := by decide +kernel
theorem dX9_solves_13 : decode cX9_solves 13 = .ok (.aload_n 0, 1) := by decide +kernel
theorem dX9_solves_14 : decode cX9_solves 14 = .ok (.iconst 0, 1) := by decide +kernel
theorem dX9_solves_15 : decode cX9_solves 15 = .ok (.putfield 195, 3) := by decide +kernel
theorem dX9_solves_18 : decode cX9_solves 18 = .ok (.iconst 0, 1) := by decide +kernel
theorem dX9_solves_19 : decode cX9_solves 19 = .ok (.istore_n 1, 1) := by decide +kernel
theorem dX9_solves_20 : decode cX9_solves 20 = .ok (.iload_n 1, 1) := by decide +kernel
theorem dX9_solves_21 : decode cX9_solves 21 = .ok (.aload_n 0, 1) := by decide +kernel
theorem dX9_solves_22 : decode cX9_solves 22 = .ok (.getfield 192, 3) := by decide +kernel
theorem dX9_solves_25 : decode cX9_solves 25 = .ok (.if_icmp .ge 58, 3) := by decide +kernel
theorem dX9_solves_28 : decode cX9_solves 28 = .ok (.aload_n 0, 1) := by decide +kernel
theorem dX9_solves_29 : decode cX9_solves 29 = .ok (.aload_n 0, 1) := by decide +kernel
theorem dX9_solves_30 : decode cX9_solves 30 = .ok (.getfield 33, 3) := by decide +kernel
theorem dX9_solves_33 : decode cX9_solves 33 = .ok (.iload_n 1, 1) := by decide +kernel
theorem dX9_solves_34 : decode cX9_solves 34 = .ok (.iaload, 1) := by decide +kernel
theorem dX9_solves_35 : decode cX9_solves 35 = .ok (.invokevirtual 201, 3) := by decide +kernel
theorem dX9_solves_38 : decode cX9_solves 38 = .ok (.ifCond .eq 39, 3) := by decide +kernel
theorem dX9_solves_41 : decode cX9_solves 41 = .ok (.aload_n 0, 1) := by decide +kernel
theorem dX9_solves_42 : decode cX9_solves 42 = .ok (.aload_n 0, 1) := by decide +kernel
theorem dX9_solves_43 : decode cX9_solves 43 = .ok (.getfield 36, 3) := by decide +kernel
theorem dX9_solves_46 : decode cX9_solves 46 = .ok (.iload_n 1, 1) := by decide +kernel
theorem dX9_solves_47 : decode cX9_solves 47 = .ok (.iaload, 1) := by decide +kernel
theorem dX9_solves_48 : decode cX9_solves 48 = .ok (.invokevirtual 201, 3) := by decide +kernel
theorem dX9_solves_51 : decode cX9_solves 51 = .ok (.ifCond .ne 6, 3) := by decide +kernel
theorem dX9_solves_54 : decode cX9_solves 54 = .ok (.goto 23, 3) := by decide +kernel
theorem dX9_solves_57 : decode cX9_solves 57 = .ok (.aload_n 0, 1) := by decide +kernel
theorem dX9_solves_58 : decode cX9_solves 58 = .ok (.getfield 42, 3) := by decide +kernel
theorem dX9_solves_61 : decode cX9_solves 61 = .ok (.aload_n 0, 1) := by decide +kernel
theorem dX9_solves_62 : decode cX9_solves 62 = .ok (.getfield 195, 3) := by decide +kernel
theorem dX9_solves_65 : decode cX9_solves 65 = .ok (.iload_n 1, 1) := by decide +kernel
theorem dX9_solves_66 : decode cX9_solves 66 = .ok (.iastore, 1) := by decide +kernel
theorem dX9_solves_67 : decode cX9_solves 67 = .ok (.aload_n 0, 1) := by decide +kernel
theorem dX9_solves_68 : decode cX9_solves 68 = .ok (.dup, 1) := by decide +kernel
theorem dX9_solves_69 : decode cX9_solves 69 = .ok (.getfield 195, 3) := by decide +kernel
theorem dX9_solves_72 : decode cX9_solves 72 = .ok (.iconst 1, 1) := by decide +kernel
theorem dX9_solves_73 : decode cX9_solves 73 = .ok (.iadd, 1) := by decide +kernel
theorem dX9_solves_74 : decode cX9_solves 74 = .ok (.putfield 195, 3) := by decide +kernel
theorem dX9_solves_77 : decode cX9_solves 77 = .ok (.iinc 1 1, 3) := by decide +kernel
theorem dX9_solves_80 : decode cX9_solves 80 = .ok (.goto (-60), 3) := by decide +kernel
theorem dX9_solves_83 : decode cX9_solves 83 = .ok (.aload_n 0, 1) := by decide +kernel
theorem dX9_solves_84 : decode cX9_solves 84 = .ok (.iconst (-1), 1) := by decide +kernel
theorem dX9_solves_85 : decode cX9_solves 85 = .ok (.putfield 213, 3) := by decide +kernel
theorem dX9_solves_88 : decode cX9_solves 88 = .ok (.iconst 0, 1) := by decide +kernel
theorem dX9_solves_89 : decode cX9_solves 89 = .ok (.istore_n 1, 1) := by decide +kernel
theorem dX9_solves_90 : decode cX9_solves 90 = .ok (.iload_n 1, 1) := by decide +kernel
theorem dX9_solves_91 : decode cX9_solves 91 = .ok (.aload_n 0, 1) := by decide +kernel
theorem dX9_solves_92 : decode cX9_solves 92 = .ok (.getfield 195, 3) := by decide +kernel
theorem dX9_solves_95 : decode cX9_solves 95 = .ok (.if_icmp .gt 62, 3) := by decide +kernel
theorem dX9_solves_98 : decode cX9_solves 98 = .ok (.aload_n 0, 1) := by decide +kernel
theorem dX9_solves_99 : decode cX9_solves 99 = .ok (.getfield 213, 3) := by decide +kernel
theorem dX9_solves_102 : decode cX9_solves 102 = .ok (.ifCond .ge 55, 3) := by decide +kernel
theorem dX9_solves_105 : decode cX9_solves 105 = .ok (.iconst 0, 1) := by decide +kernel
theorem dX9_solves_106 : decode cX9_solves 106 = .ok (.istore_n 2, 1) := by decide +kernel
theorem dX9_solves_107 : decode cX9_solves 107 = .ok (.iload_n 2, 1) := by decide +kernel
theorem dX9_solves_108 : decode cX9_solves 108 = .ok (.iconst 1, 1) := by decide +kernel
theorem dX9_solves_109 : decode cX9_solves 109 = .ok (.aload_n 0, 1) := by decide +kernel
theorem dX9_solves_110 : decode cX9_solves 110 = .ok (.getfield 195, 3) := by decide +kernel
theorem dX9_solves_113 : decode cX9_solves 113 = .ok (.ishl, 1) := by decide +kernel
theorem dX9_solves_114 : decode cX9_solves 114 = .ok (.if_icmp .ge 37, 3) := by decide +kernel
theorem dX9_solves_117 : decode cX9_solves 117 = .ok (.aload_n 0, 1) := by decide +kernel
theorem dX9_solves_118 : decode cX9_solves 118 = .ok (.getfield 213, 3) := by decide +kernel
theorem dX9_solves_121 : decode cX9_solves 121 = .ok (.ifCond .ge 30, 3) := by decide +kernel
theorem dX9_solves_124 : decode cX9_solves 124 = .ok (.iload_n 2, 1) := by decide +kernel
theorem dX9_solves_125 : decode cX9_solves 125 = .ok (.invokestatic 216, 3) := by decide +kernel
theorem dX9_solves_128 : decode cX9_solves 128 = .ok (.iload_n 1, 1) := by decide +kernel
theorem dX9_solves_129 : decode cX9_solves 129 = .ok (.if_icmp .ne 16, 3) := by decide +kernel
theorem dX9_solves_132 : decode cX9_solves 132 = .ok (.aload_n 0, 1) := by decide +kernel
theorem dX9_solves_133 : decode cX9_solves 133 = .ok (.iload_n 2, 1) := by decide +kernel
theorem dX9_solves_134 : decode cX9_solves 134 = .ok (.invokevirtual 219, 3) := by decide +kernel
theorem dX9_solves_137 : decode cX9_solves 137 = .ok (.ifCond .eq 8, 3) := by decide +kernel
theorem dX9_solves_140 : decode cX9_solves 140 = .ok (.aload_n 0, 1) := by decide +kernel
theorem dX9_solves_141 : decode cX9_solves 141 = .ok (.iload_n 2, 1) := by decide +kernel
theorem dX9_solves_142 : decode cX9_solves 142 = .ok (.putfield 213, 3) := by decide +kernel
theorem dX9_solves_145 : decode cX9_solves 145 = .ok (.iinc 2 1, 3) := by decide +kernel
theorem dX9_solves_148 : decode cX9_solves 148 = .ok (.goto (-41), 3) := by decide +kernel
theorem dX9_solves_151 : decode cX9_solves 151 = .ok (.iinc 1 1, 3) := by decide +kernel
theorem dX9_solves_154 : decode cX9_solves 154 = .ok (.goto (-64), 3) := by decide +kernel
theorem dX9_solves_157 : decode cX9_solves 157 = .ok (.aload_n 0, 1) := by decide +kernel
theorem dX9_solves_158 : decode cX9_solves 158 = .ok (.aload_n 0, 1) := by decide +kernel
theorem dX9_solves_159 : decode cX9_solves 159 = .ok (.getfield 213, 3) := by decide +kernel
theorem dX9_solves_162 : decode cX9_solves 162 = .ok (.invokevirtual 207, 3) := by decide +kernel
theorem dX9_solves_165 : decode cX9_solves 165 = .ok (.istore_n 1, 1) := by decide +kernel
theorem dX9_solves_166 : decode cX9_solves 166 = .ok (.iconst 0, 1) := by decide +kernel
theorem dX9_solves_167 : decode cX9_solves 167 = .ok (.istore_n 2, 1) := by decide +kernel
theorem dX9_solves_168 : decode cX9_solves 168 = .ok (.iload_n 2, 1) := by decide +kernel
theorem dX9_solves_169 : decode cX9_solves 169 = .ok (.aload_n 0, 1) := by decide +kernel
theorem dX9_solves_170 : decode cX9_solves 170 = .ok (.getfield 163, 3) := by decide +kernel
theorem dX9_solves_173 : decode cX9_solves 173 = .ok (.if_icmp .ge 83, 3) := by decide +kernel
theorem dX9_solves_176 : decode cX9_solves 176 = .ok (.iconst 0, 1) := by decide +kernel
theorem dX9_solves_177 : decode cX9_solves 177 = .ok (.istore_n 3, 1) := by decide +kernel
theorem dX9_solves_178 : decode cX9_solves 178 = .ok (.iload_n 3, 1) := by decide +kernel
theorem dX9_solves_179 : decode cX9_solves 179 = .ok (.sipush 300, 3) := by decide +kernel
theorem dX9_solves_182 : decode cX9_solves 182 = .ok (.if_icmp .ge 68, 3) := by decide +kernel
theorem dX9_solves_185 : decode cX9_solves 185 = .ok (.aload_n 0, 1) := by decide +kernel
theorem dX9_solves_186 : decode cX9_solves 186 = .ok (.getfield 51, 3) := by decide +kernel
theorem dX9_solves_189 : decode cX9_solves 189 = .ok (.sipush 300, 3) := by decide +kernel
theorem dX9_solves_192 : decode cX9_solves 192 = .ok (.iload_n 2, 1) := by decide +kernel
theorem dX9_solves_193 : decode cX9_solves 193 = .ok (.imul, 1) := by decide +kernel
theorem dX9_solves_194 : decode cX9_solves 194 = .ok (.iload_n 3, 1) := by decide +kernel
theorem dX9_solves_195 : decode cX9_solves 195 = .ok (.iadd, 1) := by decide +kernel
theorem dX9_solves_196 : decode cX9_solves 196 = .ok (.iload_n 1, 1) := by decide +kernel
theorem dX9_solves_197 : decode cX9_solves 197 = .ok (.ifCond .eq 45, 3) := by decide +kernel
theorem dX9_solves_200 : decode cX9_solves 200 = .ok (.aload_n 0, 1) := by decide +kernel
theorem dX9_solves_201 : decode cX9_solves 201 = .ok (.iload_n 2, 1) := by decide +kernel
theorem dX9_solves_202 : decode cX9_solves 202 = .ok (.invokevirtual 201, 3) := by decide +kernel
theorem dX9_solves_205 : decode cX9_solves 205 = .ok (.ifCond .eq 37, 3) := by decide +kernel
theorem dX9_solves_208 : decode cX9_solves 208 = .ok (.iload_n 3, 1) := by decide +kernel
theorem dX9_solves_209 : decode cX9_solves 209 = .ok (.aload_n 0, 1) := by decide +kernel
theorem dX9_solves_210 : decode cX9_solves 210 = .ok (.getfield 27, 3) := by decide +kernel
theorem dX9_solves_213 : decode cX9_solves 213 = .ok (.iload_n 2, 1) := by decide +kernel
theorem dX9_solves_214 : decode cX9_solves 214 = .ok (.iaload, 1) := by decide +kernel
theorem dX9_solves_215 : decode cX9_solves 215 = .ok (.if_icmp .ge 27, 3) := by decide +kernel
theorem dX9_solves_218 : decode cX9_solves 218 = .ok (.aload_n 0, 1) := by decide +kernel
theorem dX9_solves_219 : decode cX9_solves 219 = .ok (.iload_n 2, 1) := by decide +kernel
theorem dX9_solves_220 : decode cX9_solves 220 = .ok (.aload_n 0, 1) := by decide +kernel
theorem dX9_solves_221 : decode cX9_solves 221 = .ok (.getfield 30, 3) := by decide +kernel
theorem dX9_solves_224 : decode cX9_solves 224 = .ok (.sipush 300, 3) := by decide +kernel
theorem dX9_solves_227 : decode cX9_solves 227 = .ok (.iload_n 2, 1) := by decide +kernel
theorem dX9_solves_228 : decode cX9_solves 228 = .ok (.imul, 1) := by decide +kernel
theorem dX9_solves_229 : decode cX9_solves 229 = .ok (.iload_n 3, 1) := by decide +kernel
theorem dX9_solves_230 : decode cX9_solves 230 = .ok (.iadd, 1) := by decide +kernel
theorem dX9_solves_231 : decode cX9_solves 231 = .ok (.iaload, 1) := by decide +kernel
theorem dX9_solves_232 : decode cX9_solves 232 = .ok (.invokevirtual 210, 3) := by decide +kernel
theorem dX9_solves_235 : decode cX9_solves 235 = .ok (.ifCond .eq 7, 3) := by decide +kernel
theorem dX9_solves_238 : decode cX9_solves 238 = .ok (.iconst 1, 1) := by decide +kernel
theorem dX9_solves_239 : decode cX9_solves 239 = .ok (.goto 4, 3) := by decide +kernel
theorem dX9_solves_242 : decode cX9_solves 242 = .ok (.iconst 0, 1) := by decide +kernel
theorem dX9_solves_243 : decode cX9_solves 243 = .ok (.bastore, 1) := by decide +kernel
theorem dX9_solves_244 : decode cX9_solves 244 = .ok (.iinc 3 1, 3) := by decide +kernel
theorem dX9_solves_247 : decode cX9_solves 247 = .ok (.goto (-69), 3) := by decide +kernel
theorem dX9_solves_250 : decode cX9_solves 250 = .ok (.iinc 2 1, 3) := by decide +kernel
theorem dX9_solves_253 : decode cX9_solves 253 = .ok (.goto (-85), 3) := by decide +kernel
theorem dX9_solves_256 : decode cX9_solves 256 = .ok (.return_, 1) := by decide +kernel
set_option maxRecDepth 20000 in
theorem ggX9_least_X9_solves : GoodIn wsX9_least wsX9_solves := goodIn_r _ [7, 8, 9, 10, 11, 12, 13, 2, 14, 15, 16, 17, 18, 19, 20, 6, 21, 22, 23, 24, 25, 26, 27, 28, 29, 30, 31, 32, 33, 34, 35, 36, 37, 38, 39, 40, 41, 42, 43, 44, 45, 46, 47, 48, 49, 50, 51, 52, 53, 54, 55, 56, 57, 58, 59, 60, 61, 62, 63, 64, 65, 66, 67, 68, 69, 70, 71, 72, 73, 74, 75, 76, 77, 78, 79, 80] (by decide +kernel) (by decide +kernel)
set_option maxRecDepth 20000 in
theorem gX9_least_X9_solves : GoodIn wsX9_least (wsV RX9 222 RX9 yX9_solves wsX9_solves) := goodIn_app (goodIn_of _ (by decide +kernel)) ggX9_least_X9_solves
set_option maxRecDepth 20000 in
theorem ggX9_least_X9_bits : GoodIn wsX9_least wsX9_bits := goodIn_r _ [24] (by decide +kernel) (by decide +kernel)
set_option maxRecDepth 20000 in
theorem gX9_least_X9_bits : GoodIn wsX9_least (va_wsS RX9 216 yX9_bits wsX9_bits) := goodIn_app (goodIn_of _ (by decide +kernel)) ggX9_least_X9_bits
theorem dX9_least_0 : decode cX9_least 0 = .ok (.aload_n 0, 1) := by decide +kernel
theorem dX9_least_1 : decode cX9_least 1 = .ok (.iconst 0, 1) := by decide +kernel
theorem dX9_least_2 : decode cX9_least 2 = .ok (.putfield 61, 3) := by decide +kernel
theorem dX9_least_5 : decode cX9_least 5 = .ok (.aload_n 0, 1) := by decide +kernel
theorem dX9_least_6 : decode cX9_least 6 = .ok (.invokevirtual 222, 3) := by decide +kernel
theorem dX9_least_9 : decode cX9_least 9 = .ok (.aload_n 0, 1) := by decide +kernel
theorem dX9_least_10 : decode cX9_least 10 = .ok (.getfield 213, 3) := by decide +kernel
theorem dX9_least_13 : decode cX9_least 13 = .ok (.invokestatic 216, 3) := by decide +kernel
theorem dX9_least_16 : decode cX9_least 16 = .ok (.ireturn, 1) := by decide +kernel
set_option maxRecDepth 20000 in
theorem ggX9_wrong_X9_solves : GoodIn wsX9_wrong wsX9_solves := goodIn_r _ [9, 10, 2, 11, 12, 13, 4, 3, 14, 15, 16, 17, 18, 19, 20, 8, 21, 22, 23, 24, 25, 26, 27, 28, 29, 30, 31, 32, 33, 34, 35, 36, 37, 38, 39, 40, 41, 42, 43, 44, 45, 46, 47, 48, 49, 50, 51, 52, 53, 54, 55, 56, 57, 58, 59, 60, 61, 62, 63, 64, 65, 66, 67, 68, 69, 70, 71, 72, 73, 74, 75, 76, 77, 78, 79, 80] (by decide +kernel) (by decide +kernel)
set_option maxRecDepth 20000 in
theorem gX9_wrong_X9_solves : GoodIn wsX9_wrong (wsV RX9 222 RX9 yX9_solves wsX9_solves) := goodIn_app (goodIn_of _ (by decide +kernel)) ggX9_wrong_X9_solves
set_option maxRecDepth 20000 in
theorem ggX9_wrong_X9_isAskedWrong : GoodIn wsX9_wrong wsX9_isAskedWrong := goodIn_r _ [39, 2, 48, 49, 50, 51, 52, 53, 54, 55, 56, 57, 58, 59, 60, 61, 62, 63, 64, 65, 66, 67, 68, 69, 70, 71, 72, 73, 74, 75, 76, 77, 78, 79, 80] (by decide +kernel) (by decide +kernel)
set_option maxRecDepth 20000 in
theorem gX9_wrong_X9_isAskedWrong : GoodIn wsX9_wrong (wsV RX9 198 RX9 yX9_isAskedWrong wsX9_isAskedWrong) := goodIn_app (goodIn_of _ (by decide +kernel)) ggX9_wrong_X9_isAskedWrong
theorem dX9_wrong_0 : decode cX9_wrong 0 = .ok (.aload_n 0, 1) := by decide +kernel
theorem dX9_wrong_1 : decode cX9_wrong 1 = .ok (.iconst 0, 1) := by decide +kernel
theorem dX9_wrong_2 : decode cX9_wrong 2 = .ok (.putfield 61, 3) := by decide +kernel
theorem dX9_wrong_5 : decode cX9_wrong 5 = .ok (.aload_n 0, 1) := by decide +kernel
theorem dX9_wrong_6 : decode cX9_wrong 6 = .ok (.invokevirtual 222, 3) := by decide +kernel
theorem dX9_wrong_9 : decode cX9_wrong 9 = .ok (.iload_n 1, 1) := by decide +kernel
theorem dX9_wrong_10 : decode cX9_wrong 10 = .ok (.istore_n 2, 1) := by decide +kernel
theorem dX9_wrong_11 : decode cX9_wrong 11 = .ok (.iconst 0, 1) := by decide +kernel
theorem dX9_wrong_12 : decode cX9_wrong 12 = .ok (.istore_n 3, 1) := by decide +kernel
theorem dX9_wrong_13 : decode cX9_wrong 13 = .ok (.iload_n 3, 1) := by decide +kernel
theorem dX9_wrong_14 : decode cX9_wrong 14 = .ok (.aload_n 0, 1) := by decide +kernel
theorem dX9_wrong_15 : decode cX9_wrong 15 = .ok (.getfield 195, 3) := by decide +kernel
theorem dX9_wrong_18 : decode cX9_wrong 18 = .ok (.if_icmp .ge 42, 3) := by decide +kernel
theorem dX9_wrong_21 : decode cX9_wrong 21 = .ok (.iload_n 1, 1) := by decide +kernel
theorem dX9_wrong_22 : decode cX9_wrong 22 = .ok (.ifCond .lt 38, 3) := by decide +kernel
theorem dX9_wrong_25 : decode cX9_wrong 25 = .ok (.aload_n 0, 1) := by decide +kernel
theorem dX9_wrong_26 : decode cX9_wrong 26 = .ok (.iload_n 3, 1) := by decide +kernel
theorem dX9_wrong_27 : decode cX9_wrong 27 = .ok (.aload_n 0, 1) := by decide +kernel
theorem dX9_wrong_28 : decode cX9_wrong 28 = .ok (.getfield 213, 3) := by decide +kernel
theorem dX9_wrong_31 : decode cX9_wrong 31 = .ok (.invokevirtual 198, 3) := by decide +kernel
theorem dX9_wrong_34 : decode cX9_wrong 34 = .ok (.ifCond .ne 6, 3) := by decide +kernel
theorem dX9_wrong_37 : decode cX9_wrong 37 = .ok (.goto 17, 3) := by decide +kernel
theorem dX9_wrong_40 : decode cX9_wrong 40 = .ok (.iload_n 2, 1) := by decide +kernel
theorem dX9_wrong_41 : decode cX9_wrong 41 = .ok (.ifCond .ne 10, 3) := by decide +kernel
theorem dX9_wrong_44 : decode cX9_wrong 44 = .ok (.aload_n 0, 1) := by decide +kernel
theorem dX9_wrong_45 : decode cX9_wrong 45 = .ok (.getfield 42, 3) := by decide +kernel
theorem dX9_wrong_48 : decode cX9_wrong 48 = .ok (.iload_n 3, 1) := by decide +kernel
theorem dX9_wrong_49 : decode cX9_wrong 49 = .ok (.iaload, 1) := by decide +kernel
theorem dX9_wrong_50 : decode cX9_wrong 50 = .ok (.ireturn, 1) := by decide +kernel
theorem dX9_wrong_51 : decode cX9_wrong 51 = .ok (.iinc 2 (-1), 3) := by decide +kernel
theorem dX9_wrong_54 : decode cX9_wrong 54 = .ok (.iinc 3 1, 3) := by decide +kernel
theorem dX9_wrong_57 : decode cX9_wrong 57 = .ok (.goto (-44), 3) := by decide +kernel
theorem dX9_wrong_60 : decode cX9_wrong 60 = .ok (.iconst (-1), 1) := by decide +kernel
theorem dX9_wrong_61 : decode cX9_wrong 61 = .ok (.ireturn, 1) := by decide +kernel
set_option maxRecDepth 20000 in
theorem ggX9_settled_X9_isStone : GoodIn wsX9_settled wsX9_isStone := goodIn_r _ [6, 7, 8, 52, 53, 54, 55, 56, 57, 58, 59, 60, 61, 62, 63, 64, 65, 66, 67, 68, 69, 70, 71, 72, 73, 74, 75, 76, 77, 78, 79, 80, 81, 82, 83, 84] (by decide +kernel) (by decide +kernel)
set_option maxRecDepth 20000 in
theorem gX9_settled_X9_isStone : GoodIn wsX9_settled (wsV RX9 187 RX9 yX9_isStone wsX9_isStone) := goodIn_app (goodIn_of _ (by decide +kernel)) ggX9_settled_X9_isStone
set_option maxRecDepth 20000 in
theorem ggX9_settled_X9_inNet : GoodIn wsX9_settled wsX9_inNet := goodIn_r _ [12, 13, 52, 53, 54, 55, 56, 57, 58, 59, 60, 61, 62, 63, 64, 65, 66, 67, 68, 69, 70, 71, 72, 73, 74, 75, 76, 77, 78, 79, 80, 81, 82, 83, 84] (by decide +kernel) (by decide +kernel)
set_option maxRecDepth 20000 in
theorem gX9_settled_X9_inNet : GoodIn wsX9_settled (wsV RX9 201 RX9 yX9_inNet wsX9_inNet) := goodIn_app (goodIn_of _ (by decide +kernel)) ggX9_settled_X9_inNet
set_option maxRecDepth 20000 in
theorem ggX9_settled_X9_solves : GoodIn wsX9_settled wsX9_solves := goodIn_r _ [17, 18, 19, 20, 21, 22, 23, 24, 7, 1, 13, 25, 9, 10, 11, 5, 12, 26, 27, 28, 29, 30, 31, 32, 33, 34, 35, 36, 37, 38, 39, 40, 41, 42, 43, 44, 45, 46, 47, 48, 49, 50, 51, 52, 53, 54, 55, 56, 57, 58, 59, 60, 61, 62, 63, 64, 65, 66, 67, 68, 69, 70, 71, 72, 73, 74, 75, 76, 77, 78, 79, 80, 81, 82, 83, 84] (by decide +kernel) (by decide +kernel)
set_option maxRecDepth 20000 in
theorem gX9_settled_X9_solves : GoodIn wsX9_settled (wsV RX9 222 RX9 yX9_solves wsX9_solves) := goodIn_app (goodIn_of _ (by decide +kernel)) ggX9_settled_X9_solves
theorem dX9_settled_0 : decode cX9_settled 0 = .ok (.aload_n 0, 1) := by decide +kernel
theorem dX9_settled_1 : decode cX9_settled 1 = .ok (.iload_n 1, 1) := by decide +kernel
theorem dX9_settled_2 : decode cX9_settled 2 = .ok (.invokevirtual 187, 3) := by decide +kernel
theorem dX9_settled_5 : decode cX9_settled 5 = .ok (.ifCond .ne 5, 3) := by decide +kernel
theorem dX9_settled_8 : decode cX9_settled 8 = .ok (.iconst 0, 1) := by decide +kernel
theorem dX9_settled_9 : decode cX9_settled 9 = .ok (.ireturn, 1) := by decide +kernel
theorem dX9_settled_10 : decode cX9_settled 10 = .ok (.aload_n 0, 1) := by decide +kernel
theorem dX9_settled_11 : decode cX9_settled 11 = .ok (.iload_n 1, 1) := by decide +kernel
theorem dX9_settled_12 : decode cX9_settled 12 = .ok (.invokevirtual 201, 3) := by decide +kernel
theorem dX9_settled_15 : decode cX9_settled 15 = .ok (.ifCond .ne 5, 3) := by decide +kernel
theorem dX9_settled_18 : decode cX9_settled 18 = .ok (.iconst (-1), 1) := by decide +kernel
theorem dX9_settled_19 : decode cX9_settled 19 = .ok (.ireturn, 1) := by decide +kernel
theorem dX9_settled_20 : decode cX9_settled 20 = .ok (.aload_n 0, 1) := by decide +kernel
theorem dX9_settled_21 : decode cX9_settled 21 = .ok (.invokevirtual 222, 3) := by decide +kernel
theorem dX9_settled_24 : decode cX9_settled 24 = .ok (.iconst 0, 1) := by decide +kernel
theorem dX9_settled_25 : decode cX9_settled 25 = .ok (.istore_n 2, 1) := by decide +kernel
theorem dX9_settled_26 : decode cX9_settled 26 = .ok (.iconst 0, 1) := by decide +kernel
theorem dX9_settled_27 : decode cX9_settled 27 = .ok (.istore_n 3, 1) := by decide +kernel
theorem dX9_settled_28 : decode cX9_settled 28 = .ok (.iload_n 3, 1) := by decide +kernel
theorem dX9_settled_29 : decode cX9_settled 29 = .ok (.sipush 300, 3) := by decide +kernel
theorem dX9_settled_32 : decode cX9_settled 32 = .ok (.if_icmp .ge 32, 3) := by decide +kernel
theorem dX9_settled_35 : decode cX9_settled 35 = .ok (.iload_n 2, 1) := by decide +kernel
theorem dX9_settled_36 : decode cX9_settled 36 = .ok (.aload_n 0, 1) := by decide +kernel
theorem dX9_settled_37 : decode cX9_settled 37 = .ok (.getfield 51, 3) := by decide +kernel
theorem dX9_settled_40 : decode cX9_settled 40 = .ok (.sipush 300, 3) := by decide +kernel
theorem dX9_settled_43 : decode cX9_settled 43 = .ok (.iload_n 1, 1) := by decide +kernel
theorem dX9_settled_44 : decode cX9_settled 44 = .ok (.imul, 1) := by decide +kernel
theorem dX9_settled_45 : decode cX9_settled 45 = .ok (.iload_n 3, 1) := by decide +kernel
theorem dX9_settled_46 : decode cX9_settled 46 = .ok (.iadd, 1) := by decide +kernel
theorem dX9_settled_47 : decode cX9_settled 47 = .ok (.baload, 1) := by decide +kernel
theorem dX9_settled_48 : decode cX9_settled 48 = .ok (.ifCond .eq 7, 3) := by decide +kernel
theorem dX9_settled_51 : decode cX9_settled 51 = .ok (.iconst 1, 1) := by decide +kernel
theorem dX9_settled_52 : decode cX9_settled 52 = .ok (.goto 4, 3) := by decide +kernel
theorem dX9_settled_55 : decode cX9_settled 55 = .ok (.iconst 0, 1) := by decide +kernel
theorem dX9_settled_56 : decode cX9_settled 56 = .ok (.iadd, 1) := by decide +kernel
theorem dX9_settled_57 : decode cX9_settled 57 = .ok (.istore_n 2, 1) := by decide +kernel
theorem dX9_settled_58 : decode cX9_settled 58 = .ok (.iinc 3 1, 3) := by decide +kernel
theorem dX9_settled_61 : decode cX9_settled 61 = .ok (.goto (-33), 3) := by decide +kernel
theorem dX9_settled_64 : decode cX9_settled 64 = .ok (.iload_n 2, 1) := by decide +kernel
theorem dX9_settled_65 : decode cX9_settled 65 = .ok (.ireturn, 1) := by decide +kernel
set_option maxRecDepth 20000 in
theorem ggX9_settledDay_X9_isStone : GoodIn wsX9_settledDay wsX9_isStone := goodIn_r _ [7, 8, 9, 52, 53, 54, 55, 56, 57, 58, 59, 60, 61, 62, 63, 64, 65, 66, 67, 68, 69, 70, 71, 72, 73, 74, 75, 76, 77, 78, 79, 80, 81, 82, 83, 84] (by decide +kernel) (by decide +kernel)
set_option maxRecDepth 20000 in
theorem gX9_settledDay_X9_isStone : GoodIn wsX9_settledDay (wsV RX9 187 RX9 yX9_isStone wsX9_isStone) := goodIn_app (goodIn_of _ (by decide +kernel)) ggX9_settledDay_X9_isStone
set_option maxRecDepth 20000 in
theorem ggX9_settledDay_X9_inNet : GoodIn wsX9_settledDay wsX9_inNet := goodIn_r _ [13, 14, 52, 53, 54, 55, 56, 57, 58, 59, 60, 61, 62, 63, 64, 65, 66, 67, 68, 69, 70, 71, 72, 73, 74, 75, 76, 77, 78, 79, 80, 81, 82, 83, 84] (by decide +kernel) (by decide +kernel)
set_option maxRecDepth 20000 in
theorem gX9_settledDay_X9_inNet : GoodIn wsX9_settledDay (wsV RX9 201 RX9 yX9_inNet wsX9_inNet) := goodIn_app (goodIn_of _ (by decide +kernel)) ggX9_settledDay_X9_inNet
set_option maxRecDepth 20000 in
theorem ggX9_settledDay_X9_solves : GoodIn wsX9_settledDay wsX9_solves := goodIn_r _ [18, 19, 20, 21, 22, 23, 24, 25, 8, 1, 14, 2, 10, 11, 12, 6, 13, 26, 27, 28, 29, 30, 31, 32, 33, 34, 35, 36, 37, 38, 39, 40, 41, 42, 43, 44, 45, 46, 47, 48, 49, 50, 51, 52, 53, 54, 55, 56, 57, 58, 59, 60, 61, 62, 63, 64, 65, 66, 67, 68, 69, 70, 71, 72, 73, 74, 75, 76, 77, 78, 79, 80, 81, 82, 83, 84] (by decide +kernel) (by decide +kernel)
set_option maxRecDepth 20000 in
theorem gX9_settledDay_X9_solves : GoodIn wsX9_settledDay (wsV RX9 222 RX9 yX9_solves wsX9_solves) := goodIn_app (goodIn_of _ (by decide +kernel)) ggX9_settledDay_X9_solves
theorem dX9_settledDay_0 : decode cX9_settledDay 0 = .ok (.aload_n 0, 1) := by decide +kernel
theorem dX9_settledDay_1 : decode cX9_settledDay 1 = .ok (.iload_n 1, 1) := by decide +kernel
theorem dX9_settledDay_2 : decode cX9_settledDay 2 = .ok (.invokevirtual 187, 3) := by decide +kernel
theorem dX9_settledDay_5 : decode cX9_settledDay 5 = .ok (.ifCond .ne 5, 3) := by decide +kernel
theorem dX9_settledDay_8 : decode cX9_settledDay 8 = .ok (.iconst 0, 1) := by decide +kernel
theorem dX9_settledDay_9 : decode cX9_settledDay 9 = .ok (.ireturn, 1) := by decide +kernel
theorem dX9_settledDay_10 : decode cX9_settledDay 10 = .ok (.aload_n 0, 1) := by decide +kernel
theorem dX9_settledDay_11 : decode cX9_settledDay 11 = .ok (.iload_n 1, 1) := by decide +kernel
theorem dX9_settledDay_12 : decode cX9_settledDay 12 = .ok (.invokevirtual 201, 3) := by decide +kernel
theorem dX9_settledDay_15 : decode cX9_settledDay 15 = .ok (.ifCond .ne 5, 3) := by decide +kernel
theorem dX9_settledDay_18 : decode cX9_settledDay 18 = .ok (.iconst (-1), 1) := by decide +kernel
theorem dX9_settledDay_19 : decode cX9_settledDay 19 = .ok (.ireturn, 1) := by decide +kernel
theorem dX9_settledDay_20 : decode cX9_settledDay 20 = .ok (.aload_n 0, 1) := by decide +kernel
theorem dX9_settledDay_21 : decode cX9_settledDay 21 = .ok (.invokevirtual 222, 3) := by decide +kernel
theorem dX9_settledDay_24 : decode cX9_settledDay 24 = .ok (.iload_n 2, 1) := by decide +kernel
theorem dX9_settledDay_25 : decode cX9_settledDay 25 = .ok (.istore_n 3, 1) := by decide +kernel
theorem dX9_settledDay_26 : decode cX9_settledDay 26 = .ok (.iconst 0, 1) := by decide +kernel
theorem dX9_settledDay_27 : decode cX9_settledDay 27 = .ok (.istore 4, 2) := by decide +kernel
theorem dX9_settledDay_29 : decode cX9_settledDay 29 = .ok (.iload 4, 2) := by decide +kernel
theorem dX9_settledDay_31 : decode cX9_settledDay 31 = .ok (.sipush 300, 3) := by decide +kernel
theorem dX9_settledDay_34 : decode cX9_settledDay 34 = .ok (.if_icmp .ge 53, 3) := by decide +kernel
theorem dX9_settledDay_37 : decode cX9_settledDay 37 = .ok (.iload_n 2, 1) := by decide +kernel
theorem dX9_settledDay_38 : decode cX9_settledDay 38 = .ok (.ifCond .lt 49, 3) := by decide +kernel
theorem dX9_settledDay_41 : decode cX9_settledDay 41 = .ok (.aload_n 0, 1) := by decide +kernel
theorem dX9_settledDay_42 : decode cX9_settledDay 42 = .ok (.getfield 51, 3) := by decide +kernel
theorem dX9_settledDay_45 : decode cX9_settledDay 45 = .ok (.sipush 300, 3) := by decide +kernel
theorem dX9_settledDay_48 : decode cX9_settledDay 48 = .ok (.iload_n 1, 1) := by decide +kernel
theorem dX9_settledDay_49 : decode cX9_settledDay 49 = .ok (.imul, 1) := by decide +kernel
theorem dX9_settledDay_50 : decode cX9_settledDay 50 = .ok (.iload 4, 2) := by decide +kernel
theorem dX9_settledDay_52 : decode cX9_settledDay 52 = .ok (.iadd, 1) := by decide +kernel
theorem dX9_settledDay_53 : decode cX9_settledDay 53 = .ok (.baload, 1) := by decide +kernel
theorem dX9_settledDay_54 : decode cX9_settledDay 54 = .ok (.ifCond .ne 6, 3) := by decide +kernel
theorem dX9_settledDay_57 : decode cX9_settledDay 57 = .ok (.goto 24, 3) := by decide +kernel
theorem dX9_settledDay_60 : decode cX9_settledDay 60 = .ok (.iload_n 3, 1) := by decide +kernel
theorem dX9_settledDay_61 : decode cX9_settledDay 61 = .ok (.ifCond .ne 17, 3) := by decide +kernel
theorem dX9_settledDay_64 : decode cX9_settledDay 64 = .ok (.aload_n 0, 1) := by decide +kernel
theorem dX9_settledDay_65 : decode cX9_settledDay 65 = .ok (.getfield 30, 3) := by decide +kernel
theorem dX9_settledDay_68 : decode cX9_settledDay 68 = .ok (.sipush 300, 3) := by decide +kernel
theorem dX9_settledDay_71 : decode cX9_settledDay 71 = .ok (.iload_n 1, 1) := by decide +kernel
theorem dX9_settledDay_72 : decode cX9_settledDay 72 = .ok (.imul, 1) := by decide +kernel
theorem dX9_settledDay_73 : decode cX9_settledDay 73 = .ok (.iload 4, 2) := by decide +kernel
theorem dX9_settledDay_75 : decode cX9_settledDay 75 = .ok (.iadd, 1) := by decide +kernel
theorem dX9_settledDay_76 : decode cX9_settledDay 76 = .ok (.iaload, 1) := by decide +kernel
theorem dX9_settledDay_77 : decode cX9_settledDay 77 = .ok (.ireturn, 1) := by decide +kernel
theorem dX9_settledDay_78 : decode cX9_settledDay 78 = .ok (.iinc 3 (-1), 3) := by decide +kernel
theorem dX9_settledDay_81 : decode cX9_settledDay 81 = .ok (.iinc 4 1, 3) := by decide +kernel
theorem dX9_settledDay_84 : decode cX9_settledDay 84 = .ok (.goto (-55), 3) := by decide +kernel
theorem dX9_settledDay_87 : decode cX9_settledDay 87 = .ok (.iconst (-1), 1) := by decide +kernel
theorem dX9_settledDay_88 : decode cX9_settledDay 88 = .ok (.ireturn, 1) := by decide +kernel
set_option maxRecDepth 20000 in
theorem ggX9_eclipse_X9_bad : GoodIn wsX9_eclipse wsX9_bad := goodIn_r _ [9, 1, 10, 11, 12, 13, 14, 15, 16, 17, 18, 19, 20, 21, 22, 23, 24, 25, 26, 27, 28, 29, 30, 31, 32, 33, 34, 35, 36, 37, 38, 39, 40, 41, 42] (by decide +kernel) (by decide +kernel)
set_option maxRecDepth 20000 in
theorem gX9_eclipse_X9_bad : GoodIn wsX9_eclipse (wsV RX9 65 RX9 yX9_bad wsX9_bad) := goodIn_app (goodIn_of _ (by decide +kernel)) ggX9_eclipse_X9_bad
theorem dX9_eclipse_0 : decode cX9_eclipse 0 = .ok (.aload_n 0, 1) := by decide +kernel
theorem dX9_eclipse_1 : decode cX9_eclipse 1 = .ok (.iconst 0, 1) := by decide +kernel
theorem dX9_eclipse_2 : decode cX9_eclipse 2 = .ok (.putfield 61, 3) := by decide +kernel
theorem dX9_eclipse_5 : decode cX9_eclipse 5 = .ok (.aload_n 0, 1) := by decide +kernel
theorem dX9_eclipse_6 : decode cX9_eclipse 6 = .ok (.iload_n 1, 1) := by decide +kernel
theorem dX9_eclipse_7 : decode cX9_eclipse 7 = .ok (.ifCond .lt 9, 3) := by decide +kernel
theorem dX9_eclipse_10 : decode cX9_eclipse 10 = .ok (.iload_n 1, 1) := by decide +kernel
theorem dX9_eclipse_11 : decode cX9_eclipse 11 = .ok (.ldc 225, 2) := by decide +kernel
theorem dX9_eclipse_13 : decode cX9_eclipse 13 = .ok (.if_icmp .le 7, 3) := by decide +kernel
theorem dX9_eclipse_16 : decode cX9_eclipse 16 = .ok (.iconst 1, 1) := by decide +kernel
theorem dX9_eclipse_17 : decode cX9_eclipse 17 = .ok (.goto 4, 3) := by decide +kernel
theorem dX9_eclipse_20 : decode cX9_eclipse 20 = .ok (.iconst 0, 1) := by decide +kernel
theorem dX9_eclipse_21 : decode cX9_eclipse 21 = .ok (.iconst 1, 1) := by decide +kernel
theorem dX9_eclipse_22 : decode cX9_eclipse 22 = .ok (.invokevirtual 65, 3) := by decide +kernel
theorem dX9_eclipse_25 : decode cX9_eclipse 25 = .ok (.ifCond .eq 5, 3) := by decide +kernel
theorem dX9_eclipse_28 : decode cX9_eclipse 28 = .ok (.iconst 0, 1) := by decide +kernel
theorem dX9_eclipse_29 : decode cX9_eclipse 29 = .ok (.ireturn, 1) := by decide +kernel
theorem dX9_eclipse_30 : decode cX9_eclipse 30 = .ok (.iconst 0, 1) := by decide +kernel
theorem dX9_eclipse_31 : decode cX9_eclipse 31 = .ok (.istore_n 2, 1) := by decide +kernel
theorem dX9_eclipse_32 : decode cX9_eclipse 32 = .ok (.iload_n 2, 1) := by decide +kernel
theorem dX9_eclipse_33 : decode cX9_eclipse 33 = .ok (.aload_n 0, 1) := by decide +kernel
theorem dX9_eclipse_34 : decode cX9_eclipse 34 = .ok (.getfield 226, 3) := by decide +kernel
theorem dX9_eclipse_37 : decode cX9_eclipse 37 = .ok (.if_icmp .ge 21, 3) := by decide +kernel
theorem dX9_eclipse_40 : decode cX9_eclipse 40 = .ok (.aload_n 0, 1) := by decide +kernel
theorem dX9_eclipse_41 : decode cX9_eclipse 41 = .ok (.getfield 55, 3) := by decide +kernel
theorem dX9_eclipse_44 : decode cX9_eclipse 44 = .ok (.iload_n 2, 1) := by decide +kernel
theorem dX9_eclipse_45 : decode cX9_eclipse 45 = .ok (.iaload, 1) := by decide +kernel
theorem dX9_eclipse_46 : decode cX9_eclipse 46 = .ok (.iload_n 1, 1) := by decide +kernel
theorem dX9_eclipse_47 : decode cX9_eclipse 47 = .ok (.if_icmp .ne 5, 3) := by decide +kernel
theorem dX9_eclipse_50 : decode cX9_eclipse 50 = .ok (.iconst (-1), 1) := by decide +kernel
theorem dX9_eclipse_51 : decode cX9_eclipse 51 = .ok (.ireturn, 1) := by decide +kernel
theorem dX9_eclipse_52 : decode cX9_eclipse 52 = .ok (.iinc 2 1, 3) := by decide +kernel
theorem dX9_eclipse_55 : decode cX9_eclipse 55 = .ok (.goto (-23), 3) := by decide +kernel
theorem dX9_eclipse_58 : decode cX9_eclipse 58 = .ok (.aload_n 0, 1) := by decide +kernel
theorem dX9_eclipse_59 : decode cX9_eclipse 59 = .ok (.getfield 226, 3) := by decide +kernel
theorem dX9_eclipse_62 : decode cX9_eclipse 62 = .ok (.bipush 40, 2) := by decide +kernel
theorem dX9_eclipse_64 : decode cX9_eclipse 64 = .ok (.if_icmp .ne 6, 3) := by decide +kernel
theorem dX9_eclipse_67 : decode cX9_eclipse 67 = .ok (.bipush (-2), 2) := by decide +kernel
theorem dX9_eclipse_69 : decode cX9_eclipse 69 = .ok (.ireturn, 1) := by decide +kernel
theorem dX9_eclipse_70 : decode cX9_eclipse 70 = .ok (.aload_n 0, 1) := by decide +kernel
theorem dX9_eclipse_71 : decode cX9_eclipse 71 = .ok (.getfield 55, 3) := by decide +kernel
theorem dX9_eclipse_74 : decode cX9_eclipse 74 = .ok (.aload_n 0, 1) := by decide +kernel
theorem dX9_eclipse_75 : decode cX9_eclipse 75 = .ok (.getfield 226, 3) := by decide +kernel
theorem dX9_eclipse_78 : decode cX9_eclipse 78 = .ok (.iload_n 1, 1) := by decide +kernel
theorem dX9_eclipse_79 : decode cX9_eclipse 79 = .ok (.iastore, 1) := by decide +kernel
theorem dX9_eclipse_80 : decode cX9_eclipse 80 = .ok (.aload_n 0, 1) := by decide +kernel
theorem dX9_eclipse_81 : decode cX9_eclipse 81 = .ok (.dup, 1) := by decide +kernel
theorem dX9_eclipse_82 : decode cX9_eclipse 82 = .ok (.getfield 226, 3) := by decide +kernel
theorem dX9_eclipse_85 : decode cX9_eclipse 85 = .ok (.iconst 1, 1) := by decide +kernel
theorem dX9_eclipse_86 : decode cX9_eclipse 86 = .ok (.iadd, 1) := by decide +kernel
theorem dX9_eclipse_87 : decode cX9_eclipse 87 = .ok (.putfield 226, 3) := by decide +kernel
theorem dX9_eclipse_90 : decode cX9_eclipse 90 = .ok (.aload_n 0, 1) := by decide +kernel
theorem dX9_eclipse_91 : decode cX9_eclipse 91 = .ok (.getfield 226, 3) := by decide +kernel
theorem dX9_eclipse_94 : decode cX9_eclipse 94 = .ok (.ireturn, 1) := by decide +kernel
set_option maxRecDepth 20000 in
theorem ggX9_names_X9_isStone : GoodIn wsX9_names wsX9_isStone := goodIn_r _ [7, 8, 9, 14, 15, 16, 17, 18, 19, 20, 21, 22, 23, 24, 25, 26, 27, 28, 29, 30, 31, 32, 33, 34, 35, 36, 37, 38, 39, 40, 41, 42, 43, 44, 45, 46] (by decide +kernel) (by decide +kernel)
set_option maxRecDepth 20000 in
theorem gX9_names_X9_isStone : GoodIn wsX9_names (wsV RX9 187 RX9 yX9_isStone wsX9_isStone) := goodIn_app (goodIn_of _ (by decide +kernel)) ggX9_names_X9_isStone
set_option maxRecDepth 20000 in
theorem ggX9_names_X9_bad : GoodIn wsX9_names wsX9_bad := goodIn_r _ [13, 9, 14, 15, 16, 17, 18, 19, 20, 21, 22, 23, 24, 25, 26, 27, 28, 29, 30, 31, 32, 33, 34, 35, 36, 37, 38, 39, 40, 41, 42, 43, 44, 45, 46] (by decide +kernel) (by decide +kernel)
set_option maxRecDepth 20000 in
theorem gX9_names_X9_bad : GoodIn wsX9_names (wsV RX9 65 RX9 yX9_bad wsX9_bad) := goodIn_app (goodIn_of _ (by decide +kernel)) ggX9_names_X9_bad
theorem dX9_names_0 : decode cX9_names 0 = .ok (.aload_n 0, 1) := by decide +kernel
theorem dX9_names_1 : decode cX9_names 1 = .ok (.iload_n 1, 1) := by decide +kernel
theorem dX9_names_2 : decode cX9_names 2 = .ok (.invokevirtual 187, 3) := by decide +kernel
theorem dX9_names_5 : decode cX9_names 5 = .ok (.ifCond .eq 26, 3) := by decide +kernel
theorem dX9_names_8 : decode cX9_names 8 = .ok (.aload_n 0, 1) := by decide +kernel
theorem dX9_names_9 : decode cX9_names 9 = .ok (.aload_n 0, 1) := by decide +kernel
theorem dX9_names_10 : decode cX9_names 10 = .ok (.getfield 27, 3) := by decide +kernel
theorem dX9_names_13 : decode cX9_names 13 = .ok (.iload_n 1, 1) := by decide +kernel
theorem dX9_names_14 : decode cX9_names 14 = .ok (.iaload, 1) := by decide +kernel
theorem dX9_names_15 : decode cX9_names 15 = .ok (.iconst 1, 1) := by decide +kernel
theorem dX9_names_16 : decode cX9_names 16 = .ok (.if_icmp .eq 7, 3) := by decide +kernel
theorem dX9_names_19 : decode cX9_names 19 = .ok (.iconst 1, 1) := by decide +kernel
theorem dX9_names_20 : decode cX9_names 20 = .ok (.goto 4, 3) := by decide +kernel
theorem dX9_names_23 : decode cX9_names 23 = .ok (.iconst 0, 1) := by decide +kernel
theorem dX9_names_24 : decode cX9_names 24 = .ok (.iconst 2, 1) := by decide +kernel
theorem dX9_names_25 : decode cX9_names 25 = .ok (.invokevirtual 65, 3) := by decide +kernel
theorem dX9_names_28 : decode cX9_names 28 = .ok (.ifCond .eq 5, 3) := by decide +kernel
theorem dX9_names_31 : decode cX9_names 31 = .ok (.iconst 0, 1) := by decide +kernel
theorem dX9_names_32 : decode cX9_names 32 = .ok (.ireturn, 1) := by decide +kernel
theorem dX9_names_33 : decode cX9_names 33 = .ok (.aload_n 0, 1) := by decide +kernel
theorem dX9_names_34 : decode cX9_names 34 = .ok (.getfield 58, 3) := by decide +kernel
theorem dX9_names_37 : decode cX9_names 37 = .ok (.iload_n 1, 1) := by decide +kernel
theorem dX9_names_38 : decode cX9_names 38 = .ok (.baload, 1) := by decide +kernel
theorem dX9_names_39 : decode cX9_names 39 = .ok (.istore_n 3, 1) := by decide +kernel
theorem dX9_names_40 : decode cX9_names 40 = .ok (.aload_n 0, 1) := by decide +kernel
theorem dX9_names_41 : decode cX9_names 41 = .ok (.getfield 58, 3) := by decide +kernel
theorem dX9_names_44 : decode cX9_names 44 = .ok (.iload_n 1, 1) := by decide +kernel
theorem dX9_names_45 : decode cX9_names 45 = .ok (.iload_n 2, 1) := by decide +kernel
theorem dX9_names_46 : decode cX9_names 46 = .ok (.bastore, 1) := by decide +kernel
theorem dX9_names_47 : decode cX9_names 47 = .ok (.iload_n 3, 1) := by decide +kernel
theorem dX9_names_48 : decode cX9_names 48 = .ok (.ireturn, 1) := by decide +kernel
theorem dX9_named_0 : decode cX9_named 0 = .ok (.iconst 0, 1) := by decide +kernel
theorem dX9_named_1 : decode cX9_named 1 = .ok (.istore_n 1, 1) := by decide +kernel
theorem dX9_named_2 : decode cX9_named 2 = .ok (.iconst 0, 1) := by decide +kernel
theorem dX9_named_3 : decode cX9_named 3 = .ok (.istore_n 2, 1) := by decide +kernel
theorem dX9_named_4 : decode cX9_named 4 = .ok (.iload_n 2, 1) := by decide +kernel
theorem dX9_named_5 : decode cX9_named 5 = .ok (.aload_n 0, 1) := by decide +kernel
theorem dX9_named_6 : decode cX9_named 6 = .ok (.getfield 163, 3) := by decide +kernel
theorem dX9_named_9 : decode cX9_named 9 = .ok (.if_icmp .ge 26, 3) := by decide +kernel
theorem dX9_named_12 : decode cX9_named 12 = .ok (.iload_n 1, 1) := by decide +kernel
theorem dX9_named_13 : decode cX9_named 13 = .ok (.aload_n 0, 1) := by decide +kernel
theorem dX9_named_14 : decode cX9_named 14 = .ok (.getfield 58, 3) := by decide +kernel
theorem dX9_named_17 : decode cX9_named 17 = .ok (.iload_n 2, 1) := by decide +kernel
theorem dX9_named_18 : decode cX9_named 18 = .ok (.baload, 1) := by decide +kernel
theorem dX9_named_19 : decode cX9_named 19 = .ok (.ifCond .eq 7, 3) := by decide +kernel
theorem dX9_named_22 : decode cX9_named 22 = .ok (.iconst 1, 1) := by decide +kernel
theorem dX9_named_23 : decode cX9_named 23 = .ok (.goto 4, 3) := by decide +kernel
theorem dX9_named_26 : decode cX9_named 26 = .ok (.iconst 0, 1) := by decide +kernel
theorem dX9_named_27 : decode cX9_named 27 = .ok (.iadd, 1) := by decide +kernel
theorem dX9_named_28 : decode cX9_named 28 = .ok (.istore_n 1, 1) := by decide +kernel
theorem dX9_named_29 : decode cX9_named 29 = .ok (.iinc 2 1, 3) := by decide +kernel
theorem dX9_named_32 : decode cX9_named 32 = .ok (.goto (-28), 3) := by decide +kernel
theorem dX9_named_35 : decode cX9_named 35 = .ok (.iload_n 1, 1) := by decide +kernel
theorem dX9_named_36 : decode cX9_named 36 = .ok (.ireturn, 1) := by decide +kernel
theorem dX9_tries_0 : decode cX9_tries 0 = .ok (.iconst 0, 1) := by decide +kernel
theorem dX9_tries_1 : decode cX9_tries 1 = .ok (.istore_n 3, 1) := by decide +kernel
theorem dX9_tries_2 : decode cX9_tries 2 = .ok (.lconst 0, 1) := by decide +kernel
theorem dX9_tries_3 : decode cX9_tries 3 = .ok (.lstore 4, 2) := by decide +kernel
theorem dX9_tries_5 : decode cX9_tries 5 = .ok (.iconst 0, 1) := by decide +kernel
theorem dX9_tries_6 : decode cX9_tries 6 = .ok (.istore 6, 2) := by decide +kernel
theorem dX9_tries_8 : decode cX9_tries 8 = .ok (.iload 6, 2) := by decide +kernel
theorem dX9_tries_10 : decode cX9_tries 10 = .ok (.aload_n 0, 1) := by decide +kernel
theorem dX9_tries_11 : decode cX9_tries 11 = .ok (.getfield 163, 3) := by decide +kernel
theorem dX9_tries_14 : decode cX9_tries 14 = .ok (.if_icmp .ge 132, 3) := by decide +kernel
theorem dX9_tries_17 : decode cX9_tries 17 = .ok (.aload_n 0, 1) := by decide +kernel
theorem dX9_tries_18 : decode cX9_tries 18 = .ok (.getfield 58, 3) := by decide +kernel
theorem dX9_tries_21 : decode cX9_tries 21 = .ok (.iload 6, 2) := by decide +kernel
theorem dX9_tries_23 : decode cX9_tries 23 = .ok (.baload, 1) := by decide +kernel
theorem dX9_tries_24 : decode cX9_tries 24 = .ok (.ifCond .ne 6, 3) := by decide +kernel
theorem dX9_tries_27 : decode cX9_tries 27 = .ok (.goto 113, 3) := by decide +kernel
theorem dX9_tries_30 : decode cX9_tries 30 = .ok (.aload_n 0, 1) := by decide +kernel
theorem dX9_tries_31 : decode cX9_tries 31 = .ok (.getfield 30, 3) := by decide +kernel
theorem dX9_tries_34 : decode cX9_tries 34 = .ok (.sipush 300, 3) := by decide +kernel
theorem dX9_tries_37 : decode cX9_tries 37 = .ok (.iload 6, 2) := by decide +kernel
theorem dX9_tries_39 : decode cX9_tries 39 = .ok (.imul, 1) := by decide +kernel
theorem dX9_tries_40 : decode cX9_tries 40 = .ok (.iaload, 1) := by decide +kernel
theorem dX9_tries_41 : decode cX9_tries 41 = .ok (.iload_n 1, 1) := by decide +kernel
theorem dX9_tries_42 : decode cX9_tries 42 = .ok (.iadd, 1) := by decide +kernel
theorem dX9_tries_43 : decode cX9_tries 43 = .ok (.istore 7, 2) := by decide +kernel
theorem dX9_tries_45 : decode cX9_tries 45 = .ok (.ldc 231, 2) := by decide +kernel
theorem dX9_tries_47 : decode cX9_tries 47 = .ok (.istore 8, 2) := by decide +kernel
theorem dX9_tries_49 : decode cX9_tries 49 = .ok (.iconst 0, 1) := by decide +kernel
theorem dX9_tries_50 : decode cX9_tries 50 = .ok (.istore 9, 2) := by decide +kernel
theorem dX9_tries_52 : decode cX9_tries 52 = .ok (.iload 9, 2) := by decide +kernel
theorem dX9_tries_54 : decode cX9_tries 54 = .ok (.aload_n 0, 1) := by decide +kernel
theorem dX9_tries_55 : decode cX9_tries 55 = .ok (.getfield 226, 3) := by decide +kernel
theorem dX9_tries_58 : decode cX9_tries 58 = .ok (.if_icmp .ge 62, 3) := by decide +kernel
theorem dX9_tries_61 : decode cX9_tries 61 = .ok (.iload 7, 2) := by decide +kernel
theorem dX9_tries_63 : decode cX9_tries 63 = .ok (.aload_n 0, 1) := by decide +kernel
theorem dX9_tries_64 : decode cX9_tries 64 = .ok (.getfield 55, 3) := by decide +kernel
theorem dX9_tries_67 : decode cX9_tries 67 = .ok (.iload 9, 2) := by decide +kernel
theorem dX9_tries_69 : decode cX9_tries 69 = .ok (.iaload, 1) := by decide +kernel
theorem dX9_tries_70 : decode cX9_tries 70 = .ok (.if_icmp .ge 16, 3) := by decide +kernel
theorem dX9_tries_73 : decode cX9_tries 73 = .ok (.aload_n 0, 1) := by decide +kernel
theorem dX9_tries_74 : decode cX9_tries 74 = .ok (.getfield 55, 3) := by decide +kernel
theorem dX9_tries_77 : decode cX9_tries 77 = .ok (.iload 9, 2) := by decide +kernel
theorem dX9_tries_79 : decode cX9_tries 79 = .ok (.iaload, 1) := by decide +kernel
theorem dX9_tries_80 : decode cX9_tries 80 = .ok (.iload 7, 2) := by decide +kernel
theorem dX9_tries_82 : decode cX9_tries 82 = .ok (.isub, 1) := by decide +kernel
theorem dX9_tries_83 : decode cX9_tries 83 = .ok (.goto 13, 3) := by decide +kernel
theorem dX9_tries_86 : decode cX9_tries 86 = .ok (.iload 7, 2) := by decide +kernel
theorem dX9_tries_88 : decode cX9_tries 88 = .ok (.aload_n 0, 1) := by decide +kernel
theorem dX9_tries_89 : decode cX9_tries 89 = .ok (.getfield 55, 3) := by decide +kernel
theorem dX9_tries_92 : decode cX9_tries 92 = .ok (.iload 9, 2) := by decide +kernel
theorem dX9_tries_94 : decode cX9_tries 94 = .ok (.iaload, 1) := by decide +kernel
theorem dX9_tries_95 : decode cX9_tries 95 = .ok (.isub, 1) := by decide +kernel
theorem dX9_tries_96 : decode cX9_tries 96 = .ok (.istore 10, 2) := by decide +kernel
theorem dX9_tries_98 : decode cX9_tries 98 = .ok (.iload 10, 2) := by decide +kernel
theorem dX9_tries_100 : decode cX9_tries 100 = .ok (.iload 8, 2) := by decide +kernel
theorem dX9_tries_102 : decode cX9_tries 102 = .ok (.if_icmp .ge 8, 3) := by decide +kernel
theorem dX9_tries_105 : decode cX9_tries 105 = .ok (.iload 10, 2) := by decide +kernel
theorem dX9_tries_107 : decode cX9_tries 107 = .ok (.goto 5, 3) := by decide +kernel
theorem dX9_tries_110 : decode cX9_tries 110 = .ok (.iload 8, 2) := by decide +kernel
theorem dX9_tries_112 : decode cX9_tries 112 = .ok (.istore 8, 2) := by decide +kernel
theorem dX9_tries_114 : decode cX9_tries 114 = .ok (.iinc 9 1, 3) := by decide +kernel
theorem dX9_tries_117 : decode cX9_tries 117 = .ok (.goto (-65), 3) := by decide +kernel
theorem dX9_tries_120 : decode cX9_tries 120 = .ok (.iload 8, 2) := by decide +kernel
theorem dX9_tries_122 : decode cX9_tries 122 = .ok (.iload_n 2, 1) := by decide +kernel
theorem dX9_tries_123 : decode cX9_tries 123 = .ok (.if_icmp .le 6, 3) := by decide +kernel
theorem dX9_tries_126 : decode cX9_tries 126 = .ok (.goto 14, 3) := by decide +kernel
theorem dX9_tries_129 : decode cX9_tries 129 = .ok (.iinc 3 1, 3) := by decide +kernel
theorem dX9_tries_132 : decode cX9_tries 132 = .ok (.lload 4, 2) := by decide +kernel
theorem dX9_tries_134 : decode cX9_tries 134 = .ok (.iload 8, 2) := by decide +kernel
theorem dX9_tries_136 : decode cX9_tries 136 = .ok (.i2l, 1) := by decide +kernel
theorem dX9_tries_137 : decode cX9_tries 137 = .ok (.ladd, 1) := by decide +kernel
theorem dX9_tries_138 : decode cX9_tries 138 = .ok (.lstore 4, 2) := by decide +kernel
theorem dX9_tries_140 : decode cX9_tries 140 = .ok (.iinc 6 1, 3) := by decide +kernel
theorem dX9_tries_143 : decode cX9_tries 143 = .ok (.goto (-135), 3) := by decide +kernel
theorem dX9_tries_146 : decode cX9_tries 146 = .ok (.iload_n 3, 1) := by decide +kernel
theorem dX9_tries_147 : decode cX9_tries 147 = .ok (.aload_n 0, 1) := by decide +kernel
theorem dX9_tries_148 : decode cX9_tries 148 = .ok (.getfield 232, 3) := by decide +kernel
theorem dX9_tries_151 : decode cX9_tries 151 = .ok (.if_icmp .gt 39, 3) := by decide +kernel
theorem dX9_tries_154 : decode cX9_tries 154 = .ok (.iload_n 3, 1) := by decide +kernel
theorem dX9_tries_155 : decode cX9_tries 155 = .ok (.aload_n 0, 1) := by decide +kernel
theorem dX9_tries_156 : decode cX9_tries 156 = .ok (.getfield 232, 3) := by decide +kernel
theorem dX9_tries_159 : decode cX9_tries 159 = .ok (.if_icmp .ne 35, 3) := by decide +kernel
theorem dX9_tries_162 : decode cX9_tries 162 = .ok (.lload 4, 2) := by decide +kernel
theorem dX9_tries_164 : decode cX9_tries 164 = .ok (.aload_n 0, 1) := by decide +kernel
theorem dX9_tries_165 : decode cX9_tries 165 = .ok (.getfield 235, 3) := by decide +kernel
theorem dX9_tries_168 : decode cX9_tries 168 = .ok (.lcmp, 1) := by decide +kernel
theorem dX9_tries_169 : decode cX9_tries 169 = .ok (.ifCond .lt 21, 3) := by decide +kernel
theorem dX9_tries_172 : decode cX9_tries 172 = .ok (.lload 4, 2) := by decide +kernel
theorem dX9_tries_174 : decode cX9_tries 174 = .ok (.aload_n 0, 1) := by decide +kernel
theorem dX9_tries_175 : decode cX9_tries 175 = .ok (.getfield 235, 3) := by decide +kernel
theorem dX9_tries_178 : decode cX9_tries 178 = .ok (.lcmp, 1) := by decide +kernel
theorem dX9_tries_179 : decode cX9_tries 179 = .ok (.ifCond .ne 15, 3) := by decide +kernel
theorem dX9_tries_182 : decode cX9_tries 182 = .ok (.iload_n 1, 1) := by decide +kernel
theorem dX9_tries_183 : decode cX9_tries 183 = .ok (.aload_n 0, 1) := by decide +kernel
theorem dX9_tries_184 : decode cX9_tries 184 = .ok (.getfield 238, 3) := by decide +kernel
theorem dX9_tries_187 : decode cX9_tries 187 = .ok (.if_icmp .ge 7, 3) := by decide +kernel
theorem dX9_tries_190 : decode cX9_tries 190 = .ok (.iconst 1, 1) := by decide +kernel
theorem dX9_tries_191 : decode cX9_tries 191 = .ok (.goto 4, 3) := by decide +kernel
theorem dX9_tries_194 : decode cX9_tries 194 = .ok (.iconst 0, 1) := by decide +kernel
theorem dX9_tries_195 : decode cX9_tries 195 = .ok (.istore 6, 2) := by decide +kernel
theorem dX9_tries_197 : decode cX9_tries 197 = .ok (.iload 6, 2) := by decide +kernel
theorem dX9_tries_199 : decode cX9_tries 199 = .ok (.ifCond .ne 4, 3) := by decide +kernel
theorem dX9_tries_202 : decode cX9_tries 202 = .ok (.return_, 1) := by decide +kernel
theorem dX9_tries_203 : decode cX9_tries 203 = .ok (.aload_n 0, 1) := by decide +kernel
theorem dX9_tries_204 : decode cX9_tries 204 = .ok (.iload_n 3, 1) := by decide +kernel
theorem dX9_tries_205 : decode cX9_tries 205 = .ok (.putfield 232, 3) := by decide +kernel
theorem dX9_tries_208 : decode cX9_tries 208 = .ok (.aload_n 0, 1) := by decide +kernel
theorem dX9_tries_209 : decode cX9_tries 209 = .ok (.lload 4, 2) := by decide +kernel
theorem dX9_tries_211 : decode cX9_tries 211 = .ok (.putfield 235, 3) := by decide +kernel
theorem dX9_tries_214 : decode cX9_tries 214 = .ok (.aload_n 0, 1) := by decide +kernel
theorem dX9_tries_215 : decode cX9_tries 215 = .ok (.iload_n 1, 1) := by decide +kernel
theorem dX9_tries_216 : decode cX9_tries 216 = .ok (.putfield 238, 3) := by decide +kernel
theorem dX9_tries_219 : decode cX9_tries 219 = .ok (.return_, 1) := by decide +kernel
set_option maxRecDepth 20000 in
theorem ggX9_starts_X9_tries : GoodIn wsX9_starts wsX9_tries := goodIn_r _ [14, 5, 6, 9, 3, 7, 8, 1, 2, 4, 15, 16, 17, 18, 19, 20, 21, 22, 23, 24, 25, 26, 27, 28, 29, 30, 31, 32, 33, 34, 35, 36, 37, 38, 39, 40, 41, 42, 43, 44, 45, 46, 47] (by decide +kernel) (by decide +kernel)
set_option maxRecDepth 20000 in
theorem gX9_starts_X9_tries : GoodIn wsX9_starts (wsV RX9 241 RX9 yX9_tries wsX9_tries) := goodIn_app (goodIn_of _ (by decide +kernel)) ggX9_starts_X9_tries
theorem dX9_starts_0 : decode cX9_starts 0 = .ok (.aload_n 0, 1) := by decide +kernel
theorem dX9_starts_1 : decode cX9_starts 1 = .ok (.iconst 0, 1) := by decide +kernel
theorem dX9_starts_2 : decode cX9_starts 2 = .ok (.putfield 232, 3) := by decide +kernel
theorem dX9_starts_5 : decode cX9_starts 5 = .ok (.aload_n 0, 1) := by decide +kernel
theorem dX9_starts_6 : decode cX9_starts 6 = .ok (.lconst 0, 1) := by decide +kernel
theorem dX9_starts_7 : decode cX9_starts 7 = .ok (.putfield 235, 3) := by decide +kernel
theorem dX9_starts_10 : decode cX9_starts 10 = .ok (.aload_n 0, 1) := by decide +kernel
theorem dX9_starts_11 : decode cX9_starts 11 = .ok (.ldc 231, 2) := by decide +kernel
theorem dX9_starts_13 : decode cX9_starts 13 = .ok (.putfield 238, 3) := by decide +kernel
theorem dX9_starts_16 : decode cX9_starts 16 = .ok (.iconst 0, 1) := by decide +kernel
theorem dX9_starts_17 : decode cX9_starts 17 = .ok (.istore_n 2, 1) := by decide +kernel
theorem dX9_starts_18 : decode cX9_starts 18 = .ok (.iload_n 2, 1) := by decide +kernel
theorem dX9_starts_19 : decode cX9_starts 19 = .ok (.aload_n 0, 1) := by decide +kernel
theorem dX9_starts_20 : decode cX9_starts 20 = .ok (.getfield 163, 3) := by decide +kernel
theorem dX9_starts_23 : decode cX9_starts 23 = .ok (.if_icmp .ge 92, 3) := by decide +kernel
theorem dX9_starts_26 : decode cX9_starts 26 = .ok (.aload_n 0, 1) := by decide +kernel
theorem dX9_starts_27 : decode cX9_starts 27 = .ok (.getfield 58, 3) := by decide +kernel
theorem dX9_starts_30 : decode cX9_starts 30 = .ok (.iload_n 2, 1) := by decide +kernel
theorem dX9_starts_31 : decode cX9_starts 31 = .ok (.baload, 1) := by decide +kernel
theorem dX9_starts_32 : decode cX9_starts 32 = .ok (.ifCond .ne 6, 3) := by decide +kernel
theorem dX9_starts_35 : decode cX9_starts 35 = .ok (.goto 74, 3) := by decide +kernel
theorem dX9_starts_38 : decode cX9_starts 38 = .ok (.iconst 0, 1) := by decide +kernel
theorem dX9_starts_39 : decode cX9_starts 39 = .ok (.istore_n 3, 1) := by decide +kernel
theorem dX9_starts_40 : decode cX9_starts 40 = .ok (.iload_n 3, 1) := by decide +kernel
theorem dX9_starts_41 : decode cX9_starts 41 = .ok (.aload_n 0, 1) := by decide +kernel
theorem dX9_starts_42 : decode cX9_starts 42 = .ok (.getfield 226, 3) := by decide +kernel
theorem dX9_starts_45 : decode cX9_starts 45 = .ok (.if_icmp .ge 64, 3) := by decide +kernel
theorem dX9_starts_48 : decode cX9_starts 48 = .ok (.aload_n 0, 1) := by decide +kernel
theorem dX9_starts_49 : decode cX9_starts 49 = .ok (.getfield 55, 3) := by decide +kernel
theorem dX9_starts_52 : decode cX9_starts 52 = .ok (.iload_n 3, 1) := by decide +kernel
theorem dX9_starts_53 : decode cX9_starts 53 = .ok (.iaload, 1) := by decide +kernel
theorem dX9_starts_54 : decode cX9_starts 54 = .ok (.aload_n 0, 1) := by decide +kernel
theorem dX9_starts_55 : decode cX9_starts 55 = .ok (.getfield 30, 3) := by decide +kernel
theorem dX9_starts_58 : decode cX9_starts 58 = .ok (.sipush 300, 3) := by decide +kernel
theorem dX9_starts_61 : decode cX9_starts 61 = .ok (.iload_n 2, 1) := by decide +kernel
theorem dX9_starts_62 : decode cX9_starts 62 = .ok (.imul, 1) := by decide +kernel
theorem dX9_starts_63 : decode cX9_starts 63 = .ok (.iaload, 1) := by decide +kernel
theorem dX9_starts_64 : decode cX9_starts 64 = .ok (.isub, 1) := by decide +kernel
theorem dX9_starts_65 : decode cX9_starts 65 = .ok (.istore 4, 2) := by decide +kernel
theorem dX9_starts_67 : decode cX9_starts 67 = .ok (.aload_n 0, 1) := by decide +kernel
theorem dX9_starts_68 : decode cX9_starts 68 = .ok (.iload 4, 2) := by decide +kernel
theorem dX9_starts_70 : decode cX9_starts 70 = .ok (.iload_n 1, 1) := by decide +kernel
theorem dX9_starts_71 : decode cX9_starts 71 = .ok (.invokevirtual 241, 3) := by decide +kernel
theorem dX9_starts_74 : decode cX9_starts 74 = .ok (.aload_n 0, 1) := by decide +kernel
theorem dX9_starts_75 : decode cX9_starts 75 = .ok (.iload 4, 2) := by decide +kernel
theorem dX9_starts_77 : decode cX9_starts 77 = .ok (.iload_n 1, 1) := by decide +kernel
theorem dX9_starts_78 : decode cX9_starts 78 = .ok (.isub, 1) := by decide +kernel
theorem dX9_starts_79 : decode cX9_starts 79 = .ok (.iload_n 1, 1) := by decide +kernel
theorem dX9_starts_80 : decode cX9_starts 80 = .ok (.invokevirtual 241, 3) := by decide +kernel
theorem dX9_starts_83 : decode cX9_starts 83 = .ok (.aload_n 0, 1) := by decide +kernel
theorem dX9_starts_84 : decode cX9_starts 84 = .ok (.iload 4, 2) := by decide +kernel
theorem dX9_starts_86 : decode cX9_starts 86 = .ok (.iload_n 1, 1) := by decide +kernel
theorem dX9_starts_87 : decode cX9_starts 87 = .ok (.iadd, 1) := by decide +kernel
theorem dX9_starts_88 : decode cX9_starts 88 = .ok (.iload_n 1, 1) := by decide +kernel
theorem dX9_starts_89 : decode cX9_starts 89 = .ok (.invokevirtual 241, 3) := by decide +kernel
theorem dX9_starts_92 : decode cX9_starts 92 = .ok (.aload_n 0, 1) := by decide +kernel
theorem dX9_starts_93 : decode cX9_starts 93 = .ok (.iload 4, 2) := by decide +kernel
theorem dX9_starts_95 : decode cX9_starts 95 = .ok (.iload_n 1, 1) := by decide +kernel
theorem dX9_starts_96 : decode cX9_starts 96 = .ok (.iadd, 1) := by decide +kernel
theorem dX9_starts_97 : decode cX9_starts 97 = .ok (.iconst 1, 1) := by decide +kernel
theorem dX9_starts_98 : decode cX9_starts 98 = .ok (.iadd, 1) := by decide +kernel
theorem dX9_starts_99 : decode cX9_starts 99 = .ok (.iload_n 1, 1) := by decide +kernel
theorem dX9_starts_100 : decode cX9_starts 100 = .ok (.invokevirtual 241, 3) := by decide +kernel
theorem dX9_starts_103 : decode cX9_starts 103 = .ok (.iinc 3 1, 3) := by decide +kernel
theorem dX9_starts_106 : decode cX9_starts 106 = .ok (.goto (-66), 3) := by decide +kernel
theorem dX9_starts_109 : decode cX9_starts 109 = .ok (.iinc 2 1, 3) := by decide +kernel
theorem dX9_starts_112 : decode cX9_starts 112 = .ok (.goto (-94), 3) := by decide +kernel
theorem dX9_starts_115 : decode cX9_starts 115 = .ok (.return_, 1) := by decide +kernel
set_option maxRecDepth 20000 in
theorem ggX9_isAsked_X9_bad : GoodIn wsX9_isAsked wsX9_bad := goodIn_r _ [7, 1, 14, 15, 16, 17, 18, 19, 20, 21, 22, 23, 24, 25, 26, 27, 28, 29, 30, 31, 32, 33, 34, 35, 36, 37, 38, 39, 40, 41, 42, 43, 44, 45, 46] (by decide +kernel) (by decide +kernel)
set_option maxRecDepth 20000 in
theorem gX9_isAsked_X9_bad : GoodIn wsX9_isAsked (wsV RX9 65 RX9 yX9_bad wsX9_bad) := goodIn_app (goodIn_of _ (by decide +kernel)) ggX9_isAsked_X9_bad
set_option maxRecDepth 20000 in
theorem ggX9_isAsked_X9_named : GoodIn wsX9_isAsked wsX9_named := goodIn_r _ [11, 12, 13, 14, 15, 16, 17, 18, 19, 20, 21, 22, 23, 24, 25, 26, 27, 28, 29, 30, 31, 32, 33, 34, 35, 36, 37, 38, 39, 40, 41, 42, 43, 44, 45, 46] (by decide +kernel) (by decide +kernel)
set_option maxRecDepth 20000 in
theorem gX9_isAsked_X9_named : GoodIn wsX9_isAsked (wsV RX9 244 RX9 yX9_named wsX9_named) := goodIn_app (goodIn_of _ (by decide +kernel)) ggX9_isAsked_X9_named
theorem dX9_isAsked_0 : decode cX9_isAsked 0 = .ok (.aload_n 0, 1) := by decide +kernel
theorem dX9_isAsked_1 : decode cX9_isAsked 1 = .ok (.iconst 0, 1) := by decide +kernel
theorem dX9_isAsked_2 : decode cX9_isAsked 2 = .ok (.putfield 61, 3) := by decide +kernel
theorem dX9_isAsked_5 : decode cX9_isAsked 5 = .ok (.aload_n 0, 1) := by decide +kernel
theorem dX9_isAsked_6 : decode cX9_isAsked 6 = .ok (.iload_n 1, 1) := by decide +kernel
theorem dX9_isAsked_7 : decode cX9_isAsked 7 = .ok (.ifCond .lt 10, 3) := by decide +kernel
theorem dX9_isAsked_10 : decode cX9_isAsked 10 = .ok (.iload_n 1, 1) := by decide +kernel
theorem dX9_isAsked_11 : decode cX9_isAsked 11 = .ok (.sipush 1000, 3) := by decide +kernel
theorem dX9_isAsked_14 : decode cX9_isAsked 14 = .ok (.if_icmp .le 7, 3) := by decide +kernel
theorem dX9_isAsked_17 : decode cX9_isAsked 17 = .ok (.iconst 1, 1) := by decide +kernel
theorem dX9_isAsked_18 : decode cX9_isAsked 18 = .ok (.goto 4, 3) := by decide +kernel
theorem dX9_isAsked_21 : decode cX9_isAsked 21 = .ok (.iconst 0, 1) := by decide +kernel
theorem dX9_isAsked_22 : decode cX9_isAsked 22 = .ok (.iconst 1, 1) := by decide +kernel
theorem dX9_isAsked_23 : decode cX9_isAsked 23 = .ok (.invokevirtual 65, 3) := by decide +kernel
theorem dX9_isAsked_26 : decode cX9_isAsked 26 = .ok (.ifCond .ne 34, 3) := by decide +kernel
theorem dX9_isAsked_29 : decode cX9_isAsked 29 = .ok (.aload_n 0, 1) := by decide +kernel
theorem dX9_isAsked_30 : decode cX9_isAsked 30 = .ok (.aload_n 0, 1) := by decide +kernel
theorem dX9_isAsked_31 : decode cX9_isAsked 31 = .ok (.getfield 226, 3) := by decide +kernel
theorem dX9_isAsked_34 : decode cX9_isAsked 34 = .ok (.ifCond .eq 10, 3) := by decide +kernel
theorem dX9_isAsked_37 : decode cX9_isAsked 37 = .ok (.aload_n 0, 1) := by decide +kernel
theorem dX9_isAsked_38 : decode cX9_isAsked 38 = .ok (.invokevirtual 244, 3) := by decide +kernel
theorem dX9_isAsked_41 : decode cX9_isAsked 41 = .ok (.ifCond .ne 7, 3) := by decide +kernel
theorem dX9_isAsked_44 : decode cX9_isAsked 44 = .ok (.iconst 1, 1) := by decide +kernel
theorem dX9_isAsked_45 : decode cX9_isAsked 45 = .ok (.goto 4, 3) := by decide +kernel
theorem dX9_isAsked_48 : decode cX9_isAsked 48 = .ok (.iconst 0, 1) := by decide +kernel
theorem dX9_isAsked_49 : decode cX9_isAsked 49 = .ok (.iconst 2, 1) := by decide +kernel
theorem dX9_isAsked_50 : decode cX9_isAsked 50 = .ok (.invokevirtual 65, 3) := by decide +kernel
theorem dX9_isAsked_53 : decode cX9_isAsked 53 = .ok (.ifCond .ne 7, 3) := by decide +kernel
theorem dX9_isAsked_56 : decode cX9_isAsked 56 = .ok (.iconst 1, 1) := by decide +kernel
theorem dX9_isAsked_57 : decode cX9_isAsked 57 = .ok (.goto 4, 3) := by decide +kernel
theorem dX9_isAsked_60 : decode cX9_isAsked 60 = .ok (.iconst 0, 1) := by decide +kernel
theorem dX9_isAsked_61 : decode cX9_isAsked 61 = .ok (.ireturn, 1) := by decide +kernel
set_option maxRecDepth 20000 in
theorem ggX9_start_X9_isAsked : GoodIn wsX9_start wsX9_isAsked := goodIn_r _ [6, 7, 8, 9, 10, 11, 5, 12, 13, 14, 15, 16, 17, 18, 32, 33, 34, 35, 36, 37, 38, 39, 40, 41, 42, 43, 44, 45, 46, 47, 48, 49, 50, 51, 52, 53, 54, 55, 56, 57, 58, 59, 60, 61, 62, 63, 64] (by decide +kernel) (by decide +kernel)
set_option maxRecDepth 20000 in
theorem gX9_start_X9_isAsked : GoodIn wsX9_start (wsV RX9 247 RX9 yX9_isAsked wsX9_isAsked) := goodIn_app (goodIn_of _ (by decide +kernel)) ggX9_start_X9_isAsked
set_option maxRecDepth 20000 in
theorem ggX9_start_X9_starts : GoodIn wsX9_start wsX9_starts := goodIn_r _ [22, 23, 24, 25, 1, 17, 18, 8, 26, 27, 28, 29, 30, 5, 31, 32, 33, 34, 35, 36, 37, 38, 39, 40, 41, 42, 43, 44, 45, 46, 47, 48, 49, 50, 51, 52, 53, 54, 55, 56, 57, 58, 59, 60, 61, 62, 63, 64] (by decide +kernel) (by decide +kernel)
set_option maxRecDepth 20000 in
theorem gX9_start_X9_starts : GoodIn wsX9_start (wsV RX9 250 RX9 yX9_starts wsX9_starts) := goodIn_app (goodIn_of _ (by decide +kernel)) ggX9_start_X9_starts
theorem dX9_start_0 : decode cX9_start 0 = .ok (.aload_n 0, 1) := by decide +kernel
theorem dX9_start_1 : decode cX9_start 1 = .ok (.iload_n 1, 1) := by decide +kernel
theorem dX9_start_2 : decode cX9_start 2 = .ok (.invokevirtual 247, 3) := by decide +kernel
theorem dX9_start_5 : decode cX9_start 5 = .ok (.ifCond .ne 5, 3) := by decide +kernel
theorem dX9_start_8 : decode cX9_start 8 = .ok (.iconst 0, 1) := by decide +kernel
theorem dX9_start_9 : decode cX9_start 9 = .ok (.ireturn, 1) := by decide +kernel
theorem dX9_start_10 : decode cX9_start 10 = .ok (.aload_n 0, 1) := by decide +kernel
theorem dX9_start_11 : decode cX9_start 11 = .ok (.iload_n 1, 1) := by decide +kernel
theorem dX9_start_12 : decode cX9_start 12 = .ok (.invokevirtual 250, 3) := by decide +kernel
theorem dX9_start_15 : decode cX9_start 15 = .ok (.aload_n 0, 1) := by decide +kernel
theorem dX9_start_16 : decode cX9_start 16 = .ok (.getfield 238, 3) := by decide +kernel
theorem dX9_start_19 : decode cX9_start 19 = .ok (.ireturn, 1) := by decide +kernel
set_option maxRecDepth 20000 in
theorem ggX9_agrees_X9_isAsked : GoodIn wsX9_agrees wsX9_isAsked := goodIn_r _ [6, 7, 8, 9, 10, 11, 5, 12, 13, 14, 15, 16, 17, 18, 32, 33, 34, 35, 36, 37, 38, 39, 40, 41, 42, 43, 44, 45, 46, 47, 48, 49, 50, 51, 52, 53, 54, 55, 56, 57, 58, 59, 60, 61, 62, 63, 64] (by decide +kernel) (by decide +kernel)
set_option maxRecDepth 20000 in
theorem gX9_agrees_X9_isAsked : GoodIn wsX9_agrees (wsV RX9 247 RX9 yX9_isAsked wsX9_isAsked) := goodIn_app (goodIn_of _ (by decide +kernel)) ggX9_agrees_X9_isAsked
set_option maxRecDepth 20000 in
theorem ggX9_agrees_X9_starts : GoodIn wsX9_agrees wsX9_starts := goodIn_r _ [22, 1, 23, 24, 25, 17, 18, 8, 26, 27, 28, 29, 30, 5, 31, 32, 33, 34, 35, 36, 37, 38, 39, 40, 41, 42, 43, 44, 45, 46, 47, 48, 49, 50, 51, 52, 53, 54, 55, 56, 57, 58, 59, 60, 61, 62, 63, 64] (by decide +kernel) (by decide +kernel)
set_option maxRecDepth 20000 in
theorem gX9_agrees_X9_starts : GoodIn wsX9_agrees (wsV RX9 250 RX9 yX9_starts wsX9_starts) := goodIn_app (goodIn_of _ (by decide +kernel)) ggX9_agrees_X9_starts
theorem dX9_agrees_0 : decode cX9_agrees 0 = .ok (.aload_n 0, 1) := by decide +kernel
theorem dX9_agrees_1 : decode cX9_agrees 1 = .ok (.iload_n 1, 1) := by decide +kernel
theorem dX9_agrees_2 : decode cX9_agrees 2 = .ok (.invokevirtual 247, 3) := by decide +kernel
theorem dX9_agrees_5 : decode cX9_agrees 5 = .ok (.ifCond .ne 5, 3) := by decide +kernel
theorem dX9_agrees_8 : decode cX9_agrees 8 = .ok (.iconst 0, 1) := by decide +kernel
theorem dX9_agrees_9 : decode cX9_agrees 9 = .ok (.ireturn, 1) := by decide +kernel
theorem dX9_agrees_10 : decode cX9_agrees 10 = .ok (.aload_n 0, 1) := by decide +kernel
theorem dX9_agrees_11 : decode cX9_agrees 11 = .ok (.iload_n 1, 1) := by decide +kernel
theorem dX9_agrees_12 : decode cX9_agrees 12 = .ok (.invokevirtual 250, 3) := by decide +kernel
theorem dX9_agrees_15 : decode cX9_agrees 15 = .ok (.aload_n 0, 1) := by decide +kernel
theorem dX9_agrees_16 : decode cX9_agrees 16 = .ok (.getfield 232, 3) := by decide +kernel
theorem dX9_agrees_19 : decode cX9_agrees 19 = .ok (.ireturn, 1) := by decide +kernel
set_option maxRecDepth 20000 in
theorem ggX9_count_X9_named : GoodIn wsX9_count wsX9_named := goodIn_r _ [11, 3, 12, 18, 19, 20, 21, 22, 23, 24, 25, 26, 27, 28, 29, 30, 31, 32, 33, 34, 35, 36, 37, 38, 39, 40, 41, 42, 43, 44, 45, 46, 47, 48, 49, 50] (by decide +kernel) (by decide +kernel)
set_option maxRecDepth 20000 in
theorem gX9_count_X9_named : GoodIn wsX9_count (wsV RX9 244 RX9 yX9_named wsX9_named) := goodIn_app (goodIn_of _ (by decide +kernel)) ggX9_count_X9_named
set_option maxRecDepth 20000 in
theorem ggX9_count_X9_inNet : GoodIn wsX9_count wsX9_inNet := goodIn_r _ [16, 17, 18, 19, 20, 21, 22, 23, 24, 25, 26, 27, 28, 29, 30, 31, 32, 33, 34, 35, 36, 37, 38, 39, 40, 41, 42, 43, 44, 45, 46, 47, 48, 49, 50] (by decide +kernel) (by decide +kernel)
set_option maxRecDepth 20000 in
theorem gX9_count_X9_inNet : GoodIn wsX9_count (wsV RX9 201 RX9 yX9_inNet wsX9_inNet) := goodIn_app (goodIn_of _ (by decide +kernel)) ggX9_count_X9_inNet
theorem dX9_count_0 : decode cX9_count 0 = .ok (.aload_n 0, 1) := by decide +kernel
theorem dX9_count_1 : decode cX9_count 1 = .ok (.iconst 0, 1) := by decide +kernel
theorem dX9_count_2 : decode cX9_count 2 = .ok (.putfield 61, 3) := by decide +kernel
theorem dX9_count_5 : decode cX9_count 5 = .ok (.iconst 0, 1) := by decide +kernel
theorem dX9_count_6 : decode cX9_count 6 = .ok (.istore_n 2, 1) := by decide +kernel
theorem dX9_count_7 : decode cX9_count 7 = .ok (.iload_n 1, 1) := by decide +kernel
theorem dX9_count_8 : decode cX9_count 8 = .ok (.tableswitch 108 0 6 #[44, 49, 54, 59, 64, 69, 74], 44) := by decide +kernel
theorem dX9_count_52 : decode cX9_count 52 = .ok (.aload_n 0, 1) := by decide +kernel
theorem dX9_count_53 : decode cX9_count 53 = .ok (.getfield 69, 3) := by decide +kernel
theorem dX9_count_56 : decode cX9_count 56 = .ok (.ireturn, 1) := by decide +kernel
theorem dX9_count_57 : decode cX9_count 57 = .ok (.aload_n 0, 1) := by decide +kernel
theorem dX9_count_58 : decode cX9_count 58 = .ok (.getfield 163, 3) := by decide +kernel
theorem dX9_count_61 : decode cX9_count 61 = .ok (.ireturn, 1) := by decide +kernel
theorem dX9_count_62 : decode cX9_count 62 = .ok (.aload_n 0, 1) := by decide +kernel
theorem dX9_count_63 : decode cX9_count 63 = .ok (.getfield 192, 3) := by decide +kernel
theorem dX9_count_66 : decode cX9_count 66 = .ok (.ireturn, 1) := by decide +kernel
theorem dX9_count_67 : decode cX9_count 67 = .ok (.aload_n 0, 1) := by decide +kernel
theorem dX9_count_68 : decode cX9_count 68 = .ok (.getfield 226, 3) := by decide +kernel
theorem dX9_count_71 : decode cX9_count 71 = .ok (.ireturn, 1) := by decide +kernel
theorem dX9_count_72 : decode cX9_count 72 = .ok (.aload_n 0, 1) := by decide +kernel
theorem dX9_count_73 : decode cX9_count 73 = .ok (.invokevirtual 244, 3) := by decide +kernel
theorem dX9_count_76 : decode cX9_count 76 = .ok (.ireturn, 1) := by decide +kernel
theorem dX9_count_77 : decode cX9_count 77 = .ok (.aload_n 0, 1) := by decide +kernel
theorem dX9_count_78 : decode cX9_count 78 = .ok (.getfield 90, 3) := by decide +kernel
theorem dX9_count_81 : decode cX9_count 81 = .ok (.ireturn, 1) := by decide +kernel
theorem dX9_count_82 : decode cX9_count 82 = .ok (.iconst 0, 1) := by decide +kernel
theorem dX9_count_83 : decode cX9_count 83 = .ok (.istore_n 3, 1) := by decide +kernel
theorem dX9_count_84 : decode cX9_count 84 = .ok (.iload_n 3, 1) := by decide +kernel
theorem dX9_count_85 : decode cX9_count 85 = .ok (.aload_n 0, 1) := by decide +kernel
theorem dX9_count_86 : decode cX9_count 86 = .ok (.getfield 163, 3) := by decide +kernel
theorem dX9_count_89 : decode cX9_count 89 = .ok (.if_icmp .ge 25, 3) := by decide +kernel
theorem dX9_count_92 : decode cX9_count 92 = .ok (.iload_n 2, 1) := by decide +kernel
theorem dX9_count_93 : decode cX9_count 93 = .ok (.aload_n 0, 1) := by decide +kernel
theorem dX9_count_94 : decode cX9_count 94 = .ok (.iload_n 3, 1) := by decide +kernel
theorem dX9_count_95 : decode cX9_count 95 = .ok (.invokevirtual 201, 3) := by decide +kernel
theorem dX9_count_98 : decode cX9_count 98 = .ok (.ifCond .eq 7, 3) := by decide +kernel
theorem dX9_count_101 : decode cX9_count 101 = .ok (.iconst 1, 1) := by decide +kernel
theorem dX9_count_102 : decode cX9_count 102 = .ok (.goto 4, 3) := by decide +kernel
theorem dX9_count_105 : decode cX9_count 105 = .ok (.iconst 0, 1) := by decide +kernel
theorem dX9_count_106 : decode cX9_count 106 = .ok (.iadd, 1) := by decide +kernel
theorem dX9_count_107 : decode cX9_count 107 = .ok (.istore_n 2, 1) := by decide +kernel
theorem dX9_count_108 : decode cX9_count 108 = .ok (.iinc 3 1, 3) := by decide +kernel
theorem dX9_count_111 : decode cX9_count 111 = .ok (.goto (-27), 3) := by decide +kernel
theorem dX9_count_114 : decode cX9_count 114 = .ok (.iload_n 2, 1) := by decide +kernel
theorem dX9_count_115 : decode cX9_count 115 = .ok (.ireturn, 1) := by decide +kernel
theorem dX9_count_116 : decode cX9_count 116 = .ok (.iconst (-1), 1) := by decide +kernel
theorem dX9_count_117 : decode cX9_count 117 = .ok (.ireturn, 1) := by decide +kernel
theorem dJ6_bitCount_0f7a4_0 : decode cJ6_bitCount_0f7a4 0 = .ok (.iload_n 0, 1) := by decide +kernel
theorem dJ6_bitCount_0f7a4_1 : decode cJ6_bitCount_0f7a4 1 = .ok (.iload_n 0, 1) := by decide +kernel
theorem dJ6_bitCount_0f7a4_2 : decode cJ6_bitCount_0f7a4 2 = .ok (.iconst 1, 1) := by decide +kernel
theorem dJ6_bitCount_0f7a4_3 : decode cJ6_bitCount_0f7a4 3 = .ok (.iushr, 1) := by decide +kernel
theorem dJ6_bitCount_0f7a4_4 : decode cJ6_bitCount_0f7a4 4 = .ok (.ldc_w 265, 3) := by decide +kernel
theorem dJ6_bitCount_0f7a4_7 : decode cJ6_bitCount_0f7a4 7 = .ok (.iand, 1) := by decide +kernel
theorem dJ6_bitCount_0f7a4_8 : decode cJ6_bitCount_0f7a4 8 = .ok (.isub, 1) := by decide +kernel
theorem dJ6_bitCount_0f7a4_9 : decode cJ6_bitCount_0f7a4 9 = .ok (.istore_n 0, 1) := by decide +kernel
theorem dJ6_bitCount_0f7a4_10 : decode cJ6_bitCount_0f7a4 10 = .ok (.iload_n 0, 1) := by decide +kernel
theorem dJ6_bitCount_0f7a4_11 : decode cJ6_bitCount_0f7a4 11 = .ok (.ldc_w 266, 3) := by decide +kernel
theorem dJ6_bitCount_0f7a4_14 : decode cJ6_bitCount_0f7a4 14 = .ok (.iand, 1) := by decide +kernel
theorem dJ6_bitCount_0f7a4_15 : decode cJ6_bitCount_0f7a4 15 = .ok (.iload_n 0, 1) := by decide +kernel
theorem dJ6_bitCount_0f7a4_16 : decode cJ6_bitCount_0f7a4 16 = .ok (.iconst 2, 1) := by decide +kernel
theorem dJ6_bitCount_0f7a4_17 : decode cJ6_bitCount_0f7a4 17 = .ok (.iushr, 1) := by decide +kernel
theorem dJ6_bitCount_0f7a4_18 : decode cJ6_bitCount_0f7a4 18 = .ok (.ldc_w 266, 3) := by decide +kernel
theorem dJ6_bitCount_0f7a4_21 : decode cJ6_bitCount_0f7a4 21 = .ok (.iand, 1) := by decide +kernel
theorem dJ6_bitCount_0f7a4_22 : decode cJ6_bitCount_0f7a4 22 = .ok (.iadd, 1) := by decide +kernel
theorem dJ6_bitCount_0f7a4_23 : decode cJ6_bitCount_0f7a4 23 = .ok (.istore_n 0, 1) := by decide +kernel
theorem dJ6_bitCount_0f7a4_24 : decode cJ6_bitCount_0f7a4 24 = .ok (.iload_n 0, 1) := by decide +kernel
theorem dJ6_bitCount_0f7a4_25 : decode cJ6_bitCount_0f7a4 25 = .ok (.iload_n 0, 1) := by decide +kernel
theorem dJ6_bitCount_0f7a4_26 : decode cJ6_bitCount_0f7a4 26 = .ok (.iconst 4, 1) := by decide +kernel
theorem dJ6_bitCount_0f7a4_27 : decode cJ6_bitCount_0f7a4 27 = .ok (.iushr, 1) := by decide +kernel
theorem dJ6_bitCount_0f7a4_28 : decode cJ6_bitCount_0f7a4 28 = .ok (.iadd, 1) := by decide +kernel
theorem dJ6_bitCount_0f7a4_29 : decode cJ6_bitCount_0f7a4 29 = .ok (.ldc_w 267, 3) := by decide +kernel
theorem dJ6_bitCount_0f7a4_32 : decode cJ6_bitCount_0f7a4 32 = .ok (.iand, 1) := by decide +kernel
theorem dJ6_bitCount_0f7a4_33 : decode cJ6_bitCount_0f7a4 33 = .ok (.istore_n 0, 1) := by decide +kernel
theorem dJ6_bitCount_0f7a4_34 : decode cJ6_bitCount_0f7a4 34 = .ok (.iload_n 0, 1) := by decide +kernel
theorem dJ6_bitCount_0f7a4_35 : decode cJ6_bitCount_0f7a4 35 = .ok (.iload_n 0, 1) := by decide +kernel
theorem dJ6_bitCount_0f7a4_36 : decode cJ6_bitCount_0f7a4 36 = .ok (.bipush 8, 2) := by decide +kernel
theorem dJ6_bitCount_0f7a4_38 : decode cJ6_bitCount_0f7a4 38 = .ok (.iushr, 1) := by decide +kernel
theorem dJ6_bitCount_0f7a4_39 : decode cJ6_bitCount_0f7a4 39 = .ok (.iadd, 1) := by decide +kernel
theorem dJ6_bitCount_0f7a4_40 : decode cJ6_bitCount_0f7a4 40 = .ok (.istore_n 0, 1) := by decide +kernel
theorem dJ6_bitCount_0f7a4_41 : decode cJ6_bitCount_0f7a4 41 = .ok (.iload_n 0, 1) := by decide +kernel
theorem dJ6_bitCount_0f7a4_42 : decode cJ6_bitCount_0f7a4 42 = .ok (.iload_n 0, 1) := by decide +kernel
theorem dJ6_bitCount_0f7a4_43 : decode cJ6_bitCount_0f7a4 43 = .ok (.bipush 16, 2) := by decide +kernel
theorem dJ6_bitCount_0f7a4_45 : decode cJ6_bitCount_0f7a4 45 = .ok (.iushr, 1) := by decide +kernel
theorem dJ6_bitCount_0f7a4_46 : decode cJ6_bitCount_0f7a4 46 = .ok (.iadd, 1) := by decide +kernel
theorem dJ6_bitCount_0f7a4_47 : decode cJ6_bitCount_0f7a4 47 = .ok (.istore_n 0, 1) := by decide +kernel
theorem dJ6_bitCount_0f7a4_48 : decode cJ6_bitCount_0f7a4 48 = .ok (.iload_n 0, 1) := by decide +kernel
theorem dJ6_bitCount_0f7a4_49 : decode cJ6_bitCount_0f7a4 49 = .ok (.bipush 63, 2) := by decide +kernel
theorem dJ6_bitCount_0f7a4_51 : decode cJ6_bitCount_0f7a4 51 = .ok (.iand, 1) := by decide +kernel
theorem dJ6_bitCount_0f7a4_52 : decode cJ6_bitCount_0f7a4 52 = .ok (.ireturn, 1) := by decide +kernel
theorem dJ13_bitCount_95d88_0 : decode cJ13_bitCount_95d88 0 = .ok (.lload_n 0, 1) := by decide +kernel
theorem dJ13_bitCount_95d88_1 : decode cJ13_bitCount_95d88 1 = .ok (.lload_n 0, 1) := by decide +kernel
theorem dJ13_bitCount_95d88_2 : decode cJ13_bitCount_95d88 2 = .ok (.iconst 1, 1) := by decide +kernel
theorem dJ13_bitCount_95d88_3 : decode cJ13_bitCount_95d88 3 = .ok (.lushr, 1) := by decide +kernel
theorem dJ13_bitCount_95d88_4 : decode cJ13_bitCount_95d88 4 = .ok (.ldc2_w 314, 3) := by decide +kernel
theorem dJ13_bitCount_95d88_7 : decode cJ13_bitCount_95d88 7 = .ok (.land, 1) := by decide +kernel
theorem dJ13_bitCount_95d88_8 : decode cJ13_bitCount_95d88 8 = .ok (.lsub, 1) := by decide +kernel
theorem dJ13_bitCount_95d88_9 : decode cJ13_bitCount_95d88 9 = .ok (.lstore_n 0, 1) := by decide +kernel
theorem dJ13_bitCount_95d88_10 : decode cJ13_bitCount_95d88 10 = .ok (.lload_n 0, 1) := by decide +kernel
theorem dJ13_bitCount_95d88_11 : decode cJ13_bitCount_95d88 11 = .ok (.ldc2_w 316, 3) := by decide +kernel
theorem dJ13_bitCount_95d88_14 : decode cJ13_bitCount_95d88 14 = .ok (.land, 1) := by decide +kernel
theorem dJ13_bitCount_95d88_15 : decode cJ13_bitCount_95d88 15 = .ok (.lload_n 0, 1) := by decide +kernel
theorem dJ13_bitCount_95d88_16 : decode cJ13_bitCount_95d88 16 = .ok (.iconst 2, 1) := by decide +kernel
theorem dJ13_bitCount_95d88_17 : decode cJ13_bitCount_95d88 17 = .ok (.lushr, 1) := by decide +kernel
theorem dJ13_bitCount_95d88_18 : decode cJ13_bitCount_95d88 18 = .ok (.ldc2_w 316, 3) := by decide +kernel
theorem dJ13_bitCount_95d88_21 : decode cJ13_bitCount_95d88 21 = .ok (.land, 1) := by decide +kernel
theorem dJ13_bitCount_95d88_22 : decode cJ13_bitCount_95d88 22 = .ok (.ladd, 1) := by decide +kernel
theorem dJ13_bitCount_95d88_23 : decode cJ13_bitCount_95d88 23 = .ok (.lstore_n 0, 1) := by decide +kernel
theorem dJ13_bitCount_95d88_24 : decode cJ13_bitCount_95d88 24 = .ok (.lload_n 0, 1) := by decide +kernel
theorem dJ13_bitCount_95d88_25 : decode cJ13_bitCount_95d88 25 = .ok (.lload_n 0, 1) := by decide +kernel
theorem dJ13_bitCount_95d88_26 : decode cJ13_bitCount_95d88 26 = .ok (.iconst 4, 1) := by decide +kernel
theorem dJ13_bitCount_95d88_27 : decode cJ13_bitCount_95d88 27 = .ok (.lushr, 1) := by decide +kernel
theorem dJ13_bitCount_95d88_28 : decode cJ13_bitCount_95d88 28 = .ok (.ladd, 1) := by decide +kernel
theorem dJ13_bitCount_95d88_29 : decode cJ13_bitCount_95d88 29 = .ok (.ldc2_w 318, 3) := by decide +kernel
theorem dJ13_bitCount_95d88_32 : decode cJ13_bitCount_95d88 32 = .ok (.land, 1) := by decide +kernel
theorem dJ13_bitCount_95d88_33 : decode cJ13_bitCount_95d88 33 = .ok (.lstore_n 0, 1) := by decide +kernel
theorem dJ13_bitCount_95d88_34 : decode cJ13_bitCount_95d88 34 = .ok (.lload_n 0, 1) := by decide +kernel
theorem dJ13_bitCount_95d88_35 : decode cJ13_bitCount_95d88 35 = .ok (.lload_n 0, 1) := by decide +kernel
theorem dJ13_bitCount_95d88_36 : decode cJ13_bitCount_95d88 36 = .ok (.bipush 8, 2) := by decide +kernel
theorem dJ13_bitCount_95d88_38 : decode cJ13_bitCount_95d88 38 = .ok (.lushr, 1) := by decide +kernel
theorem dJ13_bitCount_95d88_39 : decode cJ13_bitCount_95d88 39 = .ok (.ladd, 1) := by decide +kernel
theorem dJ13_bitCount_95d88_40 : decode cJ13_bitCount_95d88 40 = .ok (.lstore_n 0, 1) := by decide +kernel
theorem dJ13_bitCount_95d88_41 : decode cJ13_bitCount_95d88 41 = .ok (.lload_n 0, 1) := by decide +kernel
theorem dJ13_bitCount_95d88_42 : decode cJ13_bitCount_95d88 42 = .ok (.lload_n 0, 1) := by decide +kernel
theorem dJ13_bitCount_95d88_43 : decode cJ13_bitCount_95d88 43 = .ok (.bipush 16, 2) := by decide +kernel
theorem dJ13_bitCount_95d88_45 : decode cJ13_bitCount_95d88 45 = .ok (.lushr, 1) := by decide +kernel
theorem dJ13_bitCount_95d88_46 : decode cJ13_bitCount_95d88 46 = .ok (.ladd, 1) := by decide +kernel
theorem dJ13_bitCount_95d88_47 : decode cJ13_bitCount_95d88 47 = .ok (.lstore_n 0, 1) := by decide +kernel
theorem dJ13_bitCount_95d88_48 : decode cJ13_bitCount_95d88 48 = .ok (.lload_n 0, 1) := by decide +kernel
theorem dJ13_bitCount_95d88_49 : decode cJ13_bitCount_95d88 49 = .ok (.lload_n 0, 1) := by decide +kernel
theorem dJ13_bitCount_95d88_50 : decode cJ13_bitCount_95d88 50 = .ok (.bipush 32, 2) := by decide +kernel
theorem dJ13_bitCount_95d88_52 : decode cJ13_bitCount_95d88 52 = .ok (.lushr, 1) := by decide +kernel
theorem dJ13_bitCount_95d88_53 : decode cJ13_bitCount_95d88 53 = .ok (.ladd, 1) := by decide +kernel
theorem dJ13_bitCount_95d88_54 : decode cJ13_bitCount_95d88 54 = .ok (.lstore_n 0, 1) := by decide +kernel
theorem dJ13_bitCount_95d88_55 : decode cJ13_bitCount_95d88 55 = .ok (.lload_n 0, 1) := by decide +kernel
theorem dJ13_bitCount_95d88_56 : decode cJ13_bitCount_95d88 56 = .ok (.l2i, 1) := by decide +kernel
theorem dJ13_bitCount_95d88_57 : decode cJ13_bitCount_95d88 57 = .ok (.bipush 127, 2) := by decide +kernel
theorem dJ13_bitCount_95d88_59 : decode cJ13_bitCount_95d88 59 = .ok (.iand, 1) := by decide +kernel
theorem dJ13_bitCount_95d88_60 : decode cJ13_bitCount_95d88 60 = .ok (.ireturn, 1) := by decide +kernel
theorem dJ9_max_7cf53_0 : decode cJ9_max_7cf53 0 = .ok (.iload_n 0, 1) := by decide +kernel
theorem dJ9_max_7cf53_1 : decode cJ9_max_7cf53 1 = .ok (.iload_n 1, 1) := by decide +kernel
theorem dJ9_max_7cf53_2 : decode cJ9_max_7cf53 2 = .ok (.if_icmp .lt 7, 3) := by decide +kernel
theorem dJ9_max_7cf53_5 : decode cJ9_max_7cf53 5 = .ok (.iload_n 0, 1) := by decide +kernel
theorem dJ9_max_7cf53_6 : decode cJ9_max_7cf53 6 = .ok (.goto 4, 3) := by decide +kernel
theorem dJ9_max_7cf53_9 : decode cJ9_max_7cf53 9 = .ok (.iload_n 1, 1) := by decide +kernel
theorem dJ9_max_7cf53_10 : decode cJ9_max_7cf53 10 = .ok (.ireturn, 1) := by decide +kernel
theorem dJ9_min_7cf53_0 : decode cJ9_min_7cf53 0 = .ok (.iload_n 0, 1) := by decide +kernel
theorem dJ9_min_7cf53_1 : decode cJ9_min_7cf53 1 = .ok (.iload_n 1, 1) := by decide +kernel
theorem dJ9_min_7cf53_2 : decode cJ9_min_7cf53 2 = .ok (.if_icmp .gt 7, 3) := by decide +kernel
theorem dJ9_min_7cf53_5 : decode cJ9_min_7cf53 5 = .ok (.iload_n 0, 1) := by decide +kernel
theorem dJ9_min_7cf53_6 : decode cJ9_min_7cf53 6 = .ok (.goto 4, 3) := by decide +kernel
theorem dJ9_min_7cf53_9 : decode cJ9_min_7cf53 9 = .ok (.iload_n 1, 1) := by decide +kernel
theorem dJ9_min_7cf53_10 : decode cJ9_min_7cf53 10 = .ok (.ireturn, 1) := by decide +kernel
set_option maxRecDepth 20000 in
theorem ggJ0_length_8abf5_J0_coder_7d493 : GoodIn wsJ0_length_8abf5 wsJ0_coder_7d493 := goodIn_r _ [6, 7, 8] (by decide +kernel) (by decide +kernel)
set_option maxRecDepth 20000 in
theorem gJ0_length_8abf5_J0_coder_7d493 : GoodIn wsJ0_length_8abf5 (wsV RJ0 335 RJ0 yJ0_coder_7d493 wsJ0_coder_7d493) := goodIn_app (goodIn_of _ (by decide +kernel)) ggJ0_length_8abf5_J0_coder_7d493
theorem dJ0_length_8abf5_0 : decode cJ0_length_8abf5 0 = .ok (.aload_n 0, 1) := by decide +kernel
theorem dJ0_length_8abf5_1 : decode cJ0_length_8abf5 1 = .ok (.getfield 9, 3) := by decide +kernel
theorem dJ0_length_8abf5_4 : decode cJ0_length_8abf5 4 = .ok (.arraylength, 1) := by decide +kernel
theorem dJ0_length_8abf5_5 : decode cJ0_length_8abf5 5 = .ok (.aload_n 0, 1) := by decide +kernel
theorem dJ0_length_8abf5_6 : decode cJ0_length_8abf5 6 = .ok (.invokevirtual 335, 3) := by decide +kernel
theorem dJ0_length_8abf5_9 : decode cJ0_length_8abf5 9 = .ok (.ishr, 1) := by decide +kernel
theorem dJ0_length_8abf5_10 : decode cJ0_length_8abf5 10 = .ok (.ireturn, 1) := by decide +kernel
set_option maxRecDepth 20000 in
theorem ggJ0_charAt_5068e_J0_isLatin1_aae02 : GoodIn wsJ0_charAt_5068e wsJ0_isLatin1_aae02 := goodIn_r _ [6, 7, 8] (by decide +kernel) (by decide +kernel)
set_option maxRecDepth 20000 in
theorem gJ0_charAt_5068e_J0_isLatin1_aae02 : GoodIn wsJ0_charAt_5068e (wsV RJ0 492 RJ0 yJ0_isLatin1_aae02 wsJ0_isLatin1_aae02) := goodIn_app (goodIn_of _ (by decide +kernel)) ggJ0_charAt_5068e_J0_isLatin1_aae02
set_option maxRecDepth 20000 in
theorem ggJ0_charAt_5068e_J1_charAt_3b067 : GoodIn wsJ0_charAt_5068e wsJ1_charAt_3b067 := goodIn_r _ [12, 13, 14, 5, 15, 16, 17, 18, 19, 20] (by decide +kernel) (by decide +kernel)
set_option maxRecDepth 20000 in
theorem gJ0_charAt_5068e_J1_charAt_3b067 : GoodIn wsJ0_charAt_5068e (va_wsS RJ0 495 yJ1_charAt_3b067 wsJ1_charAt_3b067) := goodIn_app (goodIn_of _ (by decide +kernel)) ggJ0_charAt_5068e_J1_charAt_3b067
set_option maxRecDepth 20000 in
theorem ggJ0_charAt_5068e_J2_charAt_3b067 : GoodIn wsJ0_charAt_5068e wsJ2_charAt_3b067 := goodIn_r _ [24, 25, 26, 23, 27, 28, 29, 30, 31, 14, 5, 15, 16, 17, 18, 19, 20, 32, 33, 34, 35, 36, 37] (by decide +kernel) (by decide +kernel)
set_option maxRecDepth 20000 in
theorem gJ0_charAt_5068e_J2_charAt_3b067 : GoodIn wsJ0_charAt_5068e (va_wsS RJ0 498 yJ2_charAt_3b067 wsJ2_charAt_3b067) := goodIn_app (goodIn_of _ (by decide +kernel)) ggJ0_charAt_5068e_J2_charAt_3b067
theorem dJ0_charAt_5068e_0 : decode cJ0_charAt_5068e 0 = .ok (.aload_n 0, 1) := by decide +kernel
theorem dJ0_charAt_5068e_1 : decode cJ0_charAt_5068e 1 = .ok (.invokevirtual 492, 3) := by decide +kernel
theorem dJ0_charAt_5068e_4 : decode cJ0_charAt_5068e 4 = .ok (.ifCond .eq 12, 3) := by decide +kernel
theorem dJ0_charAt_5068e_7 : decode cJ0_charAt_5068e 7 = .ok (.aload_n 0, 1) := by decide +kernel
theorem dJ0_charAt_5068e_8 : decode cJ0_charAt_5068e 8 = .ok (.getfield 9, 3) := by decide +kernel
theorem dJ0_charAt_5068e_11 : decode cJ0_charAt_5068e 11 = .ok (.iload_n 1, 1) := by decide +kernel
theorem dJ0_charAt_5068e_12 : decode cJ0_charAt_5068e 12 = .ok (.invokestatic 495, 3) := by decide +kernel
theorem dJ0_charAt_5068e_15 : decode cJ0_charAt_5068e 15 = .ok (.ireturn, 1) := by decide +kernel
theorem dJ0_charAt_5068e_16 : decode cJ0_charAt_5068e 16 = .ok (.aload_n 0, 1) := by decide +kernel
theorem dJ0_charAt_5068e_17 : decode cJ0_charAt_5068e 17 = .ok (.getfield 9, 3) := by decide +kernel
theorem dJ0_charAt_5068e_20 : decode cJ0_charAt_5068e 20 = .ok (.iload_n 1, 1) := by decide +kernel
theorem dJ0_charAt_5068e_21 : decode cJ0_charAt_5068e 21 = .ok (.invokestatic 498, 3) := by decide +kernel
theorem dJ0_charAt_5068e_24 : decode cJ0_charAt_5068e 24 = .ok (.ireturn, 1) := by decide +kernel
theorem dJ0_coder_7d493_0 : decode cJ0_coder_7d493 0 = .ok (.getstatic 38, 3) := by decide +kernel
theorem dJ0_coder_7d493_3 : decode cJ0_coder_7d493 3 = .ok (.ifCond .eq 10, 3) := by decide +kernel
theorem dJ0_coder_7d493_6 : decode cJ0_coder_7d493 6 = .ok (.aload_n 0, 1) := by decide +kernel
theorem dJ0_coder_7d493_7 : decode cJ0_coder_7d493 7 = .ok (.getfield 15, 3) := by decide +kernel
theorem dJ0_coder_7d493_10 : decode cJ0_coder_7d493 10 = .ok (.goto 4, 3) := by decide +kernel
theorem dJ0_coder_7d493_13 : decode cJ0_coder_7d493 13 = .ok (.iconst 1, 1) := by decide +kernel
theorem dJ0_coder_7d493_14 : decode cJ0_coder_7d493 14 = .ok (.ireturn, 1) := by decide +kernel
theorem dJ0_isLatin1_aae02_0 : decode cJ0_isLatin1_aae02 0 = .ok (.getstatic 38, 3) := by decide +kernel
theorem dJ0_isLatin1_aae02_3 : decode cJ0_isLatin1_aae02 3 = .ok (.ifCond .eq 14, 3) := by decide +kernel
theorem dJ0_isLatin1_aae02_6 : decode cJ0_isLatin1_aae02 6 = .ok (.aload_n 0, 1) := by decide +kernel
theorem dJ0_isLatin1_aae02_7 : decode cJ0_isLatin1_aae02 7 = .ok (.getfield 15, 3) := by decide +kernel
theorem dJ0_isLatin1_aae02_10 : decode cJ0_isLatin1_aae02 10 = .ok (.ifCond .ne 7, 3) := by decide +kernel
theorem dJ0_isLatin1_aae02_13 : decode cJ0_isLatin1_aae02 13 = .ok (.iconst 1, 1) := by decide +kernel
theorem dJ0_isLatin1_aae02_14 : decode cJ0_isLatin1_aae02 14 = .ok (.goto 4, 3) := by decide +kernel
theorem dJ0_isLatin1_aae02_17 : decode cJ0_isLatin1_aae02 17 = .ok (.iconst 0, 1) := by decide +kernel
theorem dJ0_isLatin1_aae02_18 : decode cJ0_isLatin1_aae02 18 = .ok (.ireturn, 1) := by decide +kernel
set_option maxRecDepth 20000 in
theorem ggJ0_checkIndex_df160_J3_checkIndex_8e157 : GoodIn wsJ0_checkIndex_df160 wsJ3_checkIndex_8e157 := goodIn_r _ [5] (by decide +kernel) (by decide +kernel)
set_option maxRecDepth 20000 in
theorem gJ0_checkIndex_df160_J3_checkIndex_8e157 : GoodIn wsJ0_checkIndex_df160 (va_wsS RJ0 1059 yJ3_checkIndex_8e157 wsJ3_checkIndex_8e157) := goodIn_app (goodIn_of _ (by decide +kernel)) ggJ0_checkIndex_df160_J3_checkIndex_8e157
theorem dJ0_checkIndex_df160_0 : decode cJ0_checkIndex_df160 0 = .ok (.iload_n 0, 1) := by decide +kernel
theorem dJ0_checkIndex_df160_1 : decode cJ0_checkIndex_df160 1 = .ok (.iload_n 1, 1) := by decide +kernel
theorem dJ0_checkIndex_df160_2 : decode cJ0_checkIndex_df160 2 = .ok (.getstatic 1053, 3) := by decide +kernel
theorem dJ0_checkIndex_df160_5 : decode cJ0_checkIndex_df160 5 = .ok (.invokestatic 1059, 3) := by decide +kernel
theorem dJ0_checkIndex_df160_8 : decode cJ0_checkIndex_df160 8 = .ok (.pop, 1) := by decide +kernel
theorem dJ0_checkIndex_df160_9 : decode cJ0_checkIndex_df160 9 = .ok (.return_, 1) := by decide +kernel
set_option maxRecDepth 20000 in
theorem ggJ1_charAt_3b067_J0_checkIndex_df160 : GoodIn wsJ1_charAt_3b067 wsJ0_checkIndex_df160 := goodIn_r _ [4, 5, 6, 7, 8, 9] (by decide +kernel) (by decide +kernel)
set_option maxRecDepth 20000 in
theorem gJ1_charAt_3b067_J0_checkIndex_df160 : GoodIn wsJ1_charAt_3b067 (va_wsS RJ1 9 yJ0_checkIndex_df160 wsJ0_checkIndex_df160) := goodIn_app (goodIn_of _ (by decide +kernel)) ggJ1_charAt_3b067_J0_checkIndex_df160
theorem dJ1_charAt_3b067_0 : decode cJ1_charAt_3b067 0 = .ok (.iload_n 1, 1) := by decide +kernel
theorem dJ1_charAt_3b067_1 : decode cJ1_charAt_3b067 1 = .ok (.aload_n 0, 1) := by decide +kernel
theorem dJ1_charAt_3b067_2 : decode cJ1_charAt_3b067 2 = .ok (.arraylength, 1) := by decide +kernel
theorem dJ1_charAt_3b067_3 : decode cJ1_charAt_3b067 3 = .ok (.invokestatic 9, 3) := by decide +kernel
theorem dJ1_charAt_3b067_6 : decode cJ1_charAt_3b067 6 = .ok (.aload_n 0, 1) := by decide +kernel
theorem dJ1_charAt_3b067_7 : decode cJ1_charAt_3b067 7 = .ok (.iload_n 1, 1) := by decide +kernel
theorem dJ1_charAt_3b067_8 : decode cJ1_charAt_3b067 8 = .ok (.baload, 1) := by decide +kernel
theorem dJ1_charAt_3b067_9 : decode cJ1_charAt_3b067 9 = .ok (.sipush 255, 3) := by decide +kernel
theorem dJ1_charAt_3b067_12 : decode cJ1_charAt_3b067 12 = .ok (.iand, 1) := by decide +kernel
theorem dJ1_charAt_3b067_13 : decode cJ1_charAt_3b067 13 = .ok (.i2c, 1) := by decide +kernel
theorem dJ1_charAt_3b067_14 : decode cJ1_charAt_3b067 14 = .ok (.ireturn, 1) := by decide +kernel
set_option maxRecDepth 20000 in
theorem ggJ2_getChar_3b067_J2_length_9d52b : GoodIn wsJ2_getChar_3b067 wsJ2_length_9d52b := goodIn_r _ [7] (by decide +kernel) (by decide +kernel)
set_option maxRecDepth 20000 in
theorem gJ2_getChar_3b067_J2_length_9d52b : GoodIn wsJ2_getChar_3b067 (va_wsS RJ2 48 yJ2_length_9d52b wsJ2_length_9d52b) := goodIn_app (goodIn_of _ (by decide +kernel)) ggJ2_getChar_3b067_J2_length_9d52b
theorem dJ2_getChar_3b067_0 : decode cJ2_getChar_3b067 0 = .ok (.getstatic 44, 3) := by decide +kernel
theorem dJ2_getChar_3b067_3 : decode cJ2_getChar_3b067 3 = .ok (.ifCond .ne 25, 3) := by decide +kernel
theorem dJ2_getChar_3b067_6 : decode cJ2_getChar_3b067 6 = .ok (.iload_n 1, 1) := by decide +kernel
theorem dJ2_getChar_3b067_7 : decode cJ2_getChar_3b067 7 = .ok (.ifCond .lt 11, 3) := by decide +kernel
theorem dJ2_getChar_3b067_10 : decode cJ2_getChar_3b067 10 = .ok (.iload_n 1, 1) := by decide +kernel
theorem dJ2_getChar_3b067_11 : decode cJ2_getChar_3b067 11 = .ok (.aload_n 0, 1) := by decide +kernel
theorem dJ2_getChar_3b067_12 : decode cJ2_getChar_3b067 12 = .ok (.invokestatic 48, 3) := by decide +kernel
theorem dJ2_getChar_3b067_15 : decode cJ2_getChar_3b067 15 = .ok (.if_icmp .lt 13, 3) := by decide +kernel
theorem dJ2_getChar_3b067_18 : decode cJ2_getChar_3b067 18 = .ok (.new 52, 3) := by decide +kernel
theorem dJ2_getChar_3b067_21 : decode cJ2_getChar_3b067 21 = .ok (.dup, 1) := by decide +kernel
theorem dJ2_getChar_3b067_22 : decode cJ2_getChar_3b067 22 = .ok (.ldc 54, 2) := by decide +kernel
theorem dJ2_getChar_3b067_24 : decode cJ2_getChar_3b067 24 = .ok (.invokespecial 56, 3) := by decide +kernel
theorem dJ2_getChar_3b067_27 : decode cJ2_getChar_3b067 27 = .ok (.athrow, 1) := by decide +kernel
theorem dJ2_getChar_3b067_28 : decode cJ2_getChar_3b067 28 = .ok (.iload_n 1, 1) := by decide +kernel
theorem dJ2_getChar_3b067_29 : decode cJ2_getChar_3b067 29 = .ok (.iconst 1, 1) := by decide +kernel
theorem dJ2_getChar_3b067_30 : decode cJ2_getChar_3b067 30 = .ok (.ishl, 1) := by decide +kernel
theorem dJ2_getChar_3b067_31 : decode cJ2_getChar_3b067 31 = .ok (.istore_n 1, 1) := by decide +kernel
theorem dJ2_getChar_3b067_32 : decode cJ2_getChar_3b067 32 = .ok (.aload_n 0, 1) := by decide +kernel
theorem dJ2_getChar_3b067_33 : decode cJ2_getChar_3b067 33 = .ok (.iload_n 1, 1) := by decide +kernel
theorem dJ2_getChar_3b067_34 : decode cJ2_getChar_3b067 34 = .ok (.iinc 1 1, 3) := by decide +kernel
theorem dJ2_getChar_3b067_37 : decode cJ2_getChar_3b067 37 = .ok (.baload, 1) := by decide +kernel
theorem dJ2_getChar_3b067_38 : decode cJ2_getChar_3b067 38 = .ok (.sipush 255, 3) := by decide +kernel
theorem dJ2_getChar_3b067_41 : decode cJ2_getChar_3b067 41 = .ok (.iand, 1) := by decide +kernel
theorem dJ2_getChar_3b067_42 : decode cJ2_getChar_3b067 42 = .ok (.getstatic 59, 3) := by decide +kernel
theorem dJ2_getChar_3b067_45 : decode cJ2_getChar_3b067 45 = .ok (.ishl, 1) := by decide +kernel
theorem dJ2_getChar_3b067_46 : decode cJ2_getChar_3b067 46 = .ok (.aload_n 0, 1) := by decide +kernel
theorem dJ2_getChar_3b067_47 : decode cJ2_getChar_3b067 47 = .ok (.iload_n 1, 1) := by decide +kernel
theorem dJ2_getChar_3b067_48 : decode cJ2_getChar_3b067 48 = .ok (.baload, 1) := by decide +kernel
theorem dJ2_getChar_3b067_49 : decode cJ2_getChar_3b067 49 = .ok (.sipush 255, 3) := by decide +kernel
theorem dJ2_getChar_3b067_52 : decode cJ2_getChar_3b067 52 = .ok (.iand, 1) := by decide +kernel
theorem dJ2_getChar_3b067_53 : decode cJ2_getChar_3b067 53 = .ok (.getstatic 63, 3) := by decide +kernel
theorem dJ2_getChar_3b067_56 : decode cJ2_getChar_3b067 56 = .ok (.ishl, 1) := by decide +kernel
theorem dJ2_getChar_3b067_57 : decode cJ2_getChar_3b067 57 = .ok (.ior, 1) := by decide +kernel
theorem dJ2_getChar_3b067_58 : decode cJ2_getChar_3b067 58 = .ok (.i2c, 1) := by decide +kernel
theorem dJ2_getChar_3b067_59 : decode cJ2_getChar_3b067 59 = .ok (.ireturn, 1) := by decide +kernel
theorem dJ2_length_9d52b_0 : decode cJ2_length_9d52b 0 = .ok (.aload_n 0, 1) := by decide +kernel
theorem dJ2_length_9d52b_1 : decode cJ2_length_9d52b 1 = .ok (.arraylength, 1) := by decide +kernel
theorem dJ2_length_9d52b_2 : decode cJ2_length_9d52b 2 = .ok (.iconst 1, 1) := by decide +kernel
theorem dJ2_length_9d52b_3 : decode cJ2_length_9d52b 3 = .ok (.ishr, 1) := by decide +kernel
theorem dJ2_length_9d52b_4 : decode cJ2_length_9d52b 4 = .ok (.ireturn, 1) := by decide +kernel
set_option maxRecDepth 20000 in
theorem ggJ2_charAt_3b067_J2_checkIndex_2214a : GoodIn wsJ2_charAt_3b067 wsJ2_checkIndex_2214a := goodIn_r _ [4, 5, 6, 3, 7, 8, 9, 10, 11, 12, 13, 14, 15, 16] (by decide +kernel) (by decide +kernel)
set_option maxRecDepth 20000 in
theorem gJ2_charAt_3b067_J2_checkIndex_2214a : GoodIn wsJ2_charAt_3b067 (va_wsS RJ2 67 yJ2_checkIndex_2214a wsJ2_checkIndex_2214a) := goodIn_app (goodIn_of _ (by decide +kernel)) ggJ2_charAt_3b067_J2_checkIndex_2214a
set_option maxRecDepth 20000 in
theorem ggJ2_charAt_3b067_J2_getChar_3b067 : GoodIn wsJ2_charAt_3b067 wsJ2_getChar_3b067 := goodIn_r _ [19, 20, 21, 22, 5, 6, 3, 7] (by decide +kernel) (by decide +kernel)
set_option maxRecDepth 20000 in
theorem gJ2_charAt_3b067_J2_getChar_3b067 : GoodIn wsJ2_charAt_3b067 (va_wsS RJ2 71 yJ2_getChar_3b067 wsJ2_getChar_3b067) := goodIn_app (goodIn_of _ (by decide +kernel)) ggJ2_charAt_3b067_J2_getChar_3b067
theorem dJ2_charAt_3b067_0 : decode cJ2_charAt_3b067 0 = .ok (.iload_n 1, 1) := by decide +kernel
theorem dJ2_charAt_3b067_1 : decode cJ2_charAt_3b067 1 = .ok (.aload_n 0, 1) := by decide +kernel
theorem dJ2_charAt_3b067_2 : decode cJ2_charAt_3b067 2 = .ok (.invokestatic 67, 3) := by decide +kernel
theorem dJ2_charAt_3b067_5 : decode cJ2_charAt_3b067 5 = .ok (.aload_n 0, 1) := by decide +kernel
theorem dJ2_charAt_3b067_6 : decode cJ2_charAt_3b067 6 = .ok (.iload_n 1, 1) := by decide +kernel
theorem dJ2_charAt_3b067_7 : decode cJ2_charAt_3b067 7 = .ok (.invokestatic 71, 3) := by decide +kernel
theorem dJ2_charAt_3b067_10 : decode cJ2_charAt_3b067 10 = .ok (.ireturn, 1) := by decide +kernel
set_option maxRecDepth 20000 in
theorem ggJ2_checkIndex_2214a_J2_length_9d52b : GoodIn wsJ2_checkIndex_2214a wsJ2_length_9d52b := goodIn_r _ [4] (by decide +kernel) (by decide +kernel)
set_option maxRecDepth 20000 in
theorem gJ2_checkIndex_2214a_J2_length_9d52b : GoodIn wsJ2_checkIndex_2214a (va_wsS RJ2 48 yJ2_length_9d52b wsJ2_length_9d52b) := goodIn_app (goodIn_of _ (by decide +kernel)) ggJ2_checkIndex_2214a_J2_length_9d52b
set_option maxRecDepth 20000 in
theorem ggJ2_checkIndex_2214a_J0_checkIndex_df160 : GoodIn wsJ2_checkIndex_2214a wsJ0_checkIndex_df160 := goodIn_r _ [8, 9, 10, 11, 12, 13] (by decide +kernel) (by decide +kernel)
set_option maxRecDepth 20000 in
theorem gJ2_checkIndex_2214a_J0_checkIndex_df160 : GoodIn wsJ2_checkIndex_2214a (va_wsS RJ2 414 yJ0_checkIndex_df160 wsJ0_checkIndex_df160) := goodIn_app (goodIn_of _ (by decide +kernel)) ggJ2_checkIndex_2214a_J0_checkIndex_df160
theorem dJ2_checkIndex_2214a_0 : decode cJ2_checkIndex_2214a 0 = .ok (.iload_n 0, 1) := by decide +kernel
theorem dJ2_checkIndex_2214a_1 : decode cJ2_checkIndex_2214a 1 = .ok (.aload_n 1, 1) := by decide +kernel
theorem dJ2_checkIndex_2214a_2 : decode cJ2_checkIndex_2214a 2 = .ok (.invokestatic 48, 3) := by decide +kernel
theorem dJ2_checkIndex_2214a_5 : decode cJ2_checkIndex_2214a 5 = .ok (.invokestatic 414, 3) := by decide +kernel
theorem dJ2_checkIndex_2214a_8 : decode cJ2_checkIndex_2214a 8 = .ok (.return_, 1) := by decide +kernel
theorem dJ7_fill_d0a16_0 : decode cJ7_fill_d0a16 0 = .ok (.iconst 0, 1) := by decide +kernel
theorem dJ7_fill_d0a16_1 : decode cJ7_fill_d0a16 1 = .ok (.istore_n 3, 1) := by decide +kernel
theorem dJ7_fill_d0a16_2 : decode cJ7_fill_d0a16 2 = .ok (.aload_n 0, 1) := by decide +kernel
theorem dJ7_fill_d0a16_3 : decode cJ7_fill_d0a16 3 = .ok (.arraylength, 1) := by decide +kernel
theorem dJ7_fill_d0a16_4 : decode cJ7_fill_d0a16 4 = .ok (.istore 4, 2) := by decide +kernel
theorem dJ7_fill_d0a16_6 : decode cJ7_fill_d0a16 6 = .ok (.iload_n 3, 1) := by decide +kernel
theorem dJ7_fill_d0a16_7 : decode cJ7_fill_d0a16 7 = .ok (.iload 4, 2) := by decide +kernel
theorem dJ7_fill_d0a16_9 : decode cJ7_fill_d0a16 9 = .ok (.if_icmp .ge 13, 3) := by decide +kernel
theorem dJ7_fill_d0a16_12 : decode cJ7_fill_d0a16 12 = .ok (.aload_n 0, 1) := by decide +kernel
theorem dJ7_fill_d0a16_13 : decode cJ7_fill_d0a16 13 = .ok (.iload_n 3, 1) := by decide +kernel
theorem dJ7_fill_d0a16_14 : decode cJ7_fill_d0a16 14 = .ok (.lload_n 1, 1) := by decide +kernel
theorem dJ7_fill_d0a16_15 : decode cJ7_fill_d0a16 15 = .ok (.lastore, 1) := by decide +kernel
theorem dJ7_fill_d0a16_16 : decode cJ7_fill_d0a16 16 = .ok (.iinc 3 1, 3) := by decide +kernel
theorem dJ7_fill_d0a16_19 : decode cJ7_fill_d0a16 19 = .ok (.goto (-13), 3) := by decide +kernel
theorem dJ7_fill_d0a16_22 : decode cJ7_fill_d0a16 22 = .ok (.return_, 1) := by decide +kernel
theorem dJ7_fill_53178_0 : decode cJ7_fill_53178 0 = .ok (.iconst 0, 1) := by decide +kernel
theorem dJ7_fill_53178_1 : decode cJ7_fill_53178 1 = .ok (.istore_n 2, 1) := by decide +kernel
theorem dJ7_fill_53178_2 : decode cJ7_fill_53178 2 = .ok (.aload_n 0, 1) := by decide +kernel
theorem dJ7_fill_53178_3 : decode cJ7_fill_53178 3 = .ok (.arraylength, 1) := by decide +kernel
theorem dJ7_fill_53178_4 : decode cJ7_fill_53178 4 = .ok (.istore_n 3, 1) := by decide +kernel
theorem dJ7_fill_53178_5 : decode cJ7_fill_53178 5 = .ok (.iload_n 2, 1) := by decide +kernel
theorem dJ7_fill_53178_6 : decode cJ7_fill_53178 6 = .ok (.iload_n 3, 1) := by decide +kernel
theorem dJ7_fill_53178_7 : decode cJ7_fill_53178 7 = .ok (.if_icmp .ge 13, 3) := by decide +kernel
theorem dJ7_fill_53178_10 : decode cJ7_fill_53178 10 = .ok (.aload_n 0, 1) := by decide +kernel
theorem dJ7_fill_53178_11 : decode cJ7_fill_53178 11 = .ok (.iload_n 2, 1) := by decide +kernel
theorem dJ7_fill_53178_12 : decode cJ7_fill_53178 12 = .ok (.iload_n 1, 1) := by decide +kernel
theorem dJ7_fill_53178_13 : decode cJ7_fill_53178 13 = .ok (.iastore, 1) := by decide +kernel
theorem dJ7_fill_53178_14 : decode cJ7_fill_53178 14 = .ok (.iinc 2 1, 3) := by decide +kernel
theorem dJ7_fill_53178_17 : decode cJ7_fill_53178 17 = .ok (.goto (-12), 3) := by decide +kernel
theorem dJ7_fill_53178_20 : decode cJ7_fill_53178 20 = .ok (.return_, 1) := by decide +kernel
theorem dJ7_copyOf_59c91_0 : decode cJ7_copyOf_59c91 0 = .ok (.iload_n 1, 1) := by decide +kernel
theorem dJ7_copyOf_59c91_1 : decode cJ7_copyOf_59c91 1 = .ok (.aload_n 0, 1) := by decide +kernel
theorem dJ7_copyOf_59c91_2 : decode cJ7_copyOf_59c91 2 = .ok (.arraylength, 1) := by decide +kernel
theorem dJ7_copyOf_59c91_3 : decode cJ7_copyOf_59c91 3 = .ok (.if_icmp .ne 11, 3) := by decide +kernel
theorem dJ7_copyOf_59c91_6 : decode cJ7_copyOf_59c91 6 = .ok (.aload_n 0, 1) := by decide +kernel
theorem dJ7_copyOf_59c91_7 : decode cJ7_copyOf_59c91 7 = .ok (.invokevirtual 316, 3) := by decide +kernel
theorem dJ7_copyOf_59c91_10 : decode cJ7_copyOf_59c91 10 = .ok (.checkcast 317, 3) := by decide +kernel
theorem dJ7_copyOf_59c91_13 : decode cJ7_copyOf_59c91 13 = .ok (.areturn, 1) := by decide +kernel
theorem dJ7_copyOf_59c91_14 : decode cJ7_copyOf_59c91 14 = .ok (.iload_n 1, 1) := by decide +kernel
theorem dJ7_copyOf_59c91_15 : decode cJ7_copyOf_59c91 15 = .ok (.newarray .int, 2) := by decide +kernel
theorem dJ7_copyOf_59c91_17 : decode cJ7_copyOf_59c91 17 = .ok (.astore_n 2, 1) := by decide +kernel
theorem dJ7_copyOf_59c91_18 : decode cJ7_copyOf_59c91 18 = .ok (.aload_n 0, 1) := by decide +kernel
theorem dJ7_copyOf_59c91_19 : decode cJ7_copyOf_59c91 19 = .ok (.iconst 0, 1) := by decide +kernel
theorem dJ7_copyOf_59c91_20 : decode cJ7_copyOf_59c91 20 = .ok (.aload_n 2, 1) := by decide +kernel
theorem dJ7_copyOf_59c91_21 : decode cJ7_copyOf_59c91 21 = .ok (.iconst 0, 1) := by decide +kernel
theorem dJ7_copyOf_59c91_22 : decode cJ7_copyOf_59c91 22 = .ok (.aload_n 0, 1) := by decide +kernel
theorem dJ7_copyOf_59c91_23 : decode cJ7_copyOf_59c91 23 = .ok (.arraylength, 1) := by decide +kernel
theorem dJ7_copyOf_59c91_24 : decode cJ7_copyOf_59c91 24 = .ok (.iload_n 1, 1) := by decide +kernel
theorem dJ7_copyOf_59c91_25 : decode cJ7_copyOf_59c91 25 = .ok (.invokestatic 304, 3) := by decide +kernel
theorem dJ7_copyOf_59c91_28 : decode cJ7_copyOf_59c91 28 = .ok (.invokestatic 150, 3) := by decide +kernel
theorem dJ7_copyOf_59c91_31 : decode cJ7_copyOf_59c91 31 = .ok (.aload_n 2, 1) := by decide +kernel
theorem dJ7_copyOf_59c91_32 : decode cJ7_copyOf_59c91 32 = .ok (.areturn, 1) := by decide +kernel
theorem dJ3_checkIndex_8e157_0 : decode cJ3_checkIndex_8e157 0 = .ok (.iload_n 0, 1) := by decide +kernel
theorem dJ3_checkIndex_8e157_1 : decode cJ3_checkIndex_8e157 1 = .ok (.ifCond .lt 8, 3) := by decide +kernel
theorem dJ3_checkIndex_8e157_4 : decode cJ3_checkIndex_8e157 4 = .ok (.iload_n 0, 1) := by decide +kernel
theorem dJ3_checkIndex_8e157_5 : decode cJ3_checkIndex_8e157 5 = .ok (.iload_n 1, 1) := by decide +kernel
theorem dJ3_checkIndex_8e157_6 : decode cJ3_checkIndex_8e157 6 = .ok (.if_icmp .lt 10, 3) := by decide +kernel
theorem dJ3_checkIndex_8e157_9 : decode cJ3_checkIndex_8e157 9 = .ok (.aload_n 2, 1) := by decide +kernel
theorem dJ3_checkIndex_8e157_10 : decode cJ3_checkIndex_8e157 10 = .ok (.iload_n 0, 1) := by decide +kernel
theorem dJ3_checkIndex_8e157_11 : decode cJ3_checkIndex_8e157 11 = .ok (.iload_n 1, 1) := by decide +kernel
theorem dJ3_checkIndex_8e157_12 : decode cJ3_checkIndex_8e157 12 = .ok (.invokestatic 95, 3) := by decide +kernel
theorem dJ3_checkIndex_8e157_15 : decode cJ3_checkIndex_8e157 15 = .ok (.athrow, 1) := by decide +kernel
theorem dJ3_checkIndex_8e157_16 : decode cJ3_checkIndex_8e157 16 = .ok (.iload_n 0, 1) := by decide +kernel
theorem dJ3_checkIndex_8e157_17 : decode cJ3_checkIndex_8e157 17 = .ok (.ireturn, 1) := by decide +kernel
set_option maxRecDepth 20000 in
theorem ggL_town_X8_town : GoodIn wsL_town wsX8_town := goodIn_ca (goodIn_ca (goodIn_r _ [7, 8, 9, 10, 11, 12, 13, 14, 15, 16, 17, 18, 19, 20, 21] (by decide +kernel) (by decide +kernel)) (goodIn_sub (fun _ h => List.mem_cons_of_mem _ (List.mem_append_left _ (List.mem_append_right _ h))) (by decide +kernel))) (goodIn_sub (fun _ h => List.mem_cons_of_mem _ (List.mem_append_right _ h)) (by decide +kernel))
set_option maxRecDepth 20000 in
theorem gL_town_X8_town : GoodIn wsL_town (wsV RL 7 RX8 yX8_town wsX8_town) := goodIn_app (goodIn_of _ (by decide +kernel)) ggL_town_X8_town
theorem dL_town_0 : decode cL_town 0 = .ok (.aload_n 2, 1) := by decide +kernel
theorem dL_town_1 : decode cL_town 1 = .ok (.iconst 0, 1) := by decide +kernel
theorem dL_town_2 : decode cL_town 2 = .ok (.aload_n 0, 1) := by decide +kernel
theorem dL_town_3 : decode cL_town 3 = .ok (.iload_n 1, 1) := by decide +kernel
theorem dL_town_4 : decode cL_town 4 = .ok (.invokevirtual 7, 3) := by decide +kernel
theorem dL_town_7 : decode cL_town 7 = .ok (.i2l, 1) := by decide +kernel
theorem dL_town_8 : decode cL_town 8 = .ok (.lastore, 1) := by decide +kernel
theorem dL_town_9 : decode cL_town 9 = .ok (.goto 9, 3) := by decide +kernel
theorem dL_town_12 : decode cL_town 12 = .ok (.astore_n 3, 1) := by decide +kernel
theorem dL_town_13 : decode cL_town 13 = .ok (.iconst 1, 1) := by decide +kernel
theorem dL_town_14 : decode cL_town 14 = .ok (.ireturn, 1) := by decide +kernel
theorem dL_town_15 : decode cL_town 15 = .ok (.astore_n 3, 1) := by decide +kernel
theorem dL_town_16 : decode cL_town 16 = .ok (.iconst 2, 1) := by decide +kernel
theorem dL_town_17 : decode cL_town 17 = .ok (.ireturn, 1) := by decide +kernel
theorem dL_town_18 : decode cL_town 18 = .ok (.iconst 0, 1) := by decide +kernel
theorem dL_town_19 : decode cL_town 19 = .ok (.ireturn, 1) := by decide +kernel
set_option maxRecDepth 20000 in
theorem ggL_of_X8_of : GoodIn wsL_of wsX8_of := goodIn_ca (goodIn_r _ [6, 7, 8, 9, 10, 11, 5, 12, 13, 14, 15, 16, 17, 18, 19, 20, 21, 22] (by decide +kernel) (by decide +kernel)) (goodIn_sub (fun _ h => List.mem_cons_of_mem _ (List.mem_append_right _ h)) (by decide +kernel))
set_option maxRecDepth 20000 in
theorem gL_of_X8_of : GoodIn wsL_of (wsV RL 17 RX8 yX8_of wsX8_of) := goodIn_app (goodIn_of _ (by decide +kernel)) ggL_of_X8_of
theorem dL_of_0 : decode cL_of 0 = .ok (.aload_n 3, 1) := by decide +kernel
theorem dL_of_1 : decode cL_of 1 = .ok (.iconst 0, 1) := by decide +kernel
theorem dL_of_2 : decode cL_of 2 = .ok (.aload_n 0, 1) := by decide +kernel
theorem dL_of_3 : decode cL_of 3 = .ok (.iload_n 1, 1) := by decide +kernel
theorem dL_of_4 : decode cL_of 4 = .ok (.iload_n 2, 1) := by decide +kernel
theorem dL_of_5 : decode cL_of 5 = .ok (.invokevirtual 17, 3) := by decide +kernel
theorem dL_of_8 : decode cL_of 8 = .ok (.i2l, 1) := by decide +kernel
theorem dL_of_9 : decode cL_of 9 = .ok (.lastore, 1) := by decide +kernel
theorem dL_of_10 : decode cL_of 10 = .ok (.goto 7, 3) := by decide +kernel
theorem dL_of_13 : decode cL_of 13 = .ok (.astore 4, 2) := by decide +kernel
theorem dL_of_15 : decode cL_of 15 = .ok (.iconst 1, 1) := by decide +kernel
theorem dL_of_16 : decode cL_of 16 = .ok (.ireturn, 1) := by decide +kernel
theorem dL_of_17 : decode cL_of 17 = .ok (.iconst 0, 1) := by decide +kernel
theorem dL_of_18 : decode cL_of 18 = .ok (.ireturn, 1) := by decide +kernel
set_option maxRecDepth 20000 in
theorem ggL_moon_X8_moon : GoodIn wsL_moon wsX8_moon := goodIn_ca (goodIn_ca (goodIn_r _ [7, 8, 9, 10, 11, 6, 12, 13, 14, 15, 16, 17, 18, 19, 20, 21, 22, 23, 24, 25, 26, 27, 28, 29, 30, 31, 32, 33, 34, 35, 36, 37, 38, 39] (by decide +kernel) (by decide +kernel)) (goodIn_sub (fun _ h => List.mem_cons_of_mem _ (List.mem_append_left _ (List.mem_append_right _ h))) (by decide +kernel))) (goodIn_sub (fun _ h => List.mem_cons_of_mem _ (List.mem_append_right _ h)) (by decide +kernel))
set_option maxRecDepth 20000 in
theorem gL_moon_X8_moon : GoodIn wsL_moon (wsV RL 21 RX8 yX8_moon wsX8_moon) := goodIn_app (goodIn_of _ (by decide +kernel)) ggL_moon_X8_moon
theorem dL_moon_0 : decode cL_moon 0 = .ok (.aload_n 3, 1) := by decide +kernel
theorem dL_moon_1 : decode cL_moon 1 = .ok (.iconst 0, 1) := by decide +kernel
theorem dL_moon_2 : decode cL_moon 2 = .ok (.aload_n 0, 1) := by decide +kernel
theorem dL_moon_3 : decode cL_moon 3 = .ok (.iload_n 1, 1) := by decide +kernel
theorem dL_moon_4 : decode cL_moon 4 = .ok (.iload_n 2, 1) := by decide +kernel
theorem dL_moon_5 : decode cL_moon 5 = .ok (.invokevirtual 21, 3) := by decide +kernel
theorem dL_moon_8 : decode cL_moon 8 = .ok (.i2l, 1) := by decide +kernel
theorem dL_moon_9 : decode cL_moon 9 = .ok (.lastore, 1) := by decide +kernel
theorem dL_moon_10 : decode cL_moon 10 = .ok (.goto 11, 3) := by decide +kernel
theorem dL_moon_13 : decode cL_moon 13 = .ok (.astore 4, 2) := by decide +kernel
theorem dL_moon_15 : decode cL_moon 15 = .ok (.iconst 1, 1) := by decide +kernel
theorem dL_moon_16 : decode cL_moon 16 = .ok (.ireturn, 1) := by decide +kernel
theorem dL_moon_17 : decode cL_moon 17 = .ok (.astore 4, 2) := by decide +kernel
theorem dL_moon_19 : decode cL_moon 19 = .ok (.iconst 2, 1) := by decide +kernel
theorem dL_moon_20 : decode cL_moon 20 = .ok (.ireturn, 1) := by decide +kernel
theorem dL_moon_21 : decode cL_moon 21 = .ok (.iconst 0, 1) := by decide +kernel
theorem dL_moon_22 : decode cL_moon 22 = .ok (.ireturn, 1) := by decide +kernel
set_option maxRecDepth 20000 in
theorem ggL_stone_X8_stone : GoodIn wsL_stone wsX8_stone := goodIn_ca (goodIn_ca (goodIn_ca (goodIn_r _ [8, 9, 10, 11, 12, 13, 14, 15, 16, 17, 18, 19, 20, 21, 22, 23, 24, 25, 26, 27, 28, 29, 30, 31, 32, 33, 34, 35, 36, 7, 37, 38, 39, 40, 41, 42, 43, 44, 45, 46, 47, 48, 49, 50, 51, 52, 53, 54, 55, 56, 57, 58, 59, 60, 61, 62, 63, 64, 65, 66, 67, 68, 69, 70, 71, 72, 73, 74, 75, 76, 77, 78, 79, 80, 81, 82, 83, 84, 85, 86, 87, 88, 89, 90, 91, 92, 93, 94, 95, 96, 97, 98, 99, 100, 101, 102, 103, 104, 105, 106, 107, 108, 109, 110, 111, 112, 113, 114, 115, 116, 117, 118, 119, 120, 121, 122, 123, 124, 125, 126, 127, 128, 129, 130, 131, 132, 133, 134, 135, 136, 137, 138, 139, 140, 141, 142, 143, 144, 145, 146, 147, 148, 149, 150, 151, 152, 153, 154, 155, 156, 157, 158, 159, 160, 161, 162, 163, 164, 165, 166, 167, 168, 169, 170, 171, 172, 173, 174, 175, 176, 177, 178, 179, 180, 181, 182, 183, 184, 185, 186, 187, 188, 189, 190, 191, 192, 193, 194, 195, 196, 197, 198, 199, 200, 201, 202, 203, 204, 205, 206, 207, 208, 209, 210, 211, 212, 213, 214, 215, 216, 217, 218, 219, 220, 221, 222, 223, 224, 225, 226, 227, 228, 229, 230, 231, 232, 233, 234, 235, 236, 237, 238, 239, 240, 241, 242, 243, 244, 245, 246, 247, 248, 249, 250, 251, 252, 253, 254, 255, 256, 257, 258, 259, 260, 261, 262, 263, 264, 265, 266, 267, 268, 269, 270, 271, 272, 273, 274, 275, 276, 277, 278, 279, 280, 281, 282, 283, 284, 285, 286, 287, 288, 289, 290, 291, 292, 293, 294, 295, 296, 297, 298, 299, 300, 301, 302, 303, 304, 305, 306, 307, 308] (by decide +kernel) (by decide +kernel)) (goodIn_sub (fun _ h => List.mem_cons_of_mem _ (List.mem_append_left _ (List.mem_append_left _ (List.mem_append_right _ h)))) (by decide +kernel))) (goodIn_sub (fun _ h => List.mem_cons_of_mem _ (List.mem_append_left _ (List.mem_append_right _ h))) (by decide +kernel))) (goodIn_sub (fun _ h => List.mem_cons_of_mem _ (List.mem_append_right _ h)) (by decide +kernel))
set_option maxRecDepth 20000 in
theorem gL_stone_X8_stone : GoodIn wsL_stone (wsV RL 26 RX8 yX8_stone wsX8_stone) := goodIn_app (goodIn_of _ (by decide +kernel)) ggL_stone_X8_stone
theorem dL_stone_0 : decode cL_stone 0 = .ok (.aload_n 3, 1) := by decide +kernel
theorem dL_stone_1 : decode cL_stone 1 = .ok (.iconst 0, 1) := by decide +kernel
theorem dL_stone_2 : decode cL_stone 2 = .ok (.aload_n 0, 1) := by decide +kernel
theorem dL_stone_3 : decode cL_stone 3 = .ok (.iload_n 1, 1) := by decide +kernel
theorem dL_stone_4 : decode cL_stone 4 = .ok (.iload_n 2, 1) := by decide +kernel
theorem dL_stone_5 : decode cL_stone 5 = .ok (.invokevirtual 26, 3) := by decide +kernel
theorem dL_stone_8 : decode cL_stone 8 = .ok (.i2l, 1) := by decide +kernel
theorem dL_stone_9 : decode cL_stone 9 = .ok (.lastore, 1) := by decide +kernel
theorem dL_stone_10 : decode cL_stone 10 = .ok (.goto 15, 3) := by decide +kernel
theorem dL_stone_13 : decode cL_stone 13 = .ok (.astore 4, 2) := by decide +kernel
theorem dL_stone_15 : decode cL_stone 15 = .ok (.iconst 1, 1) := by decide +kernel
theorem dL_stone_16 : decode cL_stone 16 = .ok (.ireturn, 1) := by decide +kernel
theorem dL_stone_17 : decode cL_stone 17 = .ok (.astore 4, 2) := by decide +kernel
theorem dL_stone_19 : decode cL_stone 19 = .ok (.iconst 2, 1) := by decide +kernel
theorem dL_stone_20 : decode cL_stone 20 = .ok (.ireturn, 1) := by decide +kernel
theorem dL_stone_21 : decode cL_stone 21 = .ok (.astore 4, 2) := by decide +kernel
theorem dL_stone_23 : decode cL_stone 23 = .ok (.iconst 3, 1) := by decide +kernel
theorem dL_stone_24 : decode cL_stone 24 = .ok (.ireturn, 1) := by decide +kernel
theorem dL_stone_25 : decode cL_stone 25 = .ok (.iconst 0, 1) := by decide +kernel
theorem dL_stone_26 : decode cL_stone 26 = .ok (.ireturn, 1) := by decide +kernel
set_option maxRecDepth 20000 in
theorem ggL_many_X8_many : GoodIn wsL_many wsX8_many := goodIn_ca (goodIn_r _ [6, 7, 8, 9, 10, 5, 11, 12, 13, 14, 15, 16, 17, 18, 19, 20, 21, 22, 23, 24, 25, 26, 27] (by decide +kernel) (by decide +kernel)) (goodIn_sub (fun _ h => List.mem_cons_of_mem _ (List.mem_append_right _ h)) (by decide +kernel))
set_option maxRecDepth 20000 in
theorem gL_many_X8_many : GoodIn wsL_many (wsV RL 29 RX8 yX8_many wsX8_many) := goodIn_app (goodIn_of _ (by decide +kernel)) ggL_many_X8_many
theorem dL_many_0 : decode cL_many 0 = .ok (.aload_n 2, 1) := by decide +kernel
theorem dL_many_1 : decode cL_many 1 = .ok (.iconst 0, 1) := by decide +kernel
theorem dL_many_2 : decode cL_many 2 = .ok (.aload_n 0, 1) := by decide +kernel
theorem dL_many_3 : decode cL_many 3 = .ok (.iload_n 1, 1) := by decide +kernel
theorem dL_many_4 : decode cL_many 4 = .ok (.invokevirtual 29, 3) := by decide +kernel
theorem dL_many_7 : decode cL_many 7 = .ok (.i2l, 1) := by decide +kernel
theorem dL_many_8 : decode cL_many 8 = .ok (.lastore, 1) := by decide +kernel
theorem dL_many_9 : decode cL_many 9 = .ok (.goto 6, 3) := by decide +kernel
theorem dL_many_12 : decode cL_many 12 = .ok (.astore_n 3, 1) := by decide +kernel
theorem dL_many_13 : decode cL_many 13 = .ok (.iconst 1, 1) := by decide +kernel
theorem dL_many_14 : decode cL_many 14 = .ok (.ireturn, 1) := by decide +kernel
theorem dL_many_15 : decode cL_many 15 = .ok (.iconst 0, 1) := by decide +kernel
theorem dL_many_16 : decode cL_many 16 = .ok (.ireturn, 1) := by decide +kernel
set_option maxRecDepth 20000 in
theorem ggL_day_X8_day : GoodIn wsL_day wsX8_day := goodIn_ca (goodIn_r _ [6, 7, 8, 9, 10, 5, 11, 12, 13, 14, 15, 16, 17, 18, 19, 20, 21, 22, 23, 24, 25, 26, 27] (by decide +kernel) (by decide +kernel)) (goodIn_sub (fun _ h => List.mem_cons_of_mem _ (List.mem_append_right _ h)) (by decide +kernel))
set_option maxRecDepth 20000 in
theorem gL_day_X8_day : GoodIn wsL_day (wsV RL 32 RX8 yX8_day wsX8_day) := goodIn_app (goodIn_of _ (by decide +kernel)) ggL_day_X8_day
theorem dL_day_0 : decode cL_day 0 = .ok (.aload_n 3, 1) := by decide +kernel
theorem dL_day_1 : decode cL_day 1 = .ok (.iconst 0, 1) := by decide +kernel
theorem dL_day_2 : decode cL_day 2 = .ok (.aload_n 0, 1) := by decide +kernel
theorem dL_day_3 : decode cL_day 3 = .ok (.iload_n 1, 1) := by decide +kernel
theorem dL_day_4 : decode cL_day 4 = .ok (.iload_n 2, 1) := by decide +kernel
theorem dL_day_5 : decode cL_day 5 = .ok (.invokevirtual 32, 3) := by decide +kernel
theorem dL_day_8 : decode cL_day 8 = .ok (.i2l, 1) := by decide +kernel
theorem dL_day_9 : decode cL_day 9 = .ok (.lastore, 1) := by decide +kernel
theorem dL_day_10 : decode cL_day 10 = .ok (.goto 7, 3) := by decide +kernel
theorem dL_day_13 : decode cL_day 13 = .ok (.astore 4, 2) := by decide +kernel
theorem dL_day_15 : decode cL_day 15 = .ok (.iconst 1, 1) := by decide +kernel
theorem dL_day_16 : decode cL_day 16 = .ok (.ireturn, 1) := by decide +kernel
theorem dL_day_17 : decode cL_day 17 = .ok (.iconst 0, 1) := by decide +kernel
theorem dL_day_18 : decode cL_day 18 = .ok (.ireturn, 1) := by decide +kernel
set_option maxRecDepth 20000 in
theorem ggL_fits_X8_fits : GoodIn wsL_fits wsX8_fits := goodIn_ca (goodIn_ca (goodIn_r _ [7, 8, 9, 10, 6, 11, 12, 13, 14, 15, 16, 17, 18, 19, 20, 21, 22, 23, 24, 25, 26, 27, 28, 29, 30, 31, 32, 33, 34, 35, 36, 37, 38, 39, 40, 41, 42, 43, 44, 45, 46, 47, 48, 49, 50, 51, 52, 53] (by decide +kernel) (by decide +kernel)) (goodIn_sub (fun _ h => List.mem_cons_of_mem _ (List.mem_append_left _ (List.mem_append_right _ h))) (by decide +kernel))) (goodIn_sub (fun _ h => List.mem_cons_of_mem _ (List.mem_append_right _ h)) (by decide +kernel))
set_option maxRecDepth 20000 in
theorem gL_fits_X8_fits : GoodIn wsL_fits (wsV RL 35 RX8 yX8_fits wsX8_fits) := goodIn_app (goodIn_of _ (by decide +kernel)) ggL_fits_X8_fits
theorem dL_fits_0 : decode cL_fits 0 = .ok (.aload_n 3, 1) := by decide +kernel
theorem dL_fits_1 : decode cL_fits 1 = .ok (.iconst 0, 1) := by decide +kernel
theorem dL_fits_2 : decode cL_fits 2 = .ok (.aload_n 0, 1) := by decide +kernel
theorem dL_fits_3 : decode cL_fits 3 = .ok (.iload_n 1, 1) := by decide +kernel
theorem dL_fits_4 : decode cL_fits 4 = .ok (.iload_n 2, 1) := by decide +kernel
theorem dL_fits_5 : decode cL_fits 5 = .ok (.invokevirtual 35, 3) := by decide +kernel
theorem dL_fits_8 : decode cL_fits 8 = .ok (.ifCond .eq 7, 3) := by decide +kernel
theorem dL_fits_11 : decode cL_fits 11 = .ok (.lconst 1, 1) := by decide +kernel
theorem dL_fits_12 : decode cL_fits 12 = .ok (.goto 4, 3) := by decide +kernel
theorem dL_fits_15 : decode cL_fits 15 = .ok (.lconst 0, 1) := by decide +kernel
theorem dL_fits_16 : decode cL_fits 16 = .ok (.lastore, 1) := by decide +kernel
theorem dL_fits_17 : decode cL_fits 17 = .ok (.goto 11, 3) := by decide +kernel
theorem dL_fits_20 : decode cL_fits 20 = .ok (.astore 4, 2) := by decide +kernel
theorem dL_fits_22 : decode cL_fits 22 = .ok (.iconst 1, 1) := by decide +kernel
theorem dL_fits_23 : decode cL_fits 23 = .ok (.ireturn, 1) := by decide +kernel
theorem dL_fits_24 : decode cL_fits 24 = .ok (.astore 4, 2) := by decide +kernel
theorem dL_fits_26 : decode cL_fits 26 = .ok (.iconst 2, 1) := by decide +kernel
theorem dL_fits_27 : decode cL_fits 27 = .ok (.ireturn, 1) := by decide +kernel
theorem dL_fits_28 : decode cL_fits 28 = .ok (.iconst 0, 1) := by decide +kernel
theorem dL_fits_29 : decode cL_fits 29 = .ok (.ireturn, 1) := by decide +kernel
set_option maxRecDepth 20000 in
theorem ggL_distance_X8_distance : GoodIn wsL_distance wsX8_distance := goodIn_ca (goodIn_ca (goodIn_ca (goodIn_r _ [8, 9, 10, 11, 12, 13, 14, 15, 16, 17, 18, 19, 7, 20, 21, 22, 23, 24, 25, 26, 27, 28, 29, 30, 31, 32, 33, 34, 35, 36, 37, 38, 39, 40, 41, 42, 43, 44, 45, 46, 47, 48, 49, 50, 51, 52, 53, 54] (by decide +kernel) (by decide +kernel)) (goodIn_sub (fun _ h => List.mem_cons_of_mem _ (List.mem_append_left _ (List.mem_append_left _ (List.mem_append_right _ h)))) (by decide +kernel))) (goodIn_sub (fun _ h => List.mem_cons_of_mem _ (List.mem_append_left _ (List.mem_append_right _ h))) (by decide +kernel))) (goodIn_sub (fun _ h => List.mem_cons_of_mem _ (List.mem_append_right _ h)) (by decide +kernel))
set_option maxRecDepth 20000 in
theorem gL_distance_X8_distance : GoodIn wsL_distance (wsV RL 39 RX8 yX8_distance wsX8_distance) := goodIn_app (goodIn_of _ (by decide +kernel)) ggL_distance_X8_distance
theorem dL_distance_0 : decode cL_distance 0 = .ok (.aload 4, 2) := by decide +kernel
theorem dL_distance_2 : decode cL_distance 2 = .ok (.iconst 0, 1) := by decide +kernel
theorem dL_distance_3 : decode cL_distance 3 = .ok (.aload_n 0, 1) := by decide +kernel
theorem dL_distance_4 : decode cL_distance 4 = .ok (.iload_n 1, 1) := by decide +kernel
theorem dL_distance_5 : decode cL_distance 5 = .ok (.iload_n 2, 1) := by decide +kernel
theorem dL_distance_6 : decode cL_distance 6 = .ok (.iload_n 3, 1) := by decide +kernel
theorem dL_distance_7 : decode cL_distance 7 = .ok (.invokevirtual 39, 3) := by decide +kernel
theorem dL_distance_10 : decode cL_distance 10 = .ok (.i2l, 1) := by decide +kernel
theorem dL_distance_11 : decode cL_distance 11 = .ok (.lastore, 1) := by decide +kernel
theorem dL_distance_12 : decode cL_distance 12 = .ok (.goto 15, 3) := by decide +kernel
theorem dL_distance_15 : decode cL_distance 15 = .ok (.astore 5, 2) := by decide +kernel
theorem dL_distance_17 : decode cL_distance 17 = .ok (.iconst 1, 1) := by decide +kernel
theorem dL_distance_18 : decode cL_distance 18 = .ok (.ireturn, 1) := by decide +kernel
theorem dL_distance_19 : decode cL_distance 19 = .ok (.astore 5, 2) := by decide +kernel
theorem dL_distance_21 : decode cL_distance 21 = .ok (.iconst 2, 1) := by decide +kernel
theorem dL_distance_22 : decode cL_distance 22 = .ok (.ireturn, 1) := by decide +kernel
theorem dL_distance_23 : decode cL_distance 23 = .ok (.astore 5, 2) := by decide +kernel
theorem dL_distance_25 : decode cL_distance 25 = .ok (.iconst 3, 1) := by decide +kernel
theorem dL_distance_26 : decode cL_distance 26 = .ok (.ireturn, 1) := by decide +kernel
theorem dL_distance_27 : decode cL_distance 27 = .ok (.iconst 0, 1) := by decide +kernel
theorem dL_distance_28 : decode cL_distance 28 = .ok (.ireturn, 1) := by decide +kernel
set_option maxRecDepth 20000 in
theorem ggL_settled_X8_settled : GoodIn wsL_settled wsX8_settled := goodIn_ca (goodIn_r _ [6, 7, 8, 9, 10, 5, 11, 12, 13, 14, 15, 16, 17, 18, 19, 20, 21, 22, 23, 24, 25, 26, 27, 28, 29, 30, 31, 32, 33, 34, 35, 36, 37, 38, 39, 40, 41, 42, 43, 44, 45, 46, 47, 48, 49, 50, 51, 52, 53, 54, 55, 56, 57, 58, 59, 60, 61, 62, 63, 64, 65, 66, 67, 68, 69, 70, 71, 72, 73, 74, 75, 76, 77, 78, 79, 80, 81, 82, 83, 84, 85, 86, 87, 88, 89, 90, 91, 92, 93, 94, 95, 96, 97, 98, 99, 100, 101] (by decide +kernel) (by decide +kernel)) (goodIn_sub (fun _ h => List.mem_cons_of_mem _ (List.mem_append_right _ h)) (by decide +kernel))
set_option maxRecDepth 20000 in
theorem gL_settled_X8_settled : GoodIn wsL_settled (wsV RL 43 RX8 yX8_settled wsX8_settled) := goodIn_app (goodIn_of _ (by decide +kernel)) ggL_settled_X8_settled
theorem dL_settled_0 : decode cL_settled 0 = .ok (.aload_n 2, 1) := by decide +kernel
theorem dL_settled_1 : decode cL_settled 1 = .ok (.iconst 0, 1) := by decide +kernel
theorem dL_settled_2 : decode cL_settled 2 = .ok (.aload_n 0, 1) := by decide +kernel
theorem dL_settled_3 : decode cL_settled 3 = .ok (.iload_n 1, 1) := by decide +kernel
theorem dL_settled_4 : decode cL_settled 4 = .ok (.invokevirtual 43, 3) := by decide +kernel
theorem dL_settled_7 : decode cL_settled 7 = .ok (.i2l, 1) := by decide +kernel
theorem dL_settled_8 : decode cL_settled 8 = .ok (.lastore, 1) := by decide +kernel
theorem dL_settled_9 : decode cL_settled 9 = .ok (.goto 6, 3) := by decide +kernel
theorem dL_settled_12 : decode cL_settled 12 = .ok (.astore_n 3, 1) := by decide +kernel
theorem dL_settled_13 : decode cL_settled 13 = .ok (.iconst 1, 1) := by decide +kernel
theorem dL_settled_14 : decode cL_settled 14 = .ok (.ireturn, 1) := by decide +kernel
theorem dL_settled_15 : decode cL_settled 15 = .ok (.iconst 0, 1) := by decide +kernel
theorem dL_settled_16 : decode cL_settled 16 = .ok (.ireturn, 1) := by decide +kernel
set_option maxRecDepth 20000 in
theorem ggL_settledDay_X8_settledDay : GoodIn wsL_settledDay wsX8_settledDay := goodIn_ca (goodIn_r _ [6, 7, 8, 9, 10, 5, 11, 12, 13, 14, 15, 16, 17, 18, 19, 20, 21, 22, 23, 24, 25, 26, 27, 28, 29, 30, 31, 32, 33, 34, 35, 36, 37, 38, 39, 40, 41, 42, 43, 44, 45, 46, 47, 48, 49, 50, 51, 52, 53, 54, 55, 56, 57, 58, 59, 60, 61, 62, 63, 64, 65, 66, 67, 68, 69, 70, 71, 72, 73, 74, 75, 76, 77, 78, 79, 80, 81, 82, 83, 84, 85, 86, 87, 88, 89, 90, 91, 92, 93, 94, 95, 96, 97, 98, 99, 100, 101, 102, 103, 104, 105] (by decide +kernel) (by decide +kernel)) (goodIn_sub (fun _ h => List.mem_cons_of_mem _ (List.mem_append_right _ h)) (by decide +kernel))
set_option maxRecDepth 20000 in
theorem gL_settledDay_X8_settledDay : GoodIn wsL_settledDay (wsV RL 46 RX8 yX8_settledDay wsX8_settledDay) := goodIn_app (goodIn_of _ (by decide +kernel)) ggL_settledDay_X8_settledDay
theorem dL_settledDay_0 : decode cL_settledDay 0 = .ok (.aload_n 3, 1) := by decide +kernel
theorem dL_settledDay_1 : decode cL_settledDay 1 = .ok (.iconst 0, 1) := by decide +kernel
theorem dL_settledDay_2 : decode cL_settledDay 2 = .ok (.aload_n 0, 1) := by decide +kernel
theorem dL_settledDay_3 : decode cL_settledDay 3 = .ok (.iload_n 1, 1) := by decide +kernel
theorem dL_settledDay_4 : decode cL_settledDay 4 = .ok (.iload_n 2, 1) := by decide +kernel
theorem dL_settledDay_5 : decode cL_settledDay 5 = .ok (.invokevirtual 46, 3) := by decide +kernel
theorem dL_settledDay_8 : decode cL_settledDay 8 = .ok (.i2l, 1) := by decide +kernel
theorem dL_settledDay_9 : decode cL_settledDay 9 = .ok (.lastore, 1) := by decide +kernel
theorem dL_settledDay_10 : decode cL_settledDay 10 = .ok (.goto 7, 3) := by decide +kernel
theorem dL_settledDay_13 : decode cL_settledDay 13 = .ok (.astore 4, 2) := by decide +kernel
theorem dL_settledDay_15 : decode cL_settledDay 15 = .ok (.iconst 1, 1) := by decide +kernel
theorem dL_settledDay_16 : decode cL_settledDay 16 = .ok (.ireturn, 1) := by decide +kernel
theorem dL_settledDay_17 : decode cL_settledDay 17 = .ok (.iconst 0, 1) := by decide +kernel
theorem dL_settledDay_18 : decode cL_settledDay 18 = .ok (.ireturn, 1) := by decide +kernel
set_option maxRecDepth 20000 in
theorem ggL_eclipse_X8_eclipse : GoodIn wsL_eclipse wsX8_eclipse := goodIn_ca (goodIn_r _ [6, 7, 8, 9, 10, 11, 12, 13, 14, 15, 16, 17, 18, 19, 20, 21, 22, 23, 24, 25, 26, 27, 28, 29, 30, 31, 32, 33, 34, 35, 36, 37, 38, 39, 40, 41, 42, 43, 44, 45] (by decide +kernel) (by decide +kernel)) (goodIn_sub (fun _ h => List.mem_cons_of_mem _ (List.mem_append_right _ h)) (by decide +kernel))
set_option maxRecDepth 20000 in
theorem gL_eclipse_X8_eclipse : GoodIn wsL_eclipse (wsV RL 49 RX8 yX8_eclipse wsX8_eclipse) := goodIn_app (goodIn_of _ (by decide +kernel)) ggL_eclipse_X8_eclipse
theorem dL_eclipse_0 : decode cL_eclipse 0 = .ok (.aload_n 2, 1) := by decide +kernel
theorem dL_eclipse_1 : decode cL_eclipse 1 = .ok (.iconst 0, 1) := by decide +kernel
theorem dL_eclipse_2 : decode cL_eclipse 2 = .ok (.aload_n 0, 1) := by decide +kernel
theorem dL_eclipse_3 : decode cL_eclipse 3 = .ok (.iload_n 1, 1) := by decide +kernel
theorem dL_eclipse_4 : decode cL_eclipse 4 = .ok (.invokevirtual 49, 3) := by decide +kernel
theorem dL_eclipse_7 : decode cL_eclipse 7 = .ok (.i2l, 1) := by decide +kernel
theorem dL_eclipse_8 : decode cL_eclipse 8 = .ok (.lastore, 1) := by decide +kernel
theorem dL_eclipse_9 : decode cL_eclipse 9 = .ok (.goto 6, 3) := by decide +kernel
theorem dL_eclipse_12 : decode cL_eclipse 12 = .ok (.astore_n 3, 1) := by decide +kernel
theorem dL_eclipse_13 : decode cL_eclipse 13 = .ok (.iconst 1, 1) := by decide +kernel
theorem dL_eclipse_14 : decode cL_eclipse 14 = .ok (.ireturn, 1) := by decide +kernel
theorem dL_eclipse_15 : decode cL_eclipse 15 = .ok (.iconst 0, 1) := by decide +kernel
theorem dL_eclipse_16 : decode cL_eclipse 16 = .ok (.ireturn, 1) := by decide +kernel
set_option maxRecDepth 20000 in
theorem ggL_names_X8_names : GoodIn wsL_names wsX8_names := goodIn_ca (goodIn_ca (goodIn_r _ [7, 8, 9, 10, 11, 12, 13, 14, 15, 6, 16, 17, 18, 19, 20, 21, 22, 23, 24, 25, 26, 27, 28, 29, 30, 31, 32, 33, 34, 35, 36, 37, 38, 39, 40, 41, 42, 43, 44, 45, 46, 47, 48, 49, 50, 51, 52, 53, 54, 55, 56] (by decide +kernel) (by decide +kernel)) (goodIn_sub (fun _ h => List.mem_cons_of_mem _ (List.mem_append_left _ (List.mem_append_right _ h))) (by decide +kernel))) (goodIn_sub (fun _ h => List.mem_cons_of_mem _ (List.mem_append_right _ h)) (by decide +kernel))
set_option maxRecDepth 20000 in
theorem gL_names_X8_names : GoodIn wsL_names (wsV RL 52 RX8 yX8_names wsX8_names) := goodIn_app (goodIn_of _ (by decide +kernel)) ggL_names_X8_names
theorem dL_names_0 : decode cL_names 0 = .ok (.aload_n 3, 1) := by decide +kernel
theorem dL_names_1 : decode cL_names 1 = .ok (.iconst 0, 1) := by decide +kernel
theorem dL_names_2 : decode cL_names 2 = .ok (.aload_n 0, 1) := by decide +kernel
theorem dL_names_3 : decode cL_names 3 = .ok (.iload_n 1, 1) := by decide +kernel
theorem dL_names_4 : decode cL_names 4 = .ok (.iload_n 2, 1) := by decide +kernel
theorem dL_names_5 : decode cL_names 5 = .ok (.invokevirtual 52, 3) := by decide +kernel
theorem dL_names_8 : decode cL_names 8 = .ok (.ifCond .eq 7, 3) := by decide +kernel
theorem dL_names_11 : decode cL_names 11 = .ok (.lconst 1, 1) := by decide +kernel
theorem dL_names_12 : decode cL_names 12 = .ok (.goto 4, 3) := by decide +kernel
theorem dL_names_15 : decode cL_names 15 = .ok (.lconst 0, 1) := by decide +kernel
theorem dL_names_16 : decode cL_names 16 = .ok (.lastore, 1) := by decide +kernel
theorem dL_names_17 : decode cL_names 17 = .ok (.goto 11, 3) := by decide +kernel
theorem dL_names_20 : decode cL_names 20 = .ok (.astore 4, 2) := by decide +kernel
theorem dL_names_22 : decode cL_names 22 = .ok (.iconst 1, 1) := by decide +kernel
theorem dL_names_23 : decode cL_names 23 = .ok (.ireturn, 1) := by decide +kernel
theorem dL_names_24 : decode cL_names 24 = .ok (.astore 4, 2) := by decide +kernel
theorem dL_names_26 : decode cL_names 26 = .ok (.iconst 2, 1) := by decide +kernel
theorem dL_names_27 : decode cL_names 27 = .ok (.ireturn, 1) := by decide +kernel
theorem dL_names_28 : decode cL_names 28 = .ok (.iconst 0, 1) := by decide +kernel
theorem dL_names_29 : decode cL_names 29 = .ok (.ireturn, 1) := by decide +kernel
set_option maxRecDepth 20000 in
theorem ggL_start_X8_start : GoodIn wsL_start wsX8_start := goodIn_ca (goodIn_ca (goodIn_r _ [7, 8, 9, 10, 11, 12, 6, 13, 14, 15, 16, 17, 18, 19, 20, 21, 22, 23, 24, 25, 26, 27, 28, 29, 30, 31, 32, 33, 34, 35, 36, 37, 38, 39, 40, 41, 42, 43, 44, 45, 46, 47, 48, 49, 50, 51, 52, 53, 54, 55, 56, 57, 58, 59, 60, 61, 62, 63, 64, 65, 66, 67, 68, 69, 70, 71, 72, 73, 74, 75, 76, 77, 78, 79, 80, 81, 82, 83, 84, 85, 86, 87, 88, 89] (by decide +kernel) (by decide +kernel)) (goodIn_sub (fun _ h => List.mem_cons_of_mem _ (List.mem_append_left _ (List.mem_append_right _ h))) (by decide +kernel))) (goodIn_sub (fun _ h => List.mem_cons_of_mem _ (List.mem_append_right _ h)) (by decide +kernel))
set_option maxRecDepth 20000 in
theorem gL_start_X8_start : GoodIn wsL_start (wsV RL 56 RX8 yX8_start wsX8_start) := goodIn_app (goodIn_of _ (by decide +kernel)) ggL_start_X8_start
theorem dL_start_0 : decode cL_start 0 = .ok (.aload_n 2, 1) := by decide +kernel
theorem dL_start_1 : decode cL_start 1 = .ok (.iconst 0, 1) := by decide +kernel
theorem dL_start_2 : decode cL_start 2 = .ok (.aload_n 0, 1) := by decide +kernel
theorem dL_start_3 : decode cL_start 3 = .ok (.iload_n 1, 1) := by decide +kernel
theorem dL_start_4 : decode cL_start 4 = .ok (.invokevirtual 56, 3) := by decide +kernel
theorem dL_start_7 : decode cL_start 7 = .ok (.i2l, 1) := by decide +kernel
theorem dL_start_8 : decode cL_start 8 = .ok (.lastore, 1) := by decide +kernel
theorem dL_start_9 : decode cL_start 9 = .ok (.goto 9, 3) := by decide +kernel
theorem dL_start_12 : decode cL_start 12 = .ok (.astore_n 3, 1) := by decide +kernel
theorem dL_start_13 : decode cL_start 13 = .ok (.iconst 1, 1) := by decide +kernel
theorem dL_start_14 : decode cL_start 14 = .ok (.ireturn, 1) := by decide +kernel
theorem dL_start_15 : decode cL_start 15 = .ok (.astore_n 3, 1) := by decide +kernel
theorem dL_start_16 : decode cL_start 16 = .ok (.iconst 2, 1) := by decide +kernel
theorem dL_start_17 : decode cL_start 17 = .ok (.ireturn, 1) := by decide +kernel
theorem dL_start_18 : decode cL_start 18 = .ok (.iconst 0, 1) := by decide +kernel
theorem dL_start_19 : decode cL_start 19 = .ok (.ireturn, 1) := by decide +kernel
set_option maxRecDepth 20000 in
theorem ggL_agrees_X8_agrees : GoodIn wsL_agrees wsX8_agrees := goodIn_ca (goodIn_ca (goodIn_r _ [7, 8, 9, 10, 11, 12, 6, 13, 14, 15, 16, 17, 18, 19, 20, 21, 22, 23, 24, 25, 26, 27, 28, 29, 30, 31, 32, 33, 34, 35, 36, 37, 38, 39, 40, 41, 42, 43, 44, 45, 46, 47, 48, 49, 50, 51, 52, 53, 54, 55, 56, 57, 58, 59, 60, 61, 62, 63, 64, 65, 66, 67, 68, 69, 70, 71, 72, 73, 74, 75, 76, 77, 78, 79, 80, 81, 82, 83, 84, 85, 86, 87, 88, 89] (by decide +kernel) (by decide +kernel)) (goodIn_sub (fun _ h => List.mem_cons_of_mem _ (List.mem_append_left _ (List.mem_append_right _ h))) (by decide +kernel))) (goodIn_sub (fun _ h => List.mem_cons_of_mem _ (List.mem_append_right _ h)) (by decide +kernel))
set_option maxRecDepth 20000 in
theorem gL_agrees_X8_agrees : GoodIn wsL_agrees (wsV RL 59 RX8 yX8_agrees wsX8_agrees) := goodIn_app (goodIn_of _ (by decide +kernel)) ggL_agrees_X8_agrees
theorem dL_agrees_0 : decode cL_agrees 0 = .ok (.aload_n 2, 1) := by decide +kernel
theorem dL_agrees_1 : decode cL_agrees 1 = .ok (.iconst 0, 1) := by decide +kernel
theorem dL_agrees_2 : decode cL_agrees 2 = .ok (.aload_n 0, 1) := by decide +kernel
theorem dL_agrees_3 : decode cL_agrees 3 = .ok (.iload_n 1, 1) := by decide +kernel
theorem dL_agrees_4 : decode cL_agrees 4 = .ok (.invokevirtual 59, 3) := by decide +kernel
theorem dL_agrees_7 : decode cL_agrees 7 = .ok (.i2l, 1) := by decide +kernel
theorem dL_agrees_8 : decode cL_agrees 8 = .ok (.lastore, 1) := by decide +kernel
theorem dL_agrees_9 : decode cL_agrees 9 = .ok (.goto 9, 3) := by decide +kernel
theorem dL_agrees_12 : decode cL_agrees 12 = .ok (.astore_n 3, 1) := by decide +kernel
theorem dL_agrees_13 : decode cL_agrees 13 = .ok (.iconst 1, 1) := by decide +kernel
theorem dL_agrees_14 : decode cL_agrees 14 = .ok (.ireturn, 1) := by decide +kernel
theorem dL_agrees_15 : decode cL_agrees 15 = .ok (.astore_n 3, 1) := by decide +kernel
theorem dL_agrees_16 : decode cL_agrees 16 = .ok (.iconst 2, 1) := by decide +kernel
theorem dL_agrees_17 : decode cL_agrees 17 = .ok (.ireturn, 1) := by decide +kernel
theorem dL_agrees_18 : decode cL_agrees 18 = .ok (.iconst 0, 1) := by decide +kernel
theorem dL_agrees_19 : decode cL_agrees 19 = .ok (.ireturn, 1) := by decide +kernel
set_option maxRecDepth 20000 in
theorem ggL_law_X8_init : GoodIn wsL_law wsX8_init := goodIn_r _ [9, 10, 11, 12, 13, 14, 15, 16, 17, 18, 19, 20, 21, 22, 23, 24, 25, 26, 27, 28, 29, 30, 31, 32, 33, 34, 35, 36, 37, 38, 39, 40, 41, 42, 43, 44, 45, 46, 47, 48, 49, 50, 51, 52, 53, 54, 55, 56, 57, 58, 59, 6, 60, 61, 62, 63, 64, 65, 66, 67, 68, 69, 70, 71, 72, 73, 74, 75, 76, 77, 78, 79, 80, 81, 82, 83, 84, 85, 825, 826, 827, 828, 829, 830, 831, 832, 866, 867, 868, 869, 870, 871, 872, 873, 874, 875, 876, 877, 878, 879, 880, 881, 882, 883, 884, 885, 886, 887, 888, 889, 890, 891, 892, 893, 894, 895, 896, 897, 898, 899, 900, 901, 902, 903, 904, 905, 906, 907, 908, 909, 910] (by decide +kernel) (by decide +kernel)
set_option maxRecDepth 20000 in
theorem gL_law_X8_init : GoodIn wsL_law (wsX8_init) := ggL_law_X8_init
set_option maxRecDepth 20000 in
theorem ggL_law_X9_init : GoodIn wsL_law wsX9_init := goodIn_r _ [88, 89, 11, 12, 13, 90, 91, 92, 6, 93, 94, 95, 96, 97, 98, 99, 100, 101, 102, 103, 79, 104, 105, 106, 833, 834, 835, 836, 837, 838, 839, 840, 841, 842, 843, 844, 845, 846, 847, 848, 849, 850, 851, 852, 853, 854, 855, 856, 857, 858, 859, 860, 861, 862, 863, 864, 865] (by decide +kernel) (by decide +kernel)
set_option maxRecDepth 20000 in
theorem gL_law_X9_init : GoodIn wsL_law (wsX9_init) := ggL_law_X9_init
set_option maxRecDepth 20000 in
theorem ggL_law_L_town : GoodIn wsL_law wsL_town := goodIn_ca (goodIn_ca (goodIn_r _ [110, 111, 112, 113, 114, 115, 2, 116, 117, 118, 119, 120, 33, 14, 825, 826, 827, 828, 829, 830, 831, 832] (by decide +kernel) (by decide +kernel)) (goodIn_sub (fun _ h => List.mem_append_left _ (List.mem_append_left _ (List.mem_append_right _ h))) (by decide +kernel))) (goodIn_sub (fun _ h => List.mem_append_left _ (List.mem_append_right _ h)) (by decide +kernel))
set_option maxRecDepth 20000 in
theorem gL_law_L_town : GoodIn wsL_law (va_wsS RL 66 yL_town wsL_town) := goodIn_app (goodIn_of _ (by decide +kernel)) ggL_law_L_town
set_option maxRecDepth 20000 in
theorem ggL_law_X9_town : GoodIn wsL_law wsX9_town := goodIn_r _ [124, 125, 126, 90, 127, 128, 129, 5, 130, 833, 834, 835, 836, 837, 838, 839, 840, 841, 842, 843, 844, 845, 846, 847, 848, 849, 850, 851, 852, 853, 854, 855, 856, 857, 858, 859, 860, 861, 862, 863, 864, 865] (by decide +kernel) (by decide +kernel)
set_option maxRecDepth 20000 in
theorem gL_law_X9_town : GoodIn wsL_law (wsV RL 71 RX9 yX9_town wsX9_town) := goodIn_app (goodIn_of _ (by decide +kernel)) ggL_law_X9_town
set_option maxRecDepth 20000 in
theorem ggL_law_X9_thrown : GoodIn wsL_law wsX9_thrown := goodIn_r _ [134, 125, 833, 834, 835, 836, 837, 838, 839, 840, 841, 842, 843, 844, 845, 846, 847, 848, 849, 850, 851, 852, 853, 854, 855, 856, 857, 858, 859, 860, 861, 862, 863, 864, 865] (by decide +kernel) (by decide +kernel)
set_option maxRecDepth 20000 in
theorem gL_law_X9_thrown : GoodIn wsL_law (wsV RL 72 RX9 yX9_thrown wsX9_thrown) := goodIn_app (goodIn_of _ (by decide +kernel)) ggL_law_X9_thrown
set_option maxRecDepth 20000 in
theorem ggL_law_L_of : GoodIn wsL_law wsL_of := goodIn_ca (goodIn_r _ [137, 111, 138, 139, 140, 2, 141, 117, 118, 142, 143, 144, 145, 146, 147, 148, 149, 150, 151, 152, 153, 154, 155] (by decide +kernel) (by decide +kernel)) (goodIn_sub (fun _ h => List.mem_append_left _ (List.mem_append_left _ (List.mem_append_right _ h))) (by decide +kernel))
set_option maxRecDepth 20000 in
theorem gL_law_L_of : GoodIn wsL_law (va_wsS RL 76 yL_of wsL_of) := goodIn_app (goodIn_of _ (by decide +kernel)) ggL_law_L_of
set_option maxRecDepth 20000 in
theorem ggL_law_X9_of : GoodIn wsL_law wsX9_of := goodIn_r _ [159, 125, 160, 161, 5, 162, 163, 164, 127, 128, 129, 130, 165, 166, 167, 168, 833, 834, 835, 836, 837, 838, 839, 840, 841, 842, 843, 844, 845, 846, 847, 848, 849, 850, 851, 852, 853, 854, 855, 856, 857, 858, 859, 860, 861, 862, 863, 864, 865] (by decide +kernel) (by decide +kernel)
set_option maxRecDepth 20000 in
theorem gL_law_X9_of : GoodIn wsL_law (wsV RL 79 RX9 yX9_of wsX9_of) := goodIn_app (goodIn_of _ (by decide +kernel)) ggL_law_X9_of
set_option maxRecDepth 20000 in
theorem ggL_law_L_moon : GoodIn wsL_law wsL_moon := goodIn_ca (goodIn_ca (goodIn_r _ [171, 111, 172, 173, 174, 175, 2, 176, 14, 142, 143, 144, 145, 117, 118, 146, 147, 148, 149, 150, 151, 177, 178, 179, 180, 181, 182, 33, 152, 153, 154, 155, 825, 826, 827, 828, 829, 830, 831, 832] (by decide +kernel) (by decide +kernel)) (goodIn_sub (fun _ h => List.mem_append_left _ (List.mem_append_left _ (List.mem_append_right _ h))) (by decide +kernel))) (goodIn_sub (fun _ h => List.mem_append_right _ h) (by decide +kernel))
set_option maxRecDepth 20000 in
theorem gL_law_L_moon : GoodIn wsL_law (va_wsS RL 80 yL_moon wsL_moon) := goodIn_app (goodIn_of _ (by decide +kernel)) ggL_law_L_moon
set_option maxRecDepth 20000 in
theorem ggL_law_X9_moon : GoodIn wsL_law wsX9_moon := goodIn_r _ [186, 125, 126, 90, 160, 161, 5, 162, 163, 164, 127, 128, 129, 130, 187, 188, 189, 190, 191, 833, 834, 835, 836, 837, 838, 839, 840, 841, 842, 843, 844, 845, 846, 847, 848, 849, 850, 851, 852, 853, 854, 855, 856, 857, 858, 859, 860, 861, 862, 863, 864, 865] (by decide +kernel) (by decide +kernel)
set_option maxRecDepth 20000 in
theorem gL_law_X9_moon : GoodIn wsL_law (wsV RL 82 RX9 yX9_moon wsX9_moon) := goodIn_app (goodIn_of _ (by decide +kernel)) ggL_law_X9_moon
set_option maxRecDepth 20000 in
theorem ggL_law_X8_feed : GoodIn wsL_law wsX8_feed := goodIn_r _ [195, 20, 196, 197, 198, 199, 19, 200, 201, 202, 203, 204, 205, 39, 825, 826, 827, 828, 829, 830, 831, 832, 866, 867, 868, 869, 870, 871, 872] (by decide +kernel) (by decide +kernel)
set_option maxRecDepth 20000 in
theorem gL_law_X8_feed : GoodIn wsL_law (wsV RL 83 RX8 yX8_feed wsX8_feed) := goodIn_app (goodIn_of _ (by decide +kernel)) ggL_law_X8_feed
set_option maxRecDepth 20000 in
theorem ggL_law_X9_feed : GoodIn wsL_law wsX9_feed := goodIn_r _ [209, 125, 210, 92, 833, 834, 835, 836, 837, 838, 839, 840, 841, 842, 843, 844, 845, 846, 847, 848, 849, 850, 851, 852, 853, 854, 855, 856, 857, 858, 859, 860, 861, 862, 863, 864, 865] (by decide +kernel) (by decide +kernel)
set_option maxRecDepth 20000 in
theorem gL_law_X9_feed : GoodIn wsL_law (wsV RL 87 RX9 yX9_feed wsX9_feed) := goodIn_app (goodIn_of _ (by decide +kernel)) ggL_law_X9_feed
set_option maxRecDepth 20000 in
theorem ggL_law_L_stone : GoodIn wsL_law wsL_stone := goodIn_ca (goodIn_ca (goodIn_ca (goodIn_r _ [213, 172, 111, 112, 214, 215, 216, 2, 217, 117, 118, 119, 120, 20, 196, 34, 218, 24, 219, 14, 15, 220, 221, 222, 223, 224, 225, 226, 227, 228, 229, 230, 16, 28, 177, 178, 179, 180, 181, 182, 33, 231, 232, 233, 19, 234, 235, 236, 57, 237, 238, 56, 58, 239, 240, 38, 241, 242, 243, 244, 245, 246, 247, 248, 39, 249, 250, 251, 252, 253, 254, 255, 256, 257, 258, 259, 260, 261, 262, 263, 264, 265, 266, 267, 268, 269, 270, 271, 272, 273, 274, 275, 276, 277, 278, 279, 280, 281, 282, 283, 284, 285, 286, 287, 288, 289, 290, 291, 292, 293, 294, 295, 296, 297, 298, 299, 300, 301, 302, 303, 304, 305, 306, 307, 308, 309, 310, 311, 312, 313, 314, 315, 316, 317, 318, 319, 320, 321, 322, 323, 324, 325, 326, 327, 328, 329, 330, 331, 332, 333, 334, 335, 336, 337, 338, 339, 340, 341, 342, 343, 344, 345, 346, 347, 348, 349, 350, 23, 351, 352, 353, 354, 355, 356, 357, 358, 359, 47, 360, 361, 362, 46, 363, 364, 60, 365, 366, 367, 368, 153, 148, 154, 155, 369, 370, 371, 372, 373, 374, 375, 55, 59, 376, 377, 378, 379, 48, 380, 381, 382, 383, 49, 384, 385, 386, 387, 50, 388, 389, 390, 391, 392, 393, 394, 395, 396, 397, 398, 399, 400, 401, 402, 403, 404, 405, 406, 407, 43, 408, 409, 410, 411, 412, 13, 413, 414, 415, 416, 417, 418, 419, 420, 421, 11, 12, 422, 423, 424, 425, 426, 427, 428, 27, 429, 430, 66, 431, 825, 826, 827, 828, 829, 830, 831, 832, 866, 867, 868, 869, 870, 871, 872, 911, 912, 913, 914, 873, 874, 875, 876, 877, 878, 879, 908, 909, 910, 880, 881, 882, 883, 884, 885, 886, 887, 888, 889, 890, 891, 892] (by decide +kernel) (by decide +kernel)) (goodIn_sub (fun _ h => List.mem_append_left _ (List.mem_append_left _ (List.mem_append_right _ h))) (by decide +kernel))) (goodIn_sub (fun _ h => List.mem_append_left _ (List.mem_append_right _ h)) (by decide +kernel))) (goodIn_sub (fun _ h => List.mem_append_right _ h) (by decide +kernel))
set_option maxRecDepth 20000 in
theorem gL_law_L_stone : GoodIn wsL_law (va_wsS RL 88 yL_stone wsL_stone) := goodIn_app (goodIn_of _ (by decide +kernel)) ggL_law_L_stone
set_option maxRecDepth 20000 in
theorem ggL_law_X9_stone : GoodIn wsL_law wsX9_stone := goodIn_r _ [435, 125, 126, 210, 436, 437, 438, 439, 93, 440, 94, 95, 441, 127, 128, 129, 5, 130, 442, 443, 444, 445, 446, 447, 448, 449, 450, 451, 452, 453, 454, 455, 456, 457, 458, 459, 460, 92, 461, 266, 267, 268, 269, 270, 271, 272, 273, 274, 275, 276, 462, 278, 279, 280, 281, 282, 283, 284, 285, 286, 287, 288, 289, 290, 291, 292, 293, 294, 295, 296, 297, 298, 299, 300, 301, 302, 303, 304, 305, 306, 307, 308, 309, 310, 311, 312, 313, 463, 464, 465, 466, 467, 468, 469, 470, 471, 472, 473, 474, 475, 476, 477, 478, 479, 480, 481, 482, 483, 484, 485, 486, 487, 488, 96, 163, 164, 97, 489, 490, 491, 492, 90, 165, 166, 167, 168, 493, 494, 495, 496, 187, 188, 189, 190, 191, 833, 834, 835, 836, 837, 838, 839, 840, 841, 842, 843, 844, 845, 846, 847, 848, 849, 850, 851, 852, 853, 854, 855, 856, 857, 858, 859, 860, 861, 862, 863, 864, 865] (by decide +kernel) (by decide +kernel)
set_option maxRecDepth 20000 in
theorem gL_law_X9_stone : GoodIn wsL_law (wsV RL 90 RX9 yX9_stone wsX9_stone) := goodIn_app (goodIn_of _ (by decide +kernel)) ggL_law_X9_stone
set_option maxRecDepth 20000 in
theorem ggL_law_L_many : GoodIn wsL_law wsL_many := goodIn_ca (goodIn_r _ [499, 172, 500, 501, 502, 2, 503, 504, 505, 506, 507, 508, 181, 182, 34, 16, 911, 912, 913, 914, 825, 826, 827, 828, 829, 830, 831, 832] (by decide +kernel) (by decide +kernel)) (goodIn_sub (fun _ h => List.mem_append_right _ h) (by decide +kernel))
set_option maxRecDepth 20000 in
theorem gL_law_L_many : GoodIn wsL_law (va_wsS RL 91 yL_many wsL_many) := goodIn_app (goodIn_of _ (by decide +kernel)) ggL_law_L_many
set_option maxRecDepth 20000 in
theorem ggL_law_X9_many : GoodIn wsL_law wsX9_many := goodIn_r _ [512, 96, 513, 514, 515, 5, 516, 436, 125, 833, 834, 835, 836, 837, 838, 839, 840, 841, 842, 843, 844, 845, 846, 847, 848, 849, 850, 851, 852, 853, 854, 855, 856, 857, 858, 859, 860, 861, 862, 863, 864, 865] (by decide +kernel) (by decide +kernel)
set_option maxRecDepth 20000 in
theorem gL_law_X9_many : GoodIn wsL_law (wsV RL 93 RX9 yX9_many wsX9_many) := goodIn_app (goodIn_of _ (by decide +kernel)) ggL_law_X9_many
set_option maxRecDepth 20000 in
theorem ggL_law_L_day : GoodIn wsL_law wsL_day := goodIn_ca (goodIn_r _ [519, 172, 520, 521, 522, 2, 523, 524, 505, 506, 507, 508, 181, 182, 34, 16, 911, 912, 913, 914, 825, 826, 827, 828, 829, 830, 831, 832] (by decide +kernel) (by decide +kernel)) (goodIn_sub (fun _ h => List.mem_append_right _ h) (by decide +kernel))
set_option maxRecDepth 20000 in
theorem gL_law_L_day : GoodIn wsL_law (va_wsS RL 94 yL_day wsL_day) := goodIn_app (goodIn_of _ (by decide +kernel)) ggL_law_L_day
set_option maxRecDepth 20000 in
theorem ggL_law_X9_day : GoodIn wsL_law wsX9_day := goodIn_r _ [528, 96, 97, 513, 514, 515, 5, 516, 436, 125, 833, 834, 835, 836, 837, 838, 839, 840, 841, 842, 843, 844, 845, 846, 847, 848, 849, 850, 851, 852, 853, 854, 855, 856, 857, 858, 859, 860, 861, 862, 863, 864, 865] (by decide +kernel) (by decide +kernel)
set_option maxRecDepth 20000 in
theorem gL_law_X9_day : GoodIn wsL_law (wsV RL 96 RX9 yX9_day wsX9_day) := goodIn_app (goodIn_of _ (by decide +kernel)) ggL_law_X9_day
set_option maxRecDepth 20000 in
theorem ggL_law_L_fits : GoodIn wsL_law wsL_fits := goodIn_ca (goodIn_ca (goodIn_r _ [531, 172, 111, 532, 533, 534, 2, 535, 505, 506, 507, 508, 181, 182, 34, 16, 142, 143, 144, 145, 117, 118, 146, 147, 148, 149, 150, 151, 536, 537, 538, 221, 539, 423, 422, 540, 153, 154, 155, 541, 370, 371, 825, 826, 827, 828, 829, 830, 831, 832, 911, 912, 913, 914] (by decide +kernel) (by decide +kernel)) (goodIn_sub (fun _ h => List.mem_append_right _ h) (by decide +kernel))) (goodIn_sub (fun _ h => List.mem_append_left _ (List.mem_append_left _ (List.mem_append_right _ h))) (by decide +kernel))
set_option maxRecDepth 20000 in
theorem gL_law_L_fits : GoodIn wsL_law (va_wsS RL 97 yL_fits wsL_fits) := goodIn_app (goodIn_of _ (by decide +kernel)) ggL_law_L_fits
set_option maxRecDepth 20000 in
theorem ggL_law_X9_fits : GoodIn wsL_law wsX9_fits := goodIn_r _ [545, 513, 514, 515, 5, 516, 436, 125, 160, 161, 162, 163, 164, 127, 128, 129, 130, 489, 490, 491, 492, 90, 95, 165, 166, 167, 168, 493, 494, 495, 496, 93, 94, 187, 188, 189, 190, 191, 833, 834, 835, 836, 837, 838, 839, 840, 841, 842, 843, 844, 845, 846, 847, 848, 849, 850, 851, 852, 853, 854, 855, 856, 857, 858, 859, 860, 861, 862, 863, 864, 865] (by decide +kernel) (by decide +kernel)
set_option maxRecDepth 20000 in
theorem gL_law_X9_fits : GoodIn wsL_law (wsV RL 99 RX9 yX9_fits wsX9_fits) := goodIn_app (goodIn_of _ (by decide +kernel)) ggL_law_X9_fits
set_option maxRecDepth 20000 in
theorem ggL_law_L_distance : GoodIn wsL_law wsL_distance := goodIn_ca (goodIn_ca (goodIn_ca (goodIn_r _ [548, 172, 111, 112, 549, 550, 551, 2, 552, 117, 118, 119, 120, 553, 554, 28, 555, 505, 506, 507, 508, 181, 182, 34, 16, 556, 557, 558, 27, 559, 560, 67, 68, 69, 825, 826, 827, 828, 829, 830, 831, 832, 880, 881, 882, 883, 884, 885, 886, 887, 888, 889, 890, 891, 892] (by decide +kernel) (by decide +kernel)) (goodIn_sub (fun _ h => List.mem_append_left _ (List.mem_append_left _ (List.mem_append_right _ h))) (by decide +kernel))) (goodIn_sub (fun _ h => List.mem_append_left _ (List.mem_append_right _ h)) (by decide +kernel))) (goodIn_sub (fun _ h => List.mem_append_right _ h) (by decide +kernel))
set_option maxRecDepth 20000 in
theorem gL_law_L_distance : GoodIn wsL_law (va_wsS RL 100 yL_distance wsL_distance) := goodIn_app (goodIn_of _ (by decide +kernel)) ggL_law_L_distance
set_option maxRecDepth 20000 in
theorem ggL_law_X9_distance : GoodIn wsL_law wsX9_distance := goodIn_r _ [564, 125, 436, 565, 566, 567, 98, 99, 100, 441, 127, 128, 129, 5, 130, 833, 834, 835, 836, 837, 838, 839, 840, 841, 842, 843, 844, 845, 846, 847, 848, 849, 850, 851, 852, 853, 854, 855, 856, 857, 858, 859, 860, 861, 862, 863, 864, 865] (by decide +kernel) (by decide +kernel)
set_option maxRecDepth 20000 in
theorem gL_law_X9_distance : GoodIn wsL_law (wsV RL 103 RX9 yX9_distance wsX9_distance) := goodIn_app (goodIn_of _ (by decide +kernel)) ggL_law_X9_distance
set_option maxRecDepth 20000 in
theorem ggL_law_X8_least : GoodIn wsL_law wsX8_least := goodIn_r _ [571, 28, 572, 573, 574, 575, 27, 576, 577, 560, 578, 579, 580, 581, 582, 583, 584, 585, 586, 587, 588, 589, 590, 591, 592, 593, 594, 66, 67, 68, 595, 596, 597, 598, 71, 599, 415, 416, 417, 72, 600, 601, 602, 603, 69, 604, 605, 606, 607, 73, 74, 608, 609, 610, 611, 612, 613, 614, 615, 616, 825, 826, 827, 828, 829, 830, 831, 832, 880, 881, 882, 883, 884, 885, 886, 887, 888, 889, 890, 891, 892, 911, 912, 913, 914] (by decide +kernel) (by decide +kernel)
set_option maxRecDepth 20000 in
theorem gL_law_X8_least : GoodIn wsL_law (wsV RL 104 RX8 yX8_least wsX8_least) := goodIn_app (goodIn_of _ (by decide +kernel)) ggL_law_X8_least
set_option maxRecDepth 20000 in
theorem ggL_law_X9_least : GoodIn wsL_law wsX9_least := goodIn_r _ [620, 125, 621, 622, 623, 624, 5, 625, 441, 626, 567, 98, 99, 101, 436, 104, 96, 97, 627, 628, 629, 630, 631, 632, 633, 634, 635, 636, 637, 638, 639, 640, 641, 102, 103, 100, 642, 643, 644, 645, 646, 647, 648, 649, 650, 651, 652, 653, 833, 834, 835, 836, 837, 838, 839, 840, 841, 842, 843, 844, 845, 846, 847, 848, 849, 850, 851, 852, 853, 854, 855, 856, 857, 858, 859, 860, 861, 862, 863, 864, 865] (by decide +kernel) (by decide +kernel)
set_option maxRecDepth 20000 in
theorem gL_law_X9_least : GoodIn wsL_law (wsV RL 107 RX9 yX9_least wsX9_least) := goodIn_app (goodIn_of _ (by decide +kernel)) ggL_law_X9_least
set_option maxRecDepth 20000 in
theorem ggL_law_X8_wrong : GoodIn wsL_law wsX8_wrong := goodIn_r _ [657, 28, 573, 574, 575, 27, 576, 577, 560, 578, 579, 580, 581, 582, 583, 584, 585, 586, 587, 588, 589, 590, 591, 592, 593, 594, 66, 67, 68, 595, 596, 597, 598, 71, 599, 415, 416, 417, 72, 600, 601, 602, 603, 69, 604, 605, 606, 607, 73, 74, 608, 609, 610, 611, 612, 613, 614, 615, 616, 658, 659, 660, 661, 825, 826, 827, 828, 829, 830, 831, 832, 880, 881, 882, 883, 884, 885, 886, 887, 888, 889, 890, 891, 892, 911, 912, 913, 914] (by decide +kernel) (by decide +kernel)
set_option maxRecDepth 20000 in
theorem gL_law_X8_wrong : GoodIn wsL_law (wsV RL 108 RX8 yX8_wrong wsX8_wrong) := goodIn_app (goodIn_of _ (by decide +kernel)) ggL_law_X8_wrong
set_option maxRecDepth 20000 in
theorem ggL_law_X9_wrong : GoodIn wsL_law wsX9_wrong := goodIn_r _ [665, 125, 626, 621, 101, 622, 623, 624, 5, 625, 441, 567, 98, 99, 436, 104, 96, 97, 627, 628, 629, 630, 631, 632, 633, 634, 635, 636, 637, 638, 639, 640, 641, 102, 103, 100, 642, 643, 644, 645, 646, 647, 648, 649, 650, 651, 652, 653, 833, 834, 835, 836, 837, 838, 839, 840, 841, 842, 843, 844, 845, 846, 847, 848, 849, 850, 851, 852, 853, 854, 855, 856, 857, 858, 859, 860, 861, 862, 863, 864, 865] (by decide +kernel) (by decide +kernel)
set_option maxRecDepth 20000 in
theorem gL_law_X9_wrong : GoodIn wsL_law (wsV RL 111 RX9 yX9_wrong wsX9_wrong) := goodIn_app (goodIn_of _ (by decide +kernel)) ggL_law_X9_wrong
set_option maxRecDepth 20000 in
theorem ggL_law_L_settled : GoodIn wsL_law wsL_settled := goodIn_ca (goodIn_r _ [668, 172, 669, 670, 671, 2, 672, 28, 505, 506, 507, 508, 181, 182, 34, 16, 573, 574, 575, 27, 576, 577, 560, 578, 579, 580, 581, 582, 583, 584, 585, 586, 587, 588, 589, 590, 591, 592, 593, 594, 66, 67, 68, 595, 596, 597, 598, 71, 599, 415, 416, 417, 72, 600, 601, 602, 603, 69, 604, 605, 606, 607, 73, 74, 608, 609, 610, 611, 612, 613, 614, 615, 616, 673, 674, 675, 676, 825, 826, 827, 828, 829, 830, 831, 832, 880, 881, 882, 883, 884, 885, 886, 887, 888, 889, 890, 891, 892, 911, 912, 913, 914] (by decide +kernel) (by decide +kernel)) (goodIn_sub (fun _ h => List.mem_append_right _ h) (by decide +kernel))
set_option maxRecDepth 20000 in
theorem gL_law_L_settled : GoodIn wsL_law (va_wsS RL 112 yL_settled wsL_settled) := goodIn_app (goodIn_of _ (by decide +kernel)) ggL_law_L_settled
set_option maxRecDepth 20000 in
theorem ggL_law_X9_settled : GoodIn wsL_law wsX9_settled := goodIn_r _ [680, 104, 513, 514, 515, 5, 516, 436, 125, 627, 628, 629, 630, 96, 622, 623, 624, 625, 441, 626, 567, 98, 99, 101, 621, 97, 631, 632, 633, 634, 635, 636, 637, 638, 639, 640, 641, 102, 103, 100, 642, 643, 644, 645, 646, 647, 648, 649, 650, 651, 652, 653, 833, 834, 835, 836, 837, 838, 839, 840, 841, 842, 843, 844, 845, 846, 847, 848, 849, 850, 851, 852, 853, 854, 855, 856, 857, 858, 859, 860, 861, 862, 863, 864, 865] (by decide +kernel) (by decide +kernel)
set_option maxRecDepth 20000 in
theorem gL_law_X9_settled : GoodIn wsL_law (wsV RL 114 RX9 yX9_settled wsX9_settled) := goodIn_app (goodIn_of _ (by decide +kernel)) ggL_law_X9_settled
set_option maxRecDepth 20000 in
theorem ggL_law_L_settledDay : GoodIn wsL_law wsL_settledDay := goodIn_ca (goodIn_r _ [683, 172, 684, 685, 686, 2, 687, 28, 505, 506, 507, 508, 181, 182, 34, 16, 573, 574, 575, 27, 576, 577, 560, 578, 579, 580, 581, 582, 583, 584, 585, 586, 587, 588, 589, 590, 591, 592, 593, 594, 66, 67, 68, 595, 596, 597, 598, 71, 599, 415, 416, 417, 72, 600, 601, 602, 603, 69, 604, 605, 606, 607, 73, 74, 608, 609, 610, 611, 612, 613, 614, 615, 616, 688, 689, 690, 691, 692, 674, 675, 676, 825, 826, 827, 828, 829, 830, 831, 832, 880, 881, 882, 883, 884, 885, 886, 887, 888, 889, 890, 891, 892, 911, 912, 913, 914] (by decide +kernel) (by decide +kernel)) (goodIn_sub (fun _ h => List.mem_append_right _ h) (by decide +kernel))
set_option maxRecDepth 20000 in
theorem gL_law_L_settledDay : GoodIn wsL_law (va_wsS RL 115 yL_settledDay wsL_settledDay) := goodIn_app (goodIn_of _ (by decide +kernel)) ggL_law_L_settledDay
set_option maxRecDepth 20000 in
theorem ggL_law_X9_settledDay : GoodIn wsL_law wsX9_settledDay := goodIn_r _ [696, 104, 97, 513, 514, 515, 5, 516, 436, 125, 627, 628, 629, 630, 96, 622, 623, 624, 625, 441, 626, 567, 98, 99, 101, 621, 631, 632, 633, 634, 635, 636, 637, 638, 639, 640, 641, 102, 103, 100, 642, 643, 644, 645, 646, 647, 648, 649, 650, 651, 652, 653, 833, 834, 835, 836, 837, 838, 839, 840, 841, 842, 843, 844, 845, 846, 847, 848, 849, 850, 851, 852, 853, 854, 855, 856, 857, 858, 859, 860, 861, 862, 863, 864, 865] (by decide +kernel) (by decide +kernel)
set_option maxRecDepth 20000 in
theorem gL_law_X9_settledDay : GoodIn wsL_law (wsV RL 117 RX9 yX9_settledDay wsX9_settledDay) := goodIn_app (goodIn_of _ (by decide +kernel)) ggL_law_X9_settledDay
set_option maxRecDepth 20000 in
theorem ggL_law_L_eclipse : GoodIn wsL_law wsL_eclipse := goodIn_ca (goodIn_r _ [699, 111, 700, 701, 702, 2, 703, 117, 118, 704, 32, 705, 706, 707, 31, 708, 709, 78, 710, 415, 416, 417, 85, 825, 826, 827, 828, 829, 830, 831, 832, 893, 894, 895, 896, 897, 898, 899, 900, 901, 902, 903, 904, 905, 906, 907] (by decide +kernel) (by decide +kernel)) (goodIn_sub (fun _ h => List.mem_append_left _ (List.mem_append_left _ (List.mem_append_right _ h))) (by decide +kernel))
set_option maxRecDepth 20000 in
theorem gL_law_L_eclipse : GoodIn wsL_law (va_wsS RL 118 yL_eclipse wsL_eclipse) := goodIn_app (goodIn_of _ (by decide +kernel)) ggL_law_L_eclipse
set_option maxRecDepth 20000 in
theorem ggL_law_X9_eclipse : GoodIn wsL_law wsX9_eclipse := goodIn_r _ [714, 125, 715, 716, 105, 127, 128, 129, 5, 130, 833, 834, 835, 836, 837, 838, 839, 840, 841, 842, 843, 844, 845, 846, 847, 848, 849, 850, 851, 852, 853, 854, 855, 856, 857, 858, 859, 860, 861, 862, 863, 864, 865] (by decide +kernel) (by decide +kernel)
set_option maxRecDepth 20000 in
theorem gL_law_X9_eclipse : GoodIn wsL_law (wsV RL 120 RX9 yX9_eclipse wsX9_eclipse) := goodIn_app (goodIn_of _ (by decide +kernel)) ggL_law_X9_eclipse
set_option maxRecDepth 20000 in
theorem ggL_law_L_names : GoodIn wsL_law wsL_names := goodIn_ca (goodIn_ca (goodIn_r _ [719, 172, 112, 720, 721, 722, 2, 723, 119, 120, 504, 524, 32, 505, 506, 507, 508, 181, 182, 34, 16, 724, 725, 726, 31, 727, 80, 81, 728, 85, 911, 912, 913, 914, 825, 826, 827, 828, 829, 830, 831, 832, 893, 894, 895, 896, 897, 898, 899, 900, 901, 902, 903, 904, 905, 906, 907] (by decide +kernel) (by decide +kernel)) (goodIn_sub (fun _ h => List.mem_append_left _ (List.mem_append_right _ h)) (by decide +kernel))) (goodIn_sub (fun _ h => List.mem_append_right _ h) (by decide +kernel))
set_option maxRecDepth 20000 in
theorem gL_law_L_names : GoodIn wsL_law (va_wsS RL 121 yL_names wsL_names) := goodIn_app (goodIn_of _ (by decide +kernel)) ggL_law_L_names
set_option maxRecDepth 20000 in
theorem ggL_law_X9_names : GoodIn wsL_law wsX9_names := goodIn_r _ [732, 96, 106, 513, 514, 515, 5, 516, 436, 125, 127, 128, 129, 130, 833, 834, 835, 836, 837, 838, 839, 840, 841, 842, 843, 844, 845, 846, 847, 848, 849, 850, 851, 852, 853, 854, 855, 856, 857, 858, 859, 860, 861, 862, 863, 864, 865] (by decide +kernel) (by decide +kernel)
set_option maxRecDepth 20000 in
theorem gL_law_X9_names : GoodIn wsL_law (wsV RL 124 RX9 yX9_names wsX9_names) := goodIn_app (goodIn_of _ (by decide +kernel)) ggL_law_X9_names
set_option maxRecDepth 20000 in
theorem ggL_law_L_start : GoodIn wsL_law wsL_start := goodIn_ca (goodIn_ca (goodIn_r _ [735, 111, 112, 736, 737, 738, 2, 739, 32, 740, 741, 742, 743, 744, 117, 118, 119, 120, 745, 746, 747, 748, 749, 31, 750, 85, 751, 752, 753, 754, 709, 82, 84, 83, 755, 756, 757, 758, 78, 759, 56, 57, 58, 760, 236, 237, 761, 762, 763, 764, 80, 81, 765, 766, 767, 768, 769, 770, 771, 772, 773, 774, 775, 776, 777, 778, 779, 825, 826, 827, 828, 829, 830, 831, 832, 893, 894, 895, 896, 897, 898, 899, 900, 901, 902, 903, 904, 905, 906, 907] (by decide +kernel) (by decide +kernel)) (goodIn_sub (fun _ h => List.mem_append_left _ (List.mem_append_left _ (List.mem_append_right _ h))) (by decide +kernel))) (goodIn_sub (fun _ h => List.mem_append_left _ (List.mem_append_right _ h)) (by decide +kernel))
set_option maxRecDepth 20000 in
theorem gL_law_L_start : GoodIn wsL_law (va_wsS RL 125 yL_start wsL_start) := goodIn_app (goodIn_of _ (by decide +kernel)) ggL_law_L_start
set_option maxRecDepth 20000 in
theorem ggL_law_X9_start : GoodIn wsL_law wsX9_start := goodIn_r _ [783, 784, 785, 786, 787, 5, 788, 125, 716, 127, 128, 129, 130, 789, 790, 791, 792, 436, 106, 793, 794, 795, 796, 797, 798, 799, 105, 97, 800, 801, 802, 803, 833, 834, 835, 836, 837, 838, 839, 840, 841, 842, 843, 844, 845, 846, 847, 848, 849, 850, 851, 852, 853, 854, 855, 856, 857, 858, 859, 860, 861, 862, 863, 864, 865] (by decide +kernel) (by decide +kernel)
set_option maxRecDepth 20000 in
theorem gL_law_X9_start : GoodIn wsL_law (wsV RL 127 RX9 yX9_start wsX9_start) := goodIn_app (goodIn_of _ (by decide +kernel)) ggL_law_X9_start
set_option maxRecDepth 20000 in
theorem ggL_law_L_agrees : GoodIn wsL_law wsL_agrees := goodIn_ca (goodIn_ca (goodIn_r _ [806, 111, 112, 807, 808, 809, 2, 810, 32, 811, 741, 742, 743, 744, 117, 118, 119, 120, 745, 746, 747, 748, 749, 31, 750, 85, 751, 752, 753, 754, 709, 82, 84, 83, 755, 756, 757, 758, 78, 759, 56, 57, 58, 760, 236, 237, 761, 762, 763, 764, 80, 81, 765, 766, 767, 768, 769, 770, 771, 772, 773, 774, 775, 776, 777, 778, 779, 825, 826, 827, 828, 829, 830, 831, 832, 893, 894, 895, 896, 897, 898, 899, 900, 901, 902, 903, 904, 905, 906, 907] (by decide +kernel) (by decide +kernel)) (goodIn_sub (fun _ h => List.mem_append_left _ (List.mem_append_left _ (List.mem_append_right _ h))) (by decide +kernel))) (goodIn_sub (fun _ h => List.mem_append_left _ (List.mem_append_right _ h)) (by decide +kernel))
set_option maxRecDepth 20000 in
theorem gL_law_L_agrees : GoodIn wsL_law (va_wsS RL 128 yL_agrees wsL_agrees) := goodIn_app (goodIn_of _ (by decide +kernel)) ggL_law_L_agrees
set_option maxRecDepth 20000 in
theorem ggL_law_X9_agrees : GoodIn wsL_law wsX9_agrees := goodIn_r _ [815, 797, 785, 786, 787, 5, 788, 125, 716, 127, 128, 129, 130, 789, 790, 791, 792, 436, 106, 793, 794, 795, 796, 798, 799, 784, 105, 97, 800, 801, 802, 803, 833, 834, 835, 836, 837, 838, 839, 840, 841, 842, 843, 844, 845, 846, 847, 848, 849, 850, 851, 852, 853, 854, 855, 856, 857, 858, 859, 860, 861, 862, 863, 864, 865] (by decide +kernel) (by decide +kernel)
set_option maxRecDepth 20000 in
theorem gL_law_X9_agrees : GoodIn wsL_law (wsV RL 130 RX9 yX9_agrees wsX9_agrees) := goodIn_app (goodIn_of _ (by decide +kernel)) ggL_law_X9_agrees
set_option maxRecDepth 20000 in
theorem ggL_law_X8_count : GoodIn wsL_law wsX8_count := goodIn_r _ [819, 33, 34, 28, 555, 32, 745, 746, 20, 196, 820, 825, 826, 827, 828, 829, 830, 831, 832, 880, 881, 882, 883, 884, 885, 886, 887, 888, 889, 890, 891, 892, 893, 894, 895, 896, 897, 898, 899, 900, 901, 902, 903, 904, 905, 906, 907, 866, 867, 868, 869, 870, 871, 872] (by decide +kernel) (by decide +kernel)
set_option maxRecDepth 20000 in
theorem gL_law_X8_count : GoodIn wsL_law (wsV RL 131 RX8 yX8_count wsX8_count) := goodIn_app (goodIn_of _ (by decide +kernel)) ggL_law_X8_count
set_option maxRecDepth 20000 in
theorem ggL_law_X9_count : GoodIn wsL_law wsX9_count := goodIn_r _ [824, 125, 126, 436, 567, 716, 210, 789, 790, 791, 5, 792, 106, 627, 628, 629, 630, 96, 833, 834, 835, 836, 837, 838, 839, 840, 841, 842, 843, 844, 845, 846, 847, 848, 849, 850, 851, 852, 853, 854, 855, 856, 857, 858, 859, 860, 861, 862, 863, 864, 865] (by decide +kernel) (by decide +kernel)
set_option maxRecDepth 20000 in
theorem gL_law_X9_count : GoodIn wsL_law (wsV RL 134 RX9 yX9_count wsX9_count) := goodIn_app (goodIn_of _ (by decide +kernel)) ggL_law_X9_count
theorem dL_law_0 : decode cL_law 0 = .ok (.new 8, 3) := by decide +kernel
theorem dL_law_3 : decode cL_law 3 = .ok (.dup, 1) := by decide +kernel
theorem dL_law_4 : decode cL_law 4 = .ok (.invokespecial 62, 3) := by decide +kernel
theorem dL_law_7 : decode cL_law 7 = .ok (.astore_n 1, 1) := by decide +kernel
theorem dL_law_8 : decode cL_law 8 = .ok (.new 63, 3) := by decide +kernel
theorem dL_law_11 : decode cL_law 11 = .ok (.dup, 1) := by decide +kernel
theorem dL_law_12 : decode cL_law 12 = .ok (.invokespecial 65, 3) := by decide +kernel
theorem dL_law_15 : decode cL_law 15 = .ok (.astore_n 2, 1) := by decide +kernel
theorem dL_law_16 : decode cL_law 16 = .ok (.iconst 1, 1) := by decide +kernel
theorem dL_law_17 : decode cL_law 17 = .ok (.newarray .long, 2) := by decide +kernel
theorem dL_law_19 : decode cL_law 19 = .ok (.astore_n 3, 1) := by decide +kernel
theorem dL_law_20 : decode cL_law 20 = .ok (.iconst 0, 1) := by decide +kernel
theorem dL_law_21 : decode cL_law 21 = .ok (.istore 4, 2) := by decide +kernel
theorem dL_law_23 : decode cL_law 23 = .ok (.iload 4, 2) := by decide +kernel
theorem dL_law_25 : decode cL_law 25 = .ok (.aload_n 0, 1) := by decide +kernel
theorem dL_law_26 : decode cL_law 26 = .ok (.arraylength, 1) := by decide +kernel
theorem dL_law_27 : decode cL_law 27 = .ok (.bipush 6, 2) := by decide +kernel
theorem dL_law_29 : decode cL_law 29 = .ok (.isub, 1) := by decide +kernel
theorem dL_law_30 : decode cL_law 30 = .ok (.if_icmp .gt 1162, 3) := by decide +kernel
theorem dL_law_33 : decode cL_law 33 = .ok (.aload_n 0, 1) := by decide +kernel
theorem dL_law_34 : decode cL_law 34 = .ok (.iload 4, 2) := by decide +kernel
theorem dL_law_36 : decode cL_law 36 = .ok (.iaload, 1) := by decide +kernel
theorem dL_law_37 : decode cL_law 37 = .ok (.bipush 31, 2) := by decide +kernel
theorem dL_law_39 : decode cL_law 39 = .ok (.iand, 1) := by decide +kernel
theorem dL_law_40 : decode cL_law 40 = .ok (.tableswitch 1146 0 17 #[88, 144, 212, 280, 353, 421, 477, 545, 620, 700, 713, 738, 794, 862, 918, 1009, 1065, 1121], 88) := by decide +kernel
theorem dL_law_128 : decode cL_law 128 = .ok (.aload_n 1, 1) := by decide +kernel
theorem dL_law_129 : decode cL_law 129 = .ok (.aload_n 0, 1) := by decide +kernel
theorem dL_law_130 : decode cL_law 130 = .ok (.iload 4, 2) := by decide +kernel
theorem dL_law_132 : decode cL_law 132 = .ok (.iconst 1, 1) := by decide +kernel
theorem dL_law_133 : decode cL_law 133 = .ok (.iadd, 1) := by decide +kernel
theorem dL_law_134 : decode cL_law 134 = .ok (.iaload, 1) := by decide +kernel
theorem dL_law_135 : decode cL_law 135 = .ok (.aload_n 3, 1) := by decide +kernel
theorem dL_law_136 : decode cL_law 136 = .ok (.invokestatic 66, 3) := by decide +kernel
theorem dL_law_139 : decode cL_law 139 = .ok (.istore 5, 2) := by decide +kernel
theorem dL_law_141 : decode cL_law 141 = .ok (.aload_n 2, 1) := by decide +kernel
theorem dL_law_142 : decode cL_law 142 = .ok (.aload_n 0, 1) := by decide +kernel
theorem dL_law_143 : decode cL_law 143 = .ok (.iload 4, 2) := by decide +kernel
theorem dL_law_145 : decode cL_law 145 = .ok (.iconst 1, 1) := by decide +kernel
theorem dL_law_146 : decode cL_law 146 = .ok (.iadd, 1) := by decide +kernel
theorem dL_law_147 : decode cL_law 147 = .ok (.iaload, 1) := by decide +kernel
theorem dL_law_148 : decode cL_law 148 = .ok (.invokevirtual 71, 3) := by decide +kernel
theorem dL_law_151 : decode cL_law 151 = .ok (.istore 6, 2) := by decide +kernel
theorem dL_law_153 : decode cL_law 153 = .ok (.aload_n 2, 1) := by decide +kernel
theorem dL_law_154 : decode cL_law 154 = .ok (.invokevirtual 72, 3) := by decide +kernel
theorem dL_law_157 : decode cL_law 157 = .ok (.iload 5, 2) := by decide +kernel
theorem dL_law_159 : decode cL_law 159 = .ok (.if_icmp .eq 5, 3) := by decide +kernel
theorem dL_law_162 : decode cL_law 162 = .ok (.iconst 0, 1) := by decide +kernel
theorem dL_law_163 : decode cL_law 163 = .ok (.ireturn, 1) := by decide +kernel
theorem dL_law_164 : decode cL_law 164 = .ok (.iload 5, 2) := by decide +kernel
theorem dL_law_166 : decode cL_law 166 = .ok (.ifCond .ne 15, 3) := by decide +kernel
theorem dL_law_169 : decode cL_law 169 = .ok (.aload_n 3, 1) := by decide +kernel
theorem dL_law_170 : decode cL_law 170 = .ok (.iconst 0, 1) := by decide +kernel
theorem dL_law_171 : decode cL_law 171 = .ok (.laload, 1) := by decide +kernel
theorem dL_law_172 : decode cL_law 172 = .ok (.iload 6, 2) := by decide +kernel
theorem dL_law_174 : decode cL_law 174 = .ok (.i2l, 1) := by decide +kernel
theorem dL_law_175 : decode cL_law 175 = .ok (.lcmp, 1) := by decide +kernel
theorem dL_law_176 : decode cL_law 176 = .ok (.ifCond .eq 5, 3) := by decide +kernel
theorem dL_law_179 : decode cL_law 179 = .ok (.iconst 0, 1) := by decide +kernel
theorem dL_law_180 : decode cL_law 180 = .ok (.ireturn, 1) := by decide +kernel
theorem dL_law_181 : decode cL_law 181 = .ok (.goto 1005, 3) := by decide +kernel
theorem dL_law_184 : decode cL_law 184 = .ok (.aload_n 1, 1) := by decide +kernel
theorem dL_law_185 : decode cL_law 185 = .ok (.aload_n 0, 1) := by decide +kernel
theorem dL_law_186 : decode cL_law 186 = .ok (.iload 4, 2) := by decide +kernel
theorem dL_law_188 : decode cL_law 188 = .ok (.iconst 1, 1) := by decide +kernel
theorem dL_law_189 : decode cL_law 189 = .ok (.iadd, 1) := by decide +kernel
theorem dL_law_190 : decode cL_law 190 = .ok (.iaload, 1) := by decide +kernel
theorem dL_law_191 : decode cL_law 191 = .ok (.aload_n 0, 1) := by decide +kernel
theorem dL_law_192 : decode cL_law 192 = .ok (.iload 4, 2) := by decide +kernel
theorem dL_law_194 : decode cL_law 194 = .ok (.iconst 2, 1) := by decide +kernel
theorem dL_law_195 : decode cL_law 195 = .ok (.iadd, 1) := by decide +kernel
theorem dL_law_196 : decode cL_law 196 = .ok (.iaload, 1) := by decide +kernel
theorem dL_law_197 : decode cL_law 197 = .ok (.aload_n 3, 1) := by decide +kernel
theorem dL_law_198 : decode cL_law 198 = .ok (.invokestatic 76, 3) := by decide +kernel
theorem dL_law_201 : decode cL_law 201 = .ok (.istore 5, 2) := by decide +kernel
theorem dL_law_203 : decode cL_law 203 = .ok (.aload_n 2, 1) := by decide +kernel
theorem dL_law_204 : decode cL_law 204 = .ok (.aload_n 0, 1) := by decide +kernel
theorem dL_law_205 : decode cL_law 205 = .ok (.iload 4, 2) := by decide +kernel
theorem dL_law_207 : decode cL_law 207 = .ok (.iconst 1, 1) := by decide +kernel
theorem dL_law_208 : decode cL_law 208 = .ok (.iadd, 1) := by decide +kernel
theorem dL_law_209 : decode cL_law 209 = .ok (.iaload, 1) := by decide +kernel
theorem dL_law_210 : decode cL_law 210 = .ok (.aload_n 0, 1) := by decide +kernel
theorem dL_law_211 : decode cL_law 211 = .ok (.iload 4, 2) := by decide +kernel
theorem dL_law_213 : decode cL_law 213 = .ok (.iconst 2, 1) := by decide +kernel
theorem dL_law_214 : decode cL_law 214 = .ok (.iadd, 1) := by decide +kernel
theorem dL_law_215 : decode cL_law 215 = .ok (.iaload, 1) := by decide +kernel
theorem dL_law_216 : decode cL_law 216 = .ok (.invokevirtual 79, 3) := by decide +kernel
theorem dL_law_219 : decode cL_law 219 = .ok (.istore 6, 2) := by decide +kernel
theorem dL_law_221 : decode cL_law 221 = .ok (.aload_n 2, 1) := by decide +kernel
theorem dL_law_222 : decode cL_law 222 = .ok (.invokevirtual 72, 3) := by decide +kernel
theorem dL_law_225 : decode cL_law 225 = .ok (.iload 5, 2) := by decide +kernel
theorem dL_law_227 : decode cL_law 227 = .ok (.if_icmp .eq 5, 3) := by decide +kernel
theorem dL_law_230 : decode cL_law 230 = .ok (.iconst 0, 1) := by decide +kernel
theorem dL_law_231 : decode cL_law 231 = .ok (.ireturn, 1) := by decide +kernel
theorem dL_law_232 : decode cL_law 232 = .ok (.iload 5, 2) := by decide +kernel
theorem dL_law_234 : decode cL_law 234 = .ok (.ifCond .ne 15, 3) := by decide +kernel
theorem dL_law_237 : decode cL_law 237 = .ok (.aload_n 3, 1) := by decide +kernel
theorem dL_law_238 : decode cL_law 238 = .ok (.iconst 0, 1) := by decide +kernel
theorem dL_law_239 : decode cL_law 239 = .ok (.laload, 1) := by decide +kernel
theorem dL_law_240 : decode cL_law 240 = .ok (.iload 6, 2) := by decide +kernel
theorem dL_law_242 : decode cL_law 242 = .ok (.i2l, 1) := by decide +kernel
theorem dL_law_243 : decode cL_law 243 = .ok (.lcmp, 1) := by decide +kernel
theorem dL_law_244 : decode cL_law 244 = .ok (.ifCond .eq 5, 3) := by decide +kernel
theorem dL_law_247 : decode cL_law 247 = .ok (.iconst 0, 1) := by decide +kernel
theorem dL_law_248 : decode cL_law 248 = .ok (.ireturn, 1) := by decide +kernel
theorem dL_law_249 : decode cL_law 249 = .ok (.goto 937, 3) := by decide +kernel
theorem dL_law_252 : decode cL_law 252 = .ok (.aload_n 1, 1) := by decide +kernel
theorem dL_law_253 : decode cL_law 253 = .ok (.aload_n 0, 1) := by decide +kernel
theorem dL_law_254 : decode cL_law 254 = .ok (.iload 4, 2) := by decide +kernel
theorem dL_law_256 : decode cL_law 256 = .ok (.iconst 1, 1) := by decide +kernel
theorem dL_law_257 : decode cL_law 257 = .ok (.iadd, 1) := by decide +kernel
theorem dL_law_258 : decode cL_law 258 = .ok (.iaload, 1) := by decide +kernel
theorem dL_law_259 : decode cL_law 259 = .ok (.aload_n 0, 1) := by decide +kernel
theorem dL_law_260 : decode cL_law 260 = .ok (.iload 4, 2) := by decide +kernel
theorem dL_law_262 : decode cL_law 262 = .ok (.iconst 2, 1) := by decide +kernel
theorem dL_law_263 : decode cL_law 263 = .ok (.iadd, 1) := by decide +kernel
theorem dL_law_264 : decode cL_law 264 = .ok (.iaload, 1) := by decide +kernel
theorem dL_law_265 : decode cL_law 265 = .ok (.aload_n 3, 1) := by decide +kernel
theorem dL_law_266 : decode cL_law 266 = .ok (.invokestatic 80, 3) := by decide +kernel
theorem dL_law_269 : decode cL_law 269 = .ok (.istore 5, 2) := by decide +kernel
theorem dL_law_271 : decode cL_law 271 = .ok (.aload_n 2, 1) := by decide +kernel
theorem dL_law_272 : decode cL_law 272 = .ok (.aload_n 0, 1) := by decide +kernel
theorem dL_law_273 : decode cL_law 273 = .ok (.iload 4, 2) := by decide +kernel
theorem dL_law_275 : decode cL_law 275 = .ok (.iconst 1, 1) := by decide +kernel
theorem dL_law_276 : decode cL_law 276 = .ok (.iadd, 1) := by decide +kernel
theorem dL_law_277 : decode cL_law 277 = .ok (.iaload, 1) := by decide +kernel
theorem dL_law_278 : decode cL_law 278 = .ok (.aload_n 0, 1) := by decide +kernel
theorem dL_law_279 : decode cL_law 279 = .ok (.iload 4, 2) := by decide +kernel
theorem dL_law_281 : decode cL_law 281 = .ok (.iconst 2, 1) := by decide +kernel
theorem dL_law_282 : decode cL_law 282 = .ok (.iadd, 1) := by decide +kernel
theorem dL_law_283 : decode cL_law 283 = .ok (.iaload, 1) := by decide +kernel
theorem dL_law_284 : decode cL_law 284 = .ok (.invokevirtual 82, 3) := by decide +kernel
theorem dL_law_287 : decode cL_law 287 = .ok (.istore 6, 2) := by decide +kernel
theorem dL_law_289 : decode cL_law 289 = .ok (.aload_n 2, 1) := by decide +kernel
theorem dL_law_290 : decode cL_law 290 = .ok (.invokevirtual 72, 3) := by decide +kernel
theorem dL_law_293 : decode cL_law 293 = .ok (.iload 5, 2) := by decide +kernel
theorem dL_law_295 : decode cL_law 295 = .ok (.if_icmp .eq 5, 3) := by decide +kernel
theorem dL_law_298 : decode cL_law 298 = .ok (.iconst 0, 1) := by decide +kernel
theorem dL_law_299 : decode cL_law 299 = .ok (.ireturn, 1) := by decide +kernel
theorem dL_law_300 : decode cL_law 300 = .ok (.iload 5, 2) := by decide +kernel
theorem dL_law_302 : decode cL_law 302 = .ok (.ifCond .ne 15, 3) := by decide +kernel
theorem dL_law_305 : decode cL_law 305 = .ok (.aload_n 3, 1) := by decide +kernel
theorem dL_law_306 : decode cL_law 306 = .ok (.iconst 0, 1) := by decide +kernel
theorem dL_law_307 : decode cL_law 307 = .ok (.laload, 1) := by decide +kernel
theorem dL_law_308 : decode cL_law 308 = .ok (.iload 6, 2) := by decide +kernel
theorem dL_law_310 : decode cL_law 310 = .ok (.i2l, 1) := by decide +kernel
theorem dL_law_311 : decode cL_law 311 = .ok (.lcmp, 1) := by decide +kernel
theorem dL_law_312 : decode cL_law 312 = .ok (.ifCond .eq 5, 3) := by decide +kernel
theorem dL_law_315 : decode cL_law 315 = .ok (.iconst 0, 1) := by decide +kernel
theorem dL_law_316 : decode cL_law 316 = .ok (.ireturn, 1) := by decide +kernel
theorem dL_law_317 : decode cL_law 317 = .ok (.goto 869, 3) := by decide +kernel
theorem dL_law_320 : decode cL_law 320 = .ok (.aload_n 1, 1) := by decide +kernel
theorem dL_law_321 : decode cL_law 321 = .ok (.aload_n 0, 1) := by decide +kernel
theorem dL_law_322 : decode cL_law 322 = .ok (.iload 4, 2) := by decide +kernel
theorem dL_law_324 : decode cL_law 324 = .ok (.iconst 1, 1) := by decide +kernel
theorem dL_law_325 : decode cL_law 325 = .ok (.iadd, 1) := by decide +kernel
theorem dL_law_326 : decode cL_law 326 = .ok (.iaload, 1) := by decide +kernel
theorem dL_law_327 : decode cL_law 327 = .ok (.aload_n 0, 1) := by decide +kernel
theorem dL_law_328 : decode cL_law 328 = .ok (.iload 4, 2) := by decide +kernel
theorem dL_law_330 : decode cL_law 330 = .ok (.iconst 2, 1) := by decide +kernel
theorem dL_law_331 : decode cL_law 331 = .ok (.iadd, 1) := by decide +kernel
theorem dL_law_332 : decode cL_law 332 = .ok (.iaload, 1) := by decide +kernel
theorem dL_law_333 : decode cL_law 333 = .ok (.aload_n 0, 1) := by decide +kernel
theorem dL_law_334 : decode cL_law 334 = .ok (.iload 4, 2) := by decide +kernel
theorem dL_law_336 : decode cL_law 336 = .ok (.iconst 3, 1) := by decide +kernel
theorem dL_law_337 : decode cL_law 337 = .ok (.iadd, 1) := by decide +kernel
theorem dL_law_338 : decode cL_law 338 = .ok (.iaload, 1) := by decide +kernel
theorem dL_law_339 : decode cL_law 339 = .ok (.aload_n 0, 1) := by decide +kernel
theorem dL_law_340 : decode cL_law 340 = .ok (.iload 4, 2) := by decide +kernel
theorem dL_law_342 : decode cL_law 342 = .ok (.iconst 4, 1) := by decide +kernel
theorem dL_law_343 : decode cL_law 343 = .ok (.iadd, 1) := by decide +kernel
theorem dL_law_344 : decode cL_law 344 = .ok (.iaload, 1) := by decide +kernel
theorem dL_law_345 : decode cL_law 345 = .ok (.aload_n 0, 1) := by decide +kernel
theorem dL_law_346 : decode cL_law 346 = .ok (.iload 4, 2) := by decide +kernel
theorem dL_law_348 : decode cL_law 348 = .ok (.iconst 5, 1) := by decide +kernel
theorem dL_law_349 : decode cL_law 349 = .ok (.iadd, 1) := by decide +kernel
theorem dL_law_350 : decode cL_law 350 = .ok (.iaload, 1) := by decide +kernel
theorem dL_law_351 : decode cL_law 351 = .ok (.invokevirtual 83, 3) := by decide +kernel
theorem dL_law_354 : decode cL_law 354 = .ok (.aload_n 2, 1) := by decide +kernel
theorem dL_law_355 : decode cL_law 355 = .ok (.aload_n 0, 1) := by decide +kernel
theorem dL_law_356 : decode cL_law 356 = .ok (.iload 4, 2) := by decide +kernel
theorem dL_law_358 : decode cL_law 358 = .ok (.iconst 1, 1) := by decide +kernel
theorem dL_law_359 : decode cL_law 359 = .ok (.iadd, 1) := by decide +kernel
theorem dL_law_360 : decode cL_law 360 = .ok (.iaload, 1) := by decide +kernel
theorem dL_law_361 : decode cL_law 361 = .ok (.aload_n 0, 1) := by decide +kernel
theorem dL_law_362 : decode cL_law 362 = .ok (.iload 4, 2) := by decide +kernel
theorem dL_law_364 : decode cL_law 364 = .ok (.iconst 2, 1) := by decide +kernel
theorem dL_law_365 : decode cL_law 365 = .ok (.iadd, 1) := by decide +kernel
theorem dL_law_366 : decode cL_law 366 = .ok (.iaload, 1) := by decide +kernel
theorem dL_law_367 : decode cL_law 367 = .ok (.aload_n 0, 1) := by decide +kernel
theorem dL_law_368 : decode cL_law 368 = .ok (.iload 4, 2) := by decide +kernel
theorem dL_law_370 : decode cL_law 370 = .ok (.iconst 3, 1) := by decide +kernel
theorem dL_law_371 : decode cL_law 371 = .ok (.iadd, 1) := by decide +kernel
theorem dL_law_372 : decode cL_law 372 = .ok (.iaload, 1) := by decide +kernel
theorem dL_law_373 : decode cL_law 373 = .ok (.aload_n 0, 1) := by decide +kernel
theorem dL_law_374 : decode cL_law 374 = .ok (.iload 4, 2) := by decide +kernel
theorem dL_law_376 : decode cL_law 376 = .ok (.iconst 4, 1) := by decide +kernel
theorem dL_law_377 : decode cL_law 377 = .ok (.iadd, 1) := by decide +kernel
theorem dL_law_378 : decode cL_law 378 = .ok (.iaload, 1) := by decide +kernel
theorem dL_law_379 : decode cL_law 379 = .ok (.aload_n 0, 1) := by decide +kernel
theorem dL_law_380 : decode cL_law 380 = .ok (.iload 4, 2) := by decide +kernel
theorem dL_law_382 : decode cL_law 382 = .ok (.iconst 5, 1) := by decide +kernel
theorem dL_law_383 : decode cL_law 383 = .ok (.iadd, 1) := by decide +kernel
theorem dL_law_384 : decode cL_law 384 = .ok (.iaload, 1) := by decide +kernel
theorem dL_law_385 : decode cL_law 385 = .ok (.invokevirtual 87, 3) := by decide +kernel
theorem dL_law_388 : decode cL_law 388 = .ok (.if_icmp .eq 798, 3) := by decide +kernel
theorem dL_law_391 : decode cL_law 391 = .ok (.iconst 0, 1) := by decide +kernel
theorem dL_law_392 : decode cL_law 392 = .ok (.ireturn, 1) := by decide +kernel
theorem dL_law_393 : decode cL_law 393 = .ok (.aload_n 1, 1) := by decide +kernel
theorem dL_law_394 : decode cL_law 394 = .ok (.aload_n 0, 1) := by decide +kernel
theorem dL_law_395 : decode cL_law 395 = .ok (.iload 4, 2) := by decide +kernel
theorem dL_law_397 : decode cL_law 397 = .ok (.iconst 1, 1) := by decide +kernel
theorem dL_law_398 : decode cL_law 398 = .ok (.iadd, 1) := by decide +kernel
theorem dL_law_399 : decode cL_law 399 = .ok (.iaload, 1) := by decide +kernel
theorem dL_law_400 : decode cL_law 400 = .ok (.aload_n 0, 1) := by decide +kernel
theorem dL_law_401 : decode cL_law 401 = .ok (.iload 4, 2) := by decide +kernel
theorem dL_law_403 : decode cL_law 403 = .ok (.iconst 2, 1) := by decide +kernel
theorem dL_law_404 : decode cL_law 404 = .ok (.iadd, 1) := by decide +kernel
theorem dL_law_405 : decode cL_law 405 = .ok (.iaload, 1) := by decide +kernel
theorem dL_law_406 : decode cL_law 406 = .ok (.aload_n 3, 1) := by decide +kernel
theorem dL_law_407 : decode cL_law 407 = .ok (.invokestatic 88, 3) := by decide +kernel
theorem dL_law_410 : decode cL_law 410 = .ok (.istore 5, 2) := by decide +kernel
theorem dL_law_412 : decode cL_law 412 = .ok (.aload_n 2, 1) := by decide +kernel
theorem dL_law_413 : decode cL_law 413 = .ok (.aload_n 0, 1) := by decide +kernel
theorem dL_law_414 : decode cL_law 414 = .ok (.iload 4, 2) := by decide +kernel
theorem dL_law_416 : decode cL_law 416 = .ok (.iconst 1, 1) := by decide +kernel
theorem dL_law_417 : decode cL_law 417 = .ok (.iadd, 1) := by decide +kernel
theorem dL_law_418 : decode cL_law 418 = .ok (.iaload, 1) := by decide +kernel
theorem dL_law_419 : decode cL_law 419 = .ok (.aload_n 0, 1) := by decide +kernel
theorem dL_law_420 : decode cL_law 420 = .ok (.iload 4, 2) := by decide +kernel
theorem dL_law_422 : decode cL_law 422 = .ok (.iconst 2, 1) := by decide +kernel
theorem dL_law_423 : decode cL_law 423 = .ok (.iadd, 1) := by decide +kernel
theorem dL_law_424 : decode cL_law 424 = .ok (.iaload, 1) := by decide +kernel
theorem dL_law_425 : decode cL_law 425 = .ok (.invokevirtual 90, 3) := by decide +kernel
theorem dL_law_428 : decode cL_law 428 = .ok (.istore 6, 2) := by decide +kernel
theorem dL_law_430 : decode cL_law 430 = .ok (.aload_n 2, 1) := by decide +kernel
theorem dL_law_431 : decode cL_law 431 = .ok (.invokevirtual 72, 3) := by decide +kernel
theorem dL_law_434 : decode cL_law 434 = .ok (.iload 5, 2) := by decide +kernel
theorem dL_law_436 : decode cL_law 436 = .ok (.if_icmp .eq 5, 3) := by decide +kernel
theorem dL_law_439 : decode cL_law 439 = .ok (.iconst 0, 1) := by decide +kernel
theorem dL_law_440 : decode cL_law 440 = .ok (.ireturn, 1) := by decide +kernel
theorem dL_law_441 : decode cL_law 441 = .ok (.iload 5, 2) := by decide +kernel
theorem dL_law_443 : decode cL_law 443 = .ok (.ifCond .ne 15, 3) := by decide +kernel
theorem dL_law_446 : decode cL_law 446 = .ok (.aload_n 3, 1) := by decide +kernel
theorem dL_law_447 : decode cL_law 447 = .ok (.iconst 0, 1) := by decide +kernel
theorem dL_law_448 : decode cL_law 448 = .ok (.laload, 1) := by decide +kernel
theorem dL_law_449 : decode cL_law 449 = .ok (.iload 6, 2) := by decide +kernel
theorem dL_law_451 : decode cL_law 451 = .ok (.i2l, 1) := by decide +kernel
theorem dL_law_452 : decode cL_law 452 = .ok (.lcmp, 1) := by decide +kernel
theorem dL_law_453 : decode cL_law 453 = .ok (.ifCond .eq 5, 3) := by decide +kernel
theorem dL_law_456 : decode cL_law 456 = .ok (.iconst 0, 1) := by decide +kernel
theorem dL_law_457 : decode cL_law 457 = .ok (.ireturn, 1) := by decide +kernel
theorem dL_law_458 : decode cL_law 458 = .ok (.goto 728, 3) := by decide +kernel
theorem dL_law_461 : decode cL_law 461 = .ok (.aload_n 1, 1) := by decide +kernel
theorem dL_law_462 : decode cL_law 462 = .ok (.aload_n 0, 1) := by decide +kernel
theorem dL_law_463 : decode cL_law 463 = .ok (.iload 4, 2) := by decide +kernel
theorem dL_law_465 : decode cL_law 465 = .ok (.iconst 1, 1) := by decide +kernel
theorem dL_law_466 : decode cL_law 466 = .ok (.iadd, 1) := by decide +kernel
theorem dL_law_467 : decode cL_law 467 = .ok (.iaload, 1) := by decide +kernel
theorem dL_law_468 : decode cL_law 468 = .ok (.aload_n 3, 1) := by decide +kernel
theorem dL_law_469 : decode cL_law 469 = .ok (.invokestatic 91, 3) := by decide +kernel
theorem dL_law_472 : decode cL_law 472 = .ok (.istore 5, 2) := by decide +kernel
theorem dL_law_474 : decode cL_law 474 = .ok (.aload_n 2, 1) := by decide +kernel
theorem dL_law_475 : decode cL_law 475 = .ok (.aload_n 0, 1) := by decide +kernel
theorem dL_law_476 : decode cL_law 476 = .ok (.iload 4, 2) := by decide +kernel
theorem dL_law_478 : decode cL_law 478 = .ok (.iconst 1, 1) := by decide +kernel
theorem dL_law_479 : decode cL_law 479 = .ok (.iadd, 1) := by decide +kernel
theorem dL_law_480 : decode cL_law 480 = .ok (.iaload, 1) := by decide +kernel
theorem dL_law_481 : decode cL_law 481 = .ok (.invokevirtual 93, 3) := by decide +kernel
theorem dL_law_484 : decode cL_law 484 = .ok (.istore 6, 2) := by decide +kernel
theorem dL_law_486 : decode cL_law 486 = .ok (.aload_n 2, 1) := by decide +kernel
theorem dL_law_487 : decode cL_law 487 = .ok (.invokevirtual 72, 3) := by decide +kernel
theorem dL_law_490 : decode cL_law 490 = .ok (.iload 5, 2) := by decide +kernel
theorem dL_law_492 : decode cL_law 492 = .ok (.if_icmp .eq 5, 3) := by decide +kernel
theorem dL_law_495 : decode cL_law 495 = .ok (.iconst 0, 1) := by decide +kernel
theorem dL_law_496 : decode cL_law 496 = .ok (.ireturn, 1) := by decide +kernel
theorem dL_law_497 : decode cL_law 497 = .ok (.iload 5, 2) := by decide +kernel
theorem dL_law_499 : decode cL_law 499 = .ok (.ifCond .ne 15, 3) := by decide +kernel
theorem dL_law_502 : decode cL_law 502 = .ok (.aload_n 3, 1) := by decide +kernel
theorem dL_law_503 : decode cL_law 503 = .ok (.iconst 0, 1) := by decide +kernel
theorem dL_law_504 : decode cL_law 504 = .ok (.laload, 1) := by decide +kernel
theorem dL_law_505 : decode cL_law 505 = .ok (.iload 6, 2) := by decide +kernel
theorem dL_law_507 : decode cL_law 507 = .ok (.i2l, 1) := by decide +kernel
theorem dL_law_508 : decode cL_law 508 = .ok (.lcmp, 1) := by decide +kernel
theorem dL_law_509 : decode cL_law 509 = .ok (.ifCond .eq 5, 3) := by decide +kernel
theorem dL_law_512 : decode cL_law 512 = .ok (.iconst 0, 1) := by decide +kernel
theorem dL_law_513 : decode cL_law 513 = .ok (.ireturn, 1) := by decide +kernel
theorem dL_law_514 : decode cL_law 514 = .ok (.goto 672, 3) := by decide +kernel
theorem dL_law_517 : decode cL_law 517 = .ok (.aload_n 1, 1) := by decide +kernel
theorem dL_law_518 : decode cL_law 518 = .ok (.aload_n 0, 1) := by decide +kernel
theorem dL_law_519 : decode cL_law 519 = .ok (.iload 4, 2) := by decide +kernel
theorem dL_law_521 : decode cL_law 521 = .ok (.iconst 1, 1) := by decide +kernel
theorem dL_law_522 : decode cL_law 522 = .ok (.iadd, 1) := by decide +kernel
theorem dL_law_523 : decode cL_law 523 = .ok (.iaload, 1) := by decide +kernel
theorem dL_law_524 : decode cL_law 524 = .ok (.aload_n 0, 1) := by decide +kernel
theorem dL_law_525 : decode cL_law 525 = .ok (.iload 4, 2) := by decide +kernel
theorem dL_law_527 : decode cL_law 527 = .ok (.iconst 2, 1) := by decide +kernel
theorem dL_law_528 : decode cL_law 528 = .ok (.iadd, 1) := by decide +kernel
theorem dL_law_529 : decode cL_law 529 = .ok (.iaload, 1) := by decide +kernel
theorem dL_law_530 : decode cL_law 530 = .ok (.aload_n 3, 1) := by decide +kernel
theorem dL_law_531 : decode cL_law 531 = .ok (.invokestatic 94, 3) := by decide +kernel
theorem dL_law_534 : decode cL_law 534 = .ok (.istore 5, 2) := by decide +kernel
theorem dL_law_536 : decode cL_law 536 = .ok (.aload_n 2, 1) := by decide +kernel
theorem dL_law_537 : decode cL_law 537 = .ok (.aload_n 0, 1) := by decide +kernel
theorem dL_law_538 : decode cL_law 538 = .ok (.iload 4, 2) := by decide +kernel
theorem dL_law_540 : decode cL_law 540 = .ok (.iconst 1, 1) := by decide +kernel
theorem dL_law_541 : decode cL_law 541 = .ok (.iadd, 1) := by decide +kernel
theorem dL_law_542 : decode cL_law 542 = .ok (.iaload, 1) := by decide +kernel
theorem dL_law_543 : decode cL_law 543 = .ok (.aload_n 0, 1) := by decide +kernel
theorem dL_law_544 : decode cL_law 544 = .ok (.iload 4, 2) := by decide +kernel
theorem dL_law_546 : decode cL_law 546 = .ok (.iconst 2, 1) := by decide +kernel
theorem dL_law_547 : decode cL_law 547 = .ok (.iadd, 1) := by decide +kernel
theorem dL_law_548 : decode cL_law 548 = .ok (.iaload, 1) := by decide +kernel
theorem dL_law_549 : decode cL_law 549 = .ok (.invokevirtual 96, 3) := by decide +kernel
theorem dL_law_552 : decode cL_law 552 = .ok (.istore 6, 2) := by decide +kernel
theorem dL_law_554 : decode cL_law 554 = .ok (.aload_n 2, 1) := by decide +kernel
theorem dL_law_555 : decode cL_law 555 = .ok (.invokevirtual 72, 3) := by decide +kernel
theorem dL_law_558 : decode cL_law 558 = .ok (.iload 5, 2) := by decide +kernel
theorem dL_law_560 : decode cL_law 560 = .ok (.if_icmp .eq 5, 3) := by decide +kernel
theorem dL_law_563 : decode cL_law 563 = .ok (.iconst 0, 1) := by decide +kernel
theorem dL_law_564 : decode cL_law 564 = .ok (.ireturn, 1) := by decide +kernel
theorem dL_law_565 : decode cL_law 565 = .ok (.iload 5, 2) := by decide +kernel
theorem dL_law_567 : decode cL_law 567 = .ok (.ifCond .ne 15, 3) := by decide +kernel
theorem dL_law_570 : decode cL_law 570 = .ok (.aload_n 3, 1) := by decide +kernel
theorem dL_law_571 : decode cL_law 571 = .ok (.iconst 0, 1) := by decide +kernel
theorem dL_law_572 : decode cL_law 572 = .ok (.laload, 1) := by decide +kernel
theorem dL_law_573 : decode cL_law 573 = .ok (.iload 6, 2) := by decide +kernel
theorem dL_law_575 : decode cL_law 575 = .ok (.i2l, 1) := by decide +kernel
theorem dL_law_576 : decode cL_law 576 = .ok (.lcmp, 1) := by decide +kernel
theorem dL_law_577 : decode cL_law 577 = .ok (.ifCond .eq 5, 3) := by decide +kernel
theorem dL_law_580 : decode cL_law 580 = .ok (.iconst 0, 1) := by decide +kernel
theorem dL_law_581 : decode cL_law 581 = .ok (.ireturn, 1) := by decide +kernel
theorem dL_law_582 : decode cL_law 582 = .ok (.goto 604, 3) := by decide +kernel
theorem dL_law_585 : decode cL_law 585 = .ok (.aload_n 1, 1) := by decide +kernel
theorem dL_law_586 : decode cL_law 586 = .ok (.aload_n 0, 1) := by decide +kernel
theorem dL_law_587 : decode cL_law 587 = .ok (.iload 4, 2) := by decide +kernel
theorem dL_law_589 : decode cL_law 589 = .ok (.iconst 1, 1) := by decide +kernel
theorem dL_law_590 : decode cL_law 590 = .ok (.iadd, 1) := by decide +kernel
theorem dL_law_591 : decode cL_law 591 = .ok (.iaload, 1) := by decide +kernel
theorem dL_law_592 : decode cL_law 592 = .ok (.aload_n 0, 1) := by decide +kernel
theorem dL_law_593 : decode cL_law 593 = .ok (.iload 4, 2) := by decide +kernel
theorem dL_law_595 : decode cL_law 595 = .ok (.iconst 2, 1) := by decide +kernel
theorem dL_law_596 : decode cL_law 596 = .ok (.iadd, 1) := by decide +kernel
theorem dL_law_597 : decode cL_law 597 = .ok (.iaload, 1) := by decide +kernel
theorem dL_law_598 : decode cL_law 598 = .ok (.aload_n 3, 1) := by decide +kernel
theorem dL_law_599 : decode cL_law 599 = .ok (.invokestatic 97, 3) := by decide +kernel
theorem dL_law_602 : decode cL_law 602 = .ok (.istore 5, 2) := by decide +kernel
theorem dL_law_604 : decode cL_law 604 = .ok (.aload_n 2, 1) := by decide +kernel
theorem dL_law_605 : decode cL_law 605 = .ok (.aload_n 0, 1) := by decide +kernel
theorem dL_law_606 : decode cL_law 606 = .ok (.iload 4, 2) := by decide +kernel
theorem dL_law_608 : decode cL_law 608 = .ok (.iconst 1, 1) := by decide +kernel
theorem dL_law_609 : decode cL_law 609 = .ok (.iadd, 1) := by decide +kernel
theorem dL_law_610 : decode cL_law 610 = .ok (.iaload, 1) := by decide +kernel
theorem dL_law_611 : decode cL_law 611 = .ok (.aload_n 0, 1) := by decide +kernel
theorem dL_law_612 : decode cL_law 612 = .ok (.iload 4, 2) := by decide +kernel
theorem dL_law_614 : decode cL_law 614 = .ok (.iconst 2, 1) := by decide +kernel
theorem dL_law_615 : decode cL_law 615 = .ok (.iadd, 1) := by decide +kernel
theorem dL_law_616 : decode cL_law 616 = .ok (.iaload, 1) := by decide +kernel
theorem dL_law_617 : decode cL_law 617 = .ok (.invokevirtual 99, 3) := by decide +kernel
theorem dL_law_620 : decode cL_law 620 = .ok (.istore 6, 2) := by decide +kernel
theorem dL_law_622 : decode cL_law 622 = .ok (.aload_n 2, 1) := by decide +kernel
theorem dL_law_623 : decode cL_law 623 = .ok (.invokevirtual 72, 3) := by decide +kernel
theorem dL_law_626 : decode cL_law 626 = .ok (.iload 5, 2) := by decide +kernel
theorem dL_law_628 : decode cL_law 628 = .ok (.if_icmp .eq 5, 3) := by decide +kernel
theorem dL_law_631 : decode cL_law 631 = .ok (.iconst 0, 1) := by decide +kernel
theorem dL_law_632 : decode cL_law 632 = .ok (.ireturn, 1) := by decide +kernel
theorem dL_law_633 : decode cL_law 633 = .ok (.iload 5, 2) := by decide +kernel
theorem dL_law_635 : decode cL_law 635 = .ok (.ifCond .ne 22, 3) := by decide +kernel
theorem dL_law_638 : decode cL_law 638 = .ok (.aload_n 3, 1) := by decide +kernel
theorem dL_law_639 : decode cL_law 639 = .ok (.iconst 0, 1) := by decide +kernel
theorem dL_law_640 : decode cL_law 640 = .ok (.laload, 1) := by decide +kernel
theorem dL_law_641 : decode cL_law 641 = .ok (.iload 6, 2) := by decide +kernel
theorem dL_law_643 : decode cL_law 643 = .ok (.ifCond .eq 7, 3) := by decide +kernel
theorem dL_law_646 : decode cL_law 646 = .ok (.lconst 1, 1) := by decide +kernel
theorem dL_law_647 : decode cL_law 647 = .ok (.goto 4, 3) := by decide +kernel
theorem dL_law_650 : decode cL_law 650 = .ok (.lconst 0, 1) := by decide +kernel
theorem dL_law_651 : decode cL_law 651 = .ok (.lcmp, 1) := by decide +kernel
theorem dL_law_652 : decode cL_law 652 = .ok (.ifCond .eq 5, 3) := by decide +kernel
theorem dL_law_655 : decode cL_law 655 = .ok (.iconst 0, 1) := by decide +kernel
theorem dL_law_656 : decode cL_law 656 = .ok (.ireturn, 1) := by decide +kernel
theorem dL_law_657 : decode cL_law 657 = .ok (.goto 529, 3) := by decide +kernel
theorem dL_law_660 : decode cL_law 660 = .ok (.aload_n 1, 1) := by decide +kernel
theorem dL_law_661 : decode cL_law 661 = .ok (.aload_n 0, 1) := by decide +kernel
theorem dL_law_662 : decode cL_law 662 = .ok (.iload 4, 2) := by decide +kernel
theorem dL_law_664 : decode cL_law 664 = .ok (.iconst 1, 1) := by decide +kernel
theorem dL_law_665 : decode cL_law 665 = .ok (.iadd, 1) := by decide +kernel
theorem dL_law_666 : decode cL_law 666 = .ok (.iaload, 1) := by decide +kernel
theorem dL_law_667 : decode cL_law 667 = .ok (.aload_n 0, 1) := by decide +kernel
theorem dL_law_668 : decode cL_law 668 = .ok (.iload 4, 2) := by decide +kernel
theorem dL_law_670 : decode cL_law 670 = .ok (.iconst 2, 1) := by decide +kernel
theorem dL_law_671 : decode cL_law 671 = .ok (.iadd, 1) := by decide +kernel
theorem dL_law_672 : decode cL_law 672 = .ok (.iaload, 1) := by decide +kernel
theorem dL_law_673 : decode cL_law 673 = .ok (.aload_n 0, 1) := by decide +kernel
theorem dL_law_674 : decode cL_law 674 = .ok (.iload 4, 2) := by decide +kernel
theorem dL_law_676 : decode cL_law 676 = .ok (.iconst 3, 1) := by decide +kernel
theorem dL_law_677 : decode cL_law 677 = .ok (.iadd, 1) := by decide +kernel
theorem dL_law_678 : decode cL_law 678 = .ok (.iaload, 1) := by decide +kernel
theorem dL_law_679 : decode cL_law 679 = .ok (.aload_n 3, 1) := by decide +kernel
theorem dL_law_680 : decode cL_law 680 = .ok (.invokestatic 100, 3) := by decide +kernel
theorem dL_law_683 : decode cL_law 683 = .ok (.istore 5, 2) := by decide +kernel
theorem dL_law_685 : decode cL_law 685 = .ok (.aload_n 2, 1) := by decide +kernel
theorem dL_law_686 : decode cL_law 686 = .ok (.aload_n 0, 1) := by decide +kernel
theorem dL_law_687 : decode cL_law 687 = .ok (.iload 4, 2) := by decide +kernel
theorem dL_law_689 : decode cL_law 689 = .ok (.iconst 1, 1) := by decide +kernel
theorem dL_law_690 : decode cL_law 690 = .ok (.iadd, 1) := by decide +kernel
theorem dL_law_691 : decode cL_law 691 = .ok (.iaload, 1) := by decide +kernel
theorem dL_law_692 : decode cL_law 692 = .ok (.aload_n 0, 1) := by decide +kernel
theorem dL_law_693 : decode cL_law 693 = .ok (.iload 4, 2) := by decide +kernel
theorem dL_law_695 : decode cL_law 695 = .ok (.iconst 2, 1) := by decide +kernel
theorem dL_law_696 : decode cL_law 696 = .ok (.iadd, 1) := by decide +kernel
theorem dL_law_697 : decode cL_law 697 = .ok (.iaload, 1) := by decide +kernel
theorem dL_law_698 : decode cL_law 698 = .ok (.aload_n 0, 1) := by decide +kernel
theorem dL_law_699 : decode cL_law 699 = .ok (.iload 4, 2) := by decide +kernel
theorem dL_law_701 : decode cL_law 701 = .ok (.iconst 3, 1) := by decide +kernel
theorem dL_law_702 : decode cL_law 702 = .ok (.iadd, 1) := by decide +kernel
theorem dL_law_703 : decode cL_law 703 = .ok (.iaload, 1) := by decide +kernel
theorem dL_law_704 : decode cL_law 704 = .ok (.invokevirtual 103, 3) := by decide +kernel
theorem dL_law_707 : decode cL_law 707 = .ok (.istore 6, 2) := by decide +kernel
theorem dL_law_709 : decode cL_law 709 = .ok (.aload_n 2, 1) := by decide +kernel
theorem dL_law_710 : decode cL_law 710 = .ok (.invokevirtual 72, 3) := by decide +kernel
theorem dL_law_713 : decode cL_law 713 = .ok (.iload 5, 2) := by decide +kernel
theorem dL_law_715 : decode cL_law 715 = .ok (.if_icmp .eq 5, 3) := by decide +kernel
theorem dL_law_718 : decode cL_law 718 = .ok (.iconst 0, 1) := by decide +kernel
theorem dL_law_719 : decode cL_law 719 = .ok (.ireturn, 1) := by decide +kernel
theorem dL_law_720 : decode cL_law 720 = .ok (.iload 5, 2) := by decide +kernel
theorem dL_law_722 : decode cL_law 722 = .ok (.ifCond .ne 15, 3) := by decide +kernel
theorem dL_law_725 : decode cL_law 725 = .ok (.aload_n 3, 1) := by decide +kernel
theorem dL_law_726 : decode cL_law 726 = .ok (.iconst 0, 1) := by decide +kernel
theorem dL_law_727 : decode cL_law 727 = .ok (.laload, 1) := by decide +kernel
theorem dL_law_728 : decode cL_law 728 = .ok (.iload 6, 2) := by decide +kernel
theorem dL_law_730 : decode cL_law 730 = .ok (.i2l, 1) := by decide +kernel
theorem dL_law_731 : decode cL_law 731 = .ok (.lcmp, 1) := by decide +kernel
theorem dL_law_732 : decode cL_law 732 = .ok (.ifCond .eq 5, 3) := by decide +kernel
theorem dL_law_735 : decode cL_law 735 = .ok (.iconst 0, 1) := by decide +kernel
theorem dL_law_736 : decode cL_law 736 = .ok (.ireturn, 1) := by decide +kernel
theorem dL_law_737 : decode cL_law 737 = .ok (.goto 449, 3) := by decide +kernel
theorem dL_law_740 : decode cL_law 740 = .ok (.aload_n 1, 1) := by decide +kernel
theorem dL_law_741 : decode cL_law 741 = .ok (.invokevirtual 104, 3) := by decide +kernel
theorem dL_law_744 : decode cL_law 744 = .ok (.aload_n 2, 1) := by decide +kernel
theorem dL_law_745 : decode cL_law 745 = .ok (.invokevirtual 107, 3) := by decide +kernel
theorem dL_law_748 : decode cL_law 748 = .ok (.if_icmp .eq 438, 3) := by decide +kernel
theorem dL_law_751 : decode cL_law 751 = .ok (.iconst 0, 1) := by decide +kernel
theorem dL_law_752 : decode cL_law 752 = .ok (.ireturn, 1) := by decide +kernel
theorem dL_law_753 : decode cL_law 753 = .ok (.aload_n 1, 1) := by decide +kernel
theorem dL_law_754 : decode cL_law 754 = .ok (.aload_n 0, 1) := by decide +kernel
theorem dL_law_755 : decode cL_law 755 = .ok (.iload 4, 2) := by decide +kernel
theorem dL_law_757 : decode cL_law 757 = .ok (.iconst 1, 1) := by decide +kernel
theorem dL_law_758 : decode cL_law 758 = .ok (.iadd, 1) := by decide +kernel
theorem dL_law_759 : decode cL_law 759 = .ok (.iaload, 1) := by decide +kernel
theorem dL_law_760 : decode cL_law 760 = .ok (.invokevirtual 108, 3) := by decide +kernel
theorem dL_law_763 : decode cL_law 763 = .ok (.aload_n 2, 1) := by decide +kernel
theorem dL_law_764 : decode cL_law 764 = .ok (.aload_n 0, 1) := by decide +kernel
theorem dL_law_765 : decode cL_law 765 = .ok (.iload 4, 2) := by decide +kernel
theorem dL_law_767 : decode cL_law 767 = .ok (.iconst 1, 1) := by decide +kernel
theorem dL_law_768 : decode cL_law 768 = .ok (.iadd, 1) := by decide +kernel
theorem dL_law_769 : decode cL_law 769 = .ok (.iaload, 1) := by decide +kernel
theorem dL_law_770 : decode cL_law 770 = .ok (.invokevirtual 111, 3) := by decide +kernel
theorem dL_law_773 : decode cL_law 773 = .ok (.if_icmp .eq 413, 3) := by decide +kernel
theorem dL_law_776 : decode cL_law 776 = .ok (.iconst 0, 1) := by decide +kernel
theorem dL_law_777 : decode cL_law 777 = .ok (.ireturn, 1) := by decide +kernel
theorem dL_law_778 : decode cL_law 778 = .ok (.aload_n 1, 1) := by decide +kernel
theorem dL_law_779 : decode cL_law 779 = .ok (.aload_n 0, 1) := by decide +kernel
theorem dL_law_780 : decode cL_law 780 = .ok (.iload 4, 2) := by decide +kernel
theorem dL_law_782 : decode cL_law 782 = .ok (.iconst 1, 1) := by decide +kernel
theorem dL_law_783 : decode cL_law 783 = .ok (.iadd, 1) := by decide +kernel
theorem dL_law_784 : decode cL_law 784 = .ok (.iaload, 1) := by decide +kernel
theorem dL_law_785 : decode cL_law 785 = .ok (.aload_n 3, 1) := by decide +kernel
theorem dL_law_786 : decode cL_law 786 = .ok (.invokestatic 112, 3) := by decide +kernel
theorem dL_law_789 : decode cL_law 789 = .ok (.istore 5, 2) := by decide +kernel
theorem dL_law_791 : decode cL_law 791 = .ok (.aload_n 2, 1) := by decide +kernel
theorem dL_law_792 : decode cL_law 792 = .ok (.aload_n 0, 1) := by decide +kernel
theorem dL_law_793 : decode cL_law 793 = .ok (.iload 4, 2) := by decide +kernel
theorem dL_law_795 : decode cL_law 795 = .ok (.iconst 1, 1) := by decide +kernel
theorem dL_law_796 : decode cL_law 796 = .ok (.iadd, 1) := by decide +kernel
theorem dL_law_797 : decode cL_law 797 = .ok (.iaload, 1) := by decide +kernel
theorem dL_law_798 : decode cL_law 798 = .ok (.invokevirtual 114, 3) := by decide +kernel
theorem dL_law_801 : decode cL_law 801 = .ok (.istore 6, 2) := by decide +kernel
theorem dL_law_803 : decode cL_law 803 = .ok (.aload_n 2, 1) := by decide +kernel
theorem dL_law_804 : decode cL_law 804 = .ok (.invokevirtual 72, 3) := by decide +kernel
theorem dL_law_807 : decode cL_law 807 = .ok (.iload 5, 2) := by decide +kernel
theorem dL_law_809 : decode cL_law 809 = .ok (.if_icmp .eq 5, 3) := by decide +kernel
theorem dL_law_812 : decode cL_law 812 = .ok (.iconst 0, 1) := by decide +kernel
theorem dL_law_813 : decode cL_law 813 = .ok (.ireturn, 1) := by decide +kernel
theorem dL_law_814 : decode cL_law 814 = .ok (.iload 5, 2) := by decide +kernel
theorem dL_law_816 : decode cL_law 816 = .ok (.ifCond .ne 15, 3) := by decide +kernel
theorem dL_law_819 : decode cL_law 819 = .ok (.aload_n 3, 1) := by decide +kernel
theorem dL_law_820 : decode cL_law 820 = .ok (.iconst 0, 1) := by decide +kernel
theorem dL_law_821 : decode cL_law 821 = .ok (.laload, 1) := by decide +kernel
theorem dL_law_822 : decode cL_law 822 = .ok (.iload 6, 2) := by decide +kernel
theorem dL_law_824 : decode cL_law 824 = .ok (.i2l, 1) := by decide +kernel
theorem dL_law_825 : decode cL_law 825 = .ok (.lcmp, 1) := by decide +kernel
theorem dL_law_826 : decode cL_law 826 = .ok (.ifCond .eq 5, 3) := by decide +kernel
theorem dL_law_829 : decode cL_law 829 = .ok (.iconst 0, 1) := by decide +kernel
theorem dL_law_830 : decode cL_law 830 = .ok (.ireturn, 1) := by decide +kernel
theorem dL_law_831 : decode cL_law 831 = .ok (.goto 355, 3) := by decide +kernel
theorem dL_law_834 : decode cL_law 834 = .ok (.aload_n 1, 1) := by decide +kernel
theorem dL_law_835 : decode cL_law 835 = .ok (.aload_n 0, 1) := by decide +kernel
theorem dL_law_836 : decode cL_law 836 = .ok (.iload 4, 2) := by decide +kernel
theorem dL_law_838 : decode cL_law 838 = .ok (.iconst 1, 1) := by decide +kernel
theorem dL_law_839 : decode cL_law 839 = .ok (.iadd, 1) := by decide +kernel
theorem dL_law_840 : decode cL_law 840 = .ok (.iaload, 1) := by decide +kernel
theorem dL_law_841 : decode cL_law 841 = .ok (.aload_n 0, 1) := by decide +kernel
theorem dL_law_842 : decode cL_law 842 = .ok (.iload 4, 2) := by decide +kernel
theorem dL_law_844 : decode cL_law 844 = .ok (.iconst 2, 1) := by decide +kernel
theorem dL_law_845 : decode cL_law 845 = .ok (.iadd, 1) := by decide +kernel
theorem dL_law_846 : decode cL_law 846 = .ok (.iaload, 1) := by decide +kernel
theorem dL_law_847 : decode cL_law 847 = .ok (.aload_n 3, 1) := by decide +kernel
theorem dL_law_848 : decode cL_law 848 = .ok (.invokestatic 115, 3) := by decide +kernel
theorem dL_law_851 : decode cL_law 851 = .ok (.istore 5, 2) := by decide +kernel
theorem dL_law_853 : decode cL_law 853 = .ok (.aload_n 2, 1) := by decide +kernel
theorem dL_law_854 : decode cL_law 854 = .ok (.aload_n 0, 1) := by decide +kernel
theorem dL_law_855 : decode cL_law 855 = .ok (.iload 4, 2) := by decide +kernel
theorem dL_law_857 : decode cL_law 857 = .ok (.iconst 1, 1) := by decide +kernel
theorem dL_law_858 : decode cL_law 858 = .ok (.iadd, 1) := by decide +kernel
theorem dL_law_859 : decode cL_law 859 = .ok (.iaload, 1) := by decide +kernel
theorem dL_law_860 : decode cL_law 860 = .ok (.aload_n 0, 1) := by decide +kernel
theorem dL_law_861 : decode cL_law 861 = .ok (.iload 4, 2) := by decide +kernel
theorem dL_law_863 : decode cL_law 863 = .ok (.iconst 2, 1) := by decide +kernel
theorem dL_law_864 : decode cL_law 864 = .ok (.iadd, 1) := by decide +kernel
theorem dL_law_865 : decode cL_law 865 = .ok (.iaload, 1) := by decide +kernel
theorem dL_law_866 : decode cL_law 866 = .ok (.invokevirtual 117, 3) := by decide +kernel
theorem dL_law_869 : decode cL_law 869 = .ok (.istore 6, 2) := by decide +kernel
theorem dL_law_871 : decode cL_law 871 = .ok (.aload_n 2, 1) := by decide +kernel
theorem dL_law_872 : decode cL_law 872 = .ok (.invokevirtual 72, 3) := by decide +kernel
theorem dL_law_875 : decode cL_law 875 = .ok (.iload 5, 2) := by decide +kernel
theorem dL_law_877 : decode cL_law 877 = .ok (.if_icmp .eq 5, 3) := by decide +kernel
theorem dL_law_880 : decode cL_law 880 = .ok (.iconst 0, 1) := by decide +kernel
theorem dL_law_881 : decode cL_law 881 = .ok (.ireturn, 1) := by decide +kernel
theorem dL_law_882 : decode cL_law 882 = .ok (.iload 5, 2) := by decide +kernel
theorem dL_law_884 : decode cL_law 884 = .ok (.ifCond .ne 15, 3) := by decide +kernel
theorem dL_law_887 : decode cL_law 887 = .ok (.aload_n 3, 1) := by decide +kernel
theorem dL_law_888 : decode cL_law 888 = .ok (.iconst 0, 1) := by decide +kernel
theorem dL_law_889 : decode cL_law 889 = .ok (.laload, 1) := by decide +kernel
theorem dL_law_890 : decode cL_law 890 = .ok (.iload 6, 2) := by decide +kernel
theorem dL_law_892 : decode cL_law 892 = .ok (.i2l, 1) := by decide +kernel
theorem dL_law_893 : decode cL_law 893 = .ok (.lcmp, 1) := by decide +kernel
theorem dL_law_894 : decode cL_law 894 = .ok (.ifCond .eq 5, 3) := by decide +kernel
theorem dL_law_897 : decode cL_law 897 = .ok (.iconst 0, 1) := by decide +kernel
theorem dL_law_898 : decode cL_law 898 = .ok (.ireturn, 1) := by decide +kernel
theorem dL_law_899 : decode cL_law 899 = .ok (.goto 287, 3) := by decide +kernel
theorem dL_law_902 : decode cL_law 902 = .ok (.aload_n 1, 1) := by decide +kernel
theorem dL_law_903 : decode cL_law 903 = .ok (.aload_n 0, 1) := by decide +kernel
theorem dL_law_904 : decode cL_law 904 = .ok (.iload 4, 2) := by decide +kernel
theorem dL_law_906 : decode cL_law 906 = .ok (.iconst 1, 1) := by decide +kernel
theorem dL_law_907 : decode cL_law 907 = .ok (.iadd, 1) := by decide +kernel
theorem dL_law_908 : decode cL_law 908 = .ok (.iaload, 1) := by decide +kernel
theorem dL_law_909 : decode cL_law 909 = .ok (.aload_n 3, 1) := by decide +kernel
theorem dL_law_910 : decode cL_law 910 = .ok (.invokestatic 118, 3) := by decide +kernel
theorem dL_law_913 : decode cL_law 913 = .ok (.istore 5, 2) := by decide +kernel
theorem dL_law_915 : decode cL_law 915 = .ok (.aload_n 2, 1) := by decide +kernel
theorem dL_law_916 : decode cL_law 916 = .ok (.aload_n 0, 1) := by decide +kernel
theorem dL_law_917 : decode cL_law 917 = .ok (.iload 4, 2) := by decide +kernel
theorem dL_law_919 : decode cL_law 919 = .ok (.iconst 1, 1) := by decide +kernel
theorem dL_law_920 : decode cL_law 920 = .ok (.iadd, 1) := by decide +kernel
theorem dL_law_921 : decode cL_law 921 = .ok (.iaload, 1) := by decide +kernel
theorem dL_law_922 : decode cL_law 922 = .ok (.invokevirtual 120, 3) := by decide +kernel
theorem dL_law_925 : decode cL_law 925 = .ok (.istore 6, 2) := by decide +kernel
theorem dL_law_927 : decode cL_law 927 = .ok (.aload_n 2, 1) := by decide +kernel
theorem dL_law_928 : decode cL_law 928 = .ok (.invokevirtual 72, 3) := by decide +kernel
theorem dL_law_931 : decode cL_law 931 = .ok (.iload 5, 2) := by decide +kernel
theorem dL_law_933 : decode cL_law 933 = .ok (.if_icmp .eq 5, 3) := by decide +kernel
theorem dL_law_936 : decode cL_law 936 = .ok (.iconst 0, 1) := by decide +kernel
theorem dL_law_937 : decode cL_law 937 = .ok (.ireturn, 1) := by decide +kernel
theorem dL_law_938 : decode cL_law 938 = .ok (.iload 5, 2) := by decide +kernel
theorem dL_law_940 : decode cL_law 940 = .ok (.ifCond .ne 15, 3) := by decide +kernel
theorem dL_law_943 : decode cL_law 943 = .ok (.aload_n 3, 1) := by decide +kernel
theorem dL_law_944 : decode cL_law 944 = .ok (.iconst 0, 1) := by decide +kernel
theorem dL_law_945 : decode cL_law 945 = .ok (.laload, 1) := by decide +kernel
theorem dL_law_946 : decode cL_law 946 = .ok (.iload 6, 2) := by decide +kernel
theorem dL_law_948 : decode cL_law 948 = .ok (.i2l, 1) := by decide +kernel
theorem dL_law_949 : decode cL_law 949 = .ok (.lcmp, 1) := by decide +kernel
theorem dL_law_950 : decode cL_law 950 = .ok (.ifCond .eq 5, 3) := by decide +kernel
theorem dL_law_953 : decode cL_law 953 = .ok (.iconst 0, 1) := by decide +kernel
theorem dL_law_954 : decode cL_law 954 = .ok (.ireturn, 1) := by decide +kernel
theorem dL_law_955 : decode cL_law 955 = .ok (.goto 231, 3) := by decide +kernel
theorem dL_law_958 : decode cL_law 958 = .ok (.aload_n 1, 1) := by decide +kernel
theorem dL_law_959 : decode cL_law 959 = .ok (.aload_n 0, 1) := by decide +kernel
theorem dL_law_960 : decode cL_law 960 = .ok (.iload 4, 2) := by decide +kernel
theorem dL_law_962 : decode cL_law 962 = .ok (.iconst 1, 1) := by decide +kernel
theorem dL_law_963 : decode cL_law 963 = .ok (.iadd, 1) := by decide +kernel
theorem dL_law_964 : decode cL_law 964 = .ok (.iaload, 1) := by decide +kernel
theorem dL_law_965 : decode cL_law 965 = .ok (.aload_n 0, 1) := by decide +kernel
theorem dL_law_966 : decode cL_law 966 = .ok (.iload 4, 2) := by decide +kernel
theorem dL_law_968 : decode cL_law 968 = .ok (.iconst 2, 1) := by decide +kernel
theorem dL_law_969 : decode cL_law 969 = .ok (.iadd, 1) := by decide +kernel
theorem dL_law_970 : decode cL_law 970 = .ok (.iaload, 1) := by decide +kernel
theorem dL_law_971 : decode cL_law 971 = .ok (.ifCond .eq 7, 3) := by decide +kernel
theorem dL_law_974 : decode cL_law 974 = .ok (.iconst 1, 1) := by decide +kernel
theorem dL_law_975 : decode cL_law 975 = .ok (.goto 4, 3) := by decide +kernel
theorem dL_law_978 : decode cL_law 978 = .ok (.iconst 0, 1) := by decide +kernel
theorem dL_law_979 : decode cL_law 979 = .ok (.aload_n 3, 1) := by decide +kernel
theorem dL_law_980 : decode cL_law 980 = .ok (.invokestatic 121, 3) := by decide +kernel
theorem dL_law_983 : decode cL_law 983 = .ok (.istore 5, 2) := by decide +kernel
theorem dL_law_985 : decode cL_law 985 = .ok (.aload_n 2, 1) := by decide +kernel
theorem dL_law_986 : decode cL_law 986 = .ok (.aload_n 0, 1) := by decide +kernel
theorem dL_law_987 : decode cL_law 987 = .ok (.iload 4, 2) := by decide +kernel
theorem dL_law_989 : decode cL_law 989 = .ok (.iconst 1, 1) := by decide +kernel
theorem dL_law_990 : decode cL_law 990 = .ok (.iadd, 1) := by decide +kernel
theorem dL_law_991 : decode cL_law 991 = .ok (.iaload, 1) := by decide +kernel
theorem dL_law_992 : decode cL_law 992 = .ok (.aload_n 0, 1) := by decide +kernel
theorem dL_law_993 : decode cL_law 993 = .ok (.iload 4, 2) := by decide +kernel
theorem dL_law_995 : decode cL_law 995 = .ok (.iconst 2, 1) := by decide +kernel
theorem dL_law_996 : decode cL_law 996 = .ok (.iadd, 1) := by decide +kernel
theorem dL_law_997 : decode cL_law 997 = .ok (.iaload, 1) := by decide +kernel
theorem dL_law_998 : decode cL_law 998 = .ok (.ifCond .eq 7, 3) := by decide +kernel
theorem dL_law_1001 : decode cL_law 1001 = .ok (.iconst 1, 1) := by decide +kernel
theorem dL_law_1002 : decode cL_law 1002 = .ok (.goto 4, 3) := by decide +kernel
theorem dL_law_1005 : decode cL_law 1005 = .ok (.iconst 0, 1) := by decide +kernel
theorem dL_law_1006 : decode cL_law 1006 = .ok (.invokevirtual 124, 3) := by decide +kernel
theorem dL_law_1009 : decode cL_law 1009 = .ok (.istore 6, 2) := by decide +kernel
theorem dL_law_1011 : decode cL_law 1011 = .ok (.aload_n 2, 1) := by decide +kernel
theorem dL_law_1012 : decode cL_law 1012 = .ok (.invokevirtual 72, 3) := by decide +kernel
theorem dL_law_1015 : decode cL_law 1015 = .ok (.iload 5, 2) := by decide +kernel
theorem dL_law_1017 : decode cL_law 1017 = .ok (.if_icmp .eq 5, 3) := by decide +kernel
theorem dL_law_1020 : decode cL_law 1020 = .ok (.iconst 0, 1) := by decide +kernel
theorem dL_law_1021 : decode cL_law 1021 = .ok (.ireturn, 1) := by decide +kernel
theorem dL_law_1022 : decode cL_law 1022 = .ok (.iload 5, 2) := by decide +kernel
theorem dL_law_1024 : decode cL_law 1024 = .ok (.ifCond .ne 22, 3) := by decide +kernel
theorem dL_law_1027 : decode cL_law 1027 = .ok (.aload_n 3, 1) := by decide +kernel
theorem dL_law_1028 : decode cL_law 1028 = .ok (.iconst 0, 1) := by decide +kernel
theorem dL_law_1029 : decode cL_law 1029 = .ok (.laload, 1) := by decide +kernel
theorem dL_law_1030 : decode cL_law 1030 = .ok (.iload 6, 2) := by decide +kernel
theorem dL_law_1032 : decode cL_law 1032 = .ok (.ifCond .eq 7, 3) := by decide +kernel
theorem dL_law_1035 : decode cL_law 1035 = .ok (.lconst 1, 1) := by decide +kernel
theorem dL_law_1036 : decode cL_law 1036 = .ok (.goto 4, 3) := by decide +kernel
theorem dL_law_1039 : decode cL_law 1039 = .ok (.lconst 0, 1) := by decide +kernel
theorem dL_law_1040 : decode cL_law 1040 = .ok (.lcmp, 1) := by decide +kernel
theorem dL_law_1041 : decode cL_law 1041 = .ok (.ifCond .eq 5, 3) := by decide +kernel
theorem dL_law_1044 : decode cL_law 1044 = .ok (.iconst 0, 1) := by decide +kernel
theorem dL_law_1045 : decode cL_law 1045 = .ok (.ireturn, 1) := by decide +kernel
theorem dL_law_1046 : decode cL_law 1046 = .ok (.goto 140, 3) := by decide +kernel
theorem dL_law_1049 : decode cL_law 1049 = .ok (.aload_n 1, 1) := by decide +kernel
theorem dL_law_1050 : decode cL_law 1050 = .ok (.aload_n 0, 1) := by decide +kernel
theorem dL_law_1051 : decode cL_law 1051 = .ok (.iload 4, 2) := by decide +kernel
theorem dL_law_1053 : decode cL_law 1053 = .ok (.iconst 1, 1) := by decide +kernel
theorem dL_law_1054 : decode cL_law 1054 = .ok (.iadd, 1) := by decide +kernel
theorem dL_law_1055 : decode cL_law 1055 = .ok (.iaload, 1) := by decide +kernel
theorem dL_law_1056 : decode cL_law 1056 = .ok (.aload_n 3, 1) := by decide +kernel
theorem dL_law_1057 : decode cL_law 1057 = .ok (.invokestatic 125, 3) := by decide +kernel
theorem dL_law_1060 : decode cL_law 1060 = .ok (.istore 5, 2) := by decide +kernel
theorem dL_law_1062 : decode cL_law 1062 = .ok (.aload_n 2, 1) := by decide +kernel
theorem dL_law_1063 : decode cL_law 1063 = .ok (.aload_n 0, 1) := by decide +kernel
theorem dL_law_1064 : decode cL_law 1064 = .ok (.iload 4, 2) := by decide +kernel
theorem dL_law_1066 : decode cL_law 1066 = .ok (.iconst 1, 1) := by decide +kernel
theorem dL_law_1067 : decode cL_law 1067 = .ok (.iadd, 1) := by decide +kernel
theorem dL_law_1068 : decode cL_law 1068 = .ok (.iaload, 1) := by decide +kernel
theorem dL_law_1069 : decode cL_law 1069 = .ok (.invokevirtual 127, 3) := by decide +kernel
theorem dL_law_1072 : decode cL_law 1072 = .ok (.istore 6, 2) := by decide +kernel
theorem dL_law_1074 : decode cL_law 1074 = .ok (.aload_n 2, 1) := by decide +kernel
theorem dL_law_1075 : decode cL_law 1075 = .ok (.invokevirtual 72, 3) := by decide +kernel
theorem dL_law_1078 : decode cL_law 1078 = .ok (.iload 5, 2) := by decide +kernel
theorem dL_law_1080 : decode cL_law 1080 = .ok (.if_icmp .eq 5, 3) := by decide +kernel
theorem dL_law_1083 : decode cL_law 1083 = .ok (.iconst 0, 1) := by decide +kernel
theorem dL_law_1084 : decode cL_law 1084 = .ok (.ireturn, 1) := by decide +kernel
theorem dL_law_1085 : decode cL_law 1085 = .ok (.iload 5, 2) := by decide +kernel
theorem dL_law_1087 : decode cL_law 1087 = .ok (.ifCond .ne 15, 3) := by decide +kernel
theorem dL_law_1090 : decode cL_law 1090 = .ok (.aload_n 3, 1) := by decide +kernel
theorem dL_law_1091 : decode cL_law 1091 = .ok (.iconst 0, 1) := by decide +kernel
theorem dL_law_1092 : decode cL_law 1092 = .ok (.laload, 1) := by decide +kernel
theorem dL_law_1093 : decode cL_law 1093 = .ok (.iload 6, 2) := by decide +kernel
theorem dL_law_1095 : decode cL_law 1095 = .ok (.i2l, 1) := by decide +kernel
theorem dL_law_1096 : decode cL_law 1096 = .ok (.lcmp, 1) := by decide +kernel
theorem dL_law_1097 : decode cL_law 1097 = .ok (.ifCond .eq 5, 3) := by decide +kernel
theorem dL_law_1100 : decode cL_law 1100 = .ok (.iconst 0, 1) := by decide +kernel
theorem dL_law_1101 : decode cL_law 1101 = .ok (.ireturn, 1) := by decide +kernel
theorem dL_law_1102 : decode cL_law 1102 = .ok (.goto 84, 3) := by decide +kernel
theorem dL_law_1105 : decode cL_law 1105 = .ok (.aload_n 1, 1) := by decide +kernel
theorem dL_law_1106 : decode cL_law 1106 = .ok (.aload_n 0, 1) := by decide +kernel
theorem dL_law_1107 : decode cL_law 1107 = .ok (.iload 4, 2) := by decide +kernel
theorem dL_law_1109 : decode cL_law 1109 = .ok (.iconst 1, 1) := by decide +kernel
theorem dL_law_1110 : decode cL_law 1110 = .ok (.iadd, 1) := by decide +kernel
theorem dL_law_1111 : decode cL_law 1111 = .ok (.iaload, 1) := by decide +kernel
theorem dL_law_1112 : decode cL_law 1112 = .ok (.aload_n 3, 1) := by decide +kernel
theorem dL_law_1113 : decode cL_law 1113 = .ok (.invokestatic 128, 3) := by decide +kernel
theorem dL_law_1116 : decode cL_law 1116 = .ok (.istore 5, 2) := by decide +kernel
theorem dL_law_1118 : decode cL_law 1118 = .ok (.aload_n 2, 1) := by decide +kernel
theorem dL_law_1119 : decode cL_law 1119 = .ok (.aload_n 0, 1) := by decide +kernel
theorem dL_law_1120 : decode cL_law 1120 = .ok (.iload 4, 2) := by decide +kernel
theorem dL_law_1122 : decode cL_law 1122 = .ok (.iconst 1, 1) := by decide +kernel
theorem dL_law_1123 : decode cL_law 1123 = .ok (.iadd, 1) := by decide +kernel
theorem dL_law_1124 : decode cL_law 1124 = .ok (.iaload, 1) := by decide +kernel
theorem dL_law_1125 : decode cL_law 1125 = .ok (.invokevirtual 130, 3) := by decide +kernel
theorem dL_law_1128 : decode cL_law 1128 = .ok (.istore 6, 2) := by decide +kernel
theorem dL_law_1130 : decode cL_law 1130 = .ok (.aload_n 2, 1) := by decide +kernel
theorem dL_law_1131 : decode cL_law 1131 = .ok (.invokevirtual 72, 3) := by decide +kernel
theorem dL_law_1134 : decode cL_law 1134 = .ok (.iload 5, 2) := by decide +kernel
theorem dL_law_1136 : decode cL_law 1136 = .ok (.if_icmp .eq 5, 3) := by decide +kernel
theorem dL_law_1139 : decode cL_law 1139 = .ok (.iconst 0, 1) := by decide +kernel
theorem dL_law_1140 : decode cL_law 1140 = .ok (.ireturn, 1) := by decide +kernel
theorem dL_law_1141 : decode cL_law 1141 = .ok (.iload 5, 2) := by decide +kernel
theorem dL_law_1143 : decode cL_law 1143 = .ok (.ifCond .ne 15, 3) := by decide +kernel
theorem dL_law_1146 : decode cL_law 1146 = .ok (.aload_n 3, 1) := by decide +kernel
theorem dL_law_1147 : decode cL_law 1147 = .ok (.iconst 0, 1) := by decide +kernel
theorem dL_law_1148 : decode cL_law 1148 = .ok (.laload, 1) := by decide +kernel
theorem dL_law_1149 : decode cL_law 1149 = .ok (.iload 6, 2) := by decide +kernel
theorem dL_law_1151 : decode cL_law 1151 = .ok (.i2l, 1) := by decide +kernel
theorem dL_law_1152 : decode cL_law 1152 = .ok (.lcmp, 1) := by decide +kernel
theorem dL_law_1153 : decode cL_law 1153 = .ok (.ifCond .eq 5, 3) := by decide +kernel
theorem dL_law_1156 : decode cL_law 1156 = .ok (.iconst 0, 1) := by decide +kernel
theorem dL_law_1157 : decode cL_law 1157 = .ok (.ireturn, 1) := by decide +kernel
theorem dL_law_1158 : decode cL_law 1158 = .ok (.goto 28, 3) := by decide +kernel
theorem dL_law_1161 : decode cL_law 1161 = .ok (.aload_n 1, 1) := by decide +kernel
theorem dL_law_1162 : decode cL_law 1162 = .ok (.aload_n 0, 1) := by decide +kernel
theorem dL_law_1163 : decode cL_law 1163 = .ok (.iload 4, 2) := by decide +kernel
theorem dL_law_1165 : decode cL_law 1165 = .ok (.iconst 1, 1) := by decide +kernel
theorem dL_law_1166 : decode cL_law 1166 = .ok (.iadd, 1) := by decide +kernel
theorem dL_law_1167 : decode cL_law 1167 = .ok (.iaload, 1) := by decide +kernel
theorem dL_law_1168 : decode cL_law 1168 = .ok (.invokevirtual 131, 3) := by decide +kernel
theorem dL_law_1171 : decode cL_law 1171 = .ok (.aload_n 2, 1) := by decide +kernel
theorem dL_law_1172 : decode cL_law 1172 = .ok (.aload_n 0, 1) := by decide +kernel
theorem dL_law_1173 : decode cL_law 1173 = .ok (.iload 4, 2) := by decide +kernel
theorem dL_law_1175 : decode cL_law 1175 = .ok (.iconst 1, 1) := by decide +kernel
theorem dL_law_1176 : decode cL_law 1176 = .ok (.iadd, 1) := by decide +kernel
theorem dL_law_1177 : decode cL_law 1177 = .ok (.iaload, 1) := by decide +kernel
theorem dL_law_1178 : decode cL_law 1178 = .ok (.invokevirtual 134, 3) := by decide +kernel
theorem dL_law_1181 : decode cL_law 1181 = .ok (.if_icmp .eq 5, 3) := by decide +kernel
theorem dL_law_1184 : decode cL_law 1184 = .ok (.iconst 0, 1) := by decide +kernel
theorem dL_law_1185 : decode cL_law 1185 = .ok (.ireturn, 1) := by decide +kernel
theorem dL_law_1186 : decode cL_law 1186 = .ok (.iinc 4 6, 3) := by decide +kernel
theorem dL_law_1189 : decode cL_law 1189 = .ok (.goto (-1166), 3) := by decide +kernel
theorem dL_law_1192 : decode cL_law 1192 = .ok (.iconst 1, 1) := by decide +kernel
theorem dL_law_1193 : decode cL_law 1193 = .ok (.ireturn, 1) := by decide +kernel
abbrev vwCl : List vw_C := [(RX1, TX1, 7), (RX3, TX3, 13), (RX4, TX4, 7), (RX5, TX5, 15), (RX6, TX6, 4), (RX7, TX7, 3), (RX8, TX8, 8), (RX9, TX9, 33)]
/-! ===== END printed: names ===== -/

