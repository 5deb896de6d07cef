def RX0 : String := "VowelTorus$Board"
def TX0 : u_T := fun k => match k with
  | 0 => ("VowelTorus$Board", "rows", "I", false)
  | 1 => ("VowelTorus$Board", "columns", "I", false)
  | 2 => ("VowelTorus$Board", "letters", "J", false)
  | 3 => ("VowelTorus$Board", "aim", "J", false)
  | 4 => ("VowelTorus$Board", "bars", "I", false)
  | 5 => ("VowelTorus$Board", "turnsMade", "I", false)
  | 6 => ("VowelTorus$Board", "swapsMade", "I", false)
  | 7 => ("VowelTorus$Board", "scramblesMade", "I", false)
  | 8 => ("VowelTorus$Board", "stepsMade", "I", false)
  | 9 => ("VowelTorus$Board", "boardsMade", "I", false)
  | _ => ("VowelTorus$Board", "goalsReached", "I", false)
def tyX0 : Nat → FieldType := fun k => match k with
  | 0 => .int
  | 1 => .int
  | 2 => .long
  | 3 => .long
  | 4 => .int
  | 5 => .int
  | 6 => .int
  | 7 => .int
  | 8 => .int
  | 9 => .int
  | _ => .int
abbrev wsX00 : List Cond := u_ws RX0 TX0 11
theorem nmX0 : ∀ a, a < 11 → ∀ b, b < 11 → a ≠ b → (TX0 a).2.1 ≠ (TX0 b).2.1 := by decide +kernel
theorem tyX0_ok : ∀ k, k < 11 → parseFieldDescriptor (TX0 k).2.2.1 = some (tyX0 k) := by decide +kernel
abbrev cX0_init : ByteArray := prog_2_method_1_code
def yX0_init : MethodName := ⟨RX0, "<init>", "()V"⟩
abbrev cX0_copy : ByteArray := prog_2_method_2_code
def yX0_copy : MethodName := ⟨RX0, "copy", "(LVowelTorus$Board;)V"⟩
abbrev cX0_lay : ByteArray := prog_2_method_3_code
def yX0_lay : MethodName := ⟨RX0, "lay", "(II)V"⟩
abbrev cX0_places : ByteArray := prog_2_method_4_code
def yX0_places : MethodName := ⟨RX0, "places", "()I"⟩
abbrev cX0_lines : ByteArray := prog_2_method_5_code
def yX0_lines : MethodName := ⟨RX0, "lines", "()I"⟩
abbrev cX0_turns : ByteArray := prog_2_method_6_code
def yX0_turns : MethodName := ⟨RX0, "turns", "()I"⟩
abbrev cX0_hasPlace : ByteArray := prog_2_method_7_code
def yX0_hasPlace : MethodName := ⟨RX0, "hasPlace", "(I)Z"⟩
abbrev cX0_hasLine : ByteArray := prog_2_method_8_code
def yX0_hasLine : MethodName := ⟨RX0, "hasLine", "(I)Z"⟩
abbrev cX0_hasTurn : ByteArray := prog_2_method_9_code
def yX0_hasTurn : MethodName := ⟨RX0, "hasTurn", "(I)Z"⟩
abbrev cX0_hasBar : ByteArray := prog_2_method_10_code
def yX0_hasBar : MethodName := ⟨RX0, "hasBar", "(I)Z"⟩
abbrev cX0_canTurn : ByteArray := prog_2_method_11_code
def yX0_canTurn : MethodName := ⟨RX0, "canTurn", "(I)Z"⟩
abbrev cX0_barredLines : ByteArray := prog_2_method_12_code
def yX0_barredLines : MethodName := ⟨RX0, "barredLines", "()I"⟩
abbrev cX0_rowOf : ByteArray := prog_2_method_13_code
def yX0_rowOf : MethodName := ⟨RX0, "rowOf", "(I)I"⟩
abbrev cX0_columnOf : ByteArray := prog_2_method_14_code
def yX0_columnOf : MethodName := ⟨RX0, "columnOf", "(I)I"⟩
abbrev cX0_lineLength : ByteArray := prog_2_method_15_code
def yX0_lineLength : MethodName := ⟨RX0, "lineLength", "(I)I"⟩
abbrev cX0_lineStart : ByteArray := prog_2_method_16_code
def yX0_lineStart : MethodName := ⟨RX0, "lineStart", "(I)I"⟩
abbrev cX0_lineStride : ByteArray := prog_2_method_17_code
def yX0_lineStride : MethodName := ⟨RX0, "lineStride", "(I)I"⟩
abbrev cX0_placeOn : ByteArray := prog_2_method_18_code
def yX0_placeOn : MethodName := ⟨RX0, "placeOn", "(II)I"⟩
abbrev cX0_turned : ByteArray := prog_2_method_19_code
def yX0_turned : MethodName := ⟨RX0, "turned", "(JI)J"⟩
abbrev cX0_areTurnsTakenBack : ByteArray := prog_2_method_20_code
def yX0_areTurnsTakenBack : MethodName := ⟨RX0, "areTurnsTakenBack", "()Z"⟩
abbrev cX0_turnToGoal : ByteArray := prog_2_method_21_code
def yX0_turnToGoal : MethodName := ⟨RX0, "turnToGoal", "(I)V"⟩
abbrev cX0_makeTurn : ByteArray := prog_2_method_22_code
def yX0_makeTurn : MethodName := ⟨RX0, "makeTurn", "(I)V"⟩
abbrev cX0_exchange : ByteArray := prog_2_method_23_code
def yX0_exchange : MethodName := ⟨RX0, "exchange", "(II)V"⟩
abbrev cX0_mix : ByteArray := prog_2_method_24_code
def yX0_mix : MethodName := ⟨RX0, "mix", "(II)V"⟩
abbrev cX0_atHome : ByteArray := prog_2_method_25_code
def yX0_atHome : MethodName := ⟨RX0, "atHome", "(J)I"⟩
abbrev cX0_isReached : ByteArray := prog_2_method_26_code
def yX0_isReached : MethodName := ⟨RX0, "isReached", "()Z"⟩
abbrev cX0_isGoal : ByteArray := prog_2_method_27_code
def yX0_isGoal : MethodName := ⟨RX0, "isGoal", "(J)Z"⟩
abbrev cX0_cares : ByteArray := prog_2_method_28_code
def yX0_cares : MethodName := ⟨RX0, "cares", "()J"⟩
abbrev cX0_count : ByteArray := prog_2_method_29_code
def yX0_count : MethodName := ⟨RX0, "count", "(JI)I"⟩
abbrev cX0_placeOf : ByteArray := prog_2_method_30_code
def yX0_placeOf : MethodName := ⟨RX0, "placeOf", "(JI)I"⟩
abbrev cX0_unlikeLetters : ByteArray := prog_2_method_31_code
def yX0_unlikeLetters : MethodName := ⟨RX0, "unlikeLetters", "()I"⟩
abbrev cX0_areAllUnlike : ByteArray := prog_2_method_32_code
def yX0_areAllUnlike : MethodName := ⟨RX0, "areAllUnlike", "()Z"⟩
abbrev cX0_hasSameLetters : ByteArray := prog_2_method_33_code
def yX0_hasSameLetters : MethodName := ⟨RX0, "hasSameLetters", "()Z"⟩
abbrev cX0_isBeyondReach : ByteArray := prog_2_method_34_code
def yX0_isBeyondReach : MethodName := ⟨RX0, "isBeyondReach", "()Z"⟩
abbrev cX0_filledAim : ByteArray := prog_2_method_35_code
def yX0_filledAim : MethodName := ⟨RX0, "filledAim", "()J"⟩
abbrev cX0_isOddByCycles : ByteArray := prog_2_method_36_code
def yX0_isOddByCycles : MethodName := ⟨RX0, "isOddByCycles", "(J)Z"⟩
abbrev cX0_isOddByPairs : ByteArray := prog_2_method_37_code
def yX0_isOddByPairs : MethodName := ⟨RX0, "isOddByPairs", "(J)Z"⟩
abbrev cX0_bestTurn : ByteArray := prog_2_method_38_code
def yX0_bestTurn : MethodName := ⟨RX0, "bestTurn", "()I"⟩
abbrev cX0_placeBehind : ByteArray := prog_2_method_39_code
def yX0_placeBehind : MethodName := ⟨RX0, "placeBehind", "(III)I"⟩
abbrev cX0_distance : ByteArray := prog_2_method_40_code
def yX0_distance : MethodName := ⟨RX0, "distance", "(II)I"⟩
abbrev cX0_isVowelOn : ByteArray := prog_2_method_41_code
def yX0_isVowelOn : MethodName := ⟨RX0, "isVowelOn", "(II)Z"⟩
abbrev cX0_vowelsOn : ByteArray := prog_2_method_42_code
def yX0_vowelsOn : MethodName := ⟨RX0, "vowelsOn", "(I)I"⟩
abbrev cX0_vowels : ByteArray := prog_2_method_43_code
def yX0_vowels : MethodName := ⟨RX0, "vowels", "()I"⟩
abbrev cX0_hasSong : ByteArray := prog_2_method_44_code
def yX0_hasSong : MethodName := ⟨RX0, "hasSong", "(I)Z"⟩
abbrev cX0_lineByVowels : ByteArray := prog_2_method_45_code
def yX0_lineByVowels : MethodName := ⟨RX0, "lineByVowels", "(I)I"⟩
def RX1 : String := "VowelTorus$Halfway"
def TX1 : u_T := fun k => match k with
  | 0 => ("VowelTorus$Halfway", "boards", "[J", true)
  | 1 => ("VowelTorus$Halfway", "firsts", "[I", true)
  | 2 => ("VowelTorus$Halfway", "goals", "[J", true)
  | 3 => ("VowelTorus$Halfway", "cares", "[J", true)
  | 4 => ("VowelTorus$Halfway", "boardCount", "I", false)
  | 5 => ("VowelTorus$Halfway", "goalCount", "I", false)
  | 6 => ("VowelTorus$Halfway", "fewest", "I", false)
  | _ => ("VowelTorus$Halfway", "first", "I", false)
def tyX1 : Nat → FieldType := fun k => match k with
  | 0 => .array .long
  | 1 => .array .int
  | 2 => .array .long
  | 3 => .array .long
  | 4 => .int
  | 5 => .int
  | 6 => .int
  | _ => .int
abbrev wsX10 : List Cond := u_ws RX1 TX1 8
theorem nmX1 : ∀ a, a < 8 → ∀ b, b < 8 → a ≠ b → (TX1 a).2.1 ≠ (TX1 b).2.1 := by decide +kernel
theorem tyX1_ok : ∀ k, k < 8 → parseFieldDescriptor (TX1 k).2.2.1 = some (tyX1 k) := by decide +kernel
abbrev cX1_init : ByteArray := prog_3_method_1_code
def yX1_init : MethodName := ⟨RX1, "<init>", "()V"⟩
abbrev cX1_search : ByteArray := prog_3_method_2_code
def yX1_search : MethodName := ⟨RX1, "search", "(LVowelTorus$Board;)V"⟩
abbrev cX1_takeGoalsBack : ByteArray := prog_3_method_3_code
def yX1_takeGoalsBack : MethodName := ⟨RX1, "takeGoalsBack", "(LVowelTorus$Board;)V"⟩
abbrev cX1_addGoal : ByteArray := prog_3_method_4_code
def yX1_addGoal : MethodName := ⟨RX1, "addGoal", "(JJ)V"⟩
abbrev cX1_addBoard : ByteArray := prog_3_method_5_code
def yX1_addBoard : MethodName := ⟨RX1, "addBoard", "(JI)V"⟩
abbrev cX1_spread : ByteArray := prog_3_method_6_code
def yX1_spread : MethodName := ⟨RX1, "spread", "(LVowelTorus$Board;II)V"⟩
abbrev cX1_meet : ByteArray := prog_3_method_7_code
def yX1_meet : MethodName := ⟨RX1, "meet", "(IIIII)Z"⟩
abbrev cX1_isMet : ByteArray := prog_3_method_8_code
def yX1_isMet : MethodName := ⟨RX1, "isMet", "(JII)Z"⟩
def RX2 : String := "VowelTorus$History"
def TX2 : u_T := fun k => match k with
  | 0 => ("VowelTorus$History", "ring", "[LVowelTorus$Board;", true)
  | 1 => ("VowelTorus$History", "next", "I", false)
  | _ => ("VowelTorus$History", "count", "I", false)
def tyX2 : Nat → FieldType := fun k => match k with
  | 0 => .array (.object "VowelTorus$Board")
  | 1 => .int
  | _ => .int
abbrev wsX20 : List Cond := u_ws RX2 TX2 3
theorem nmX2 : ∀ a, a < 3 → ∀ b, b < 3 → a ≠ b → (TX2 a).2.1 ≠ (TX2 b).2.1 := by decide +kernel
theorem tyX2_ok : ∀ k, k < 3 → parseFieldDescriptor (TX2 k).2.2.1 = some (tyX2 k) := by decide +kernel
abbrev cX2_init : ByteArray := prog_4_method_1_code
def yX2_init : MethodName := ⟨RX2, "<init>", "()V"⟩
abbrev cX2_keep : ByteArray := prog_4_method_2_code
def yX2_keep : MethodName := ⟨RX2, "keep", "(LVowelTorus$Board;)V"⟩
abbrev cX2_takeBack : ByteArray := prog_4_method_3_code
def yX2_takeBack : MethodName := ⟨RX2, "takeBack", "(LVowelTorus$Board;)V"⟩
abbrev cX2_forget : ByteArray := prog_4_method_4_code
def yX2_forget : MethodName := ⟨RX2, "forget", "()V"⟩
abbrev cX2_at : ByteArray := prog_4_method_5_code
def yX2_at : MethodName := ⟨RX2, "at", "(I)LVowelTorus$Board;"⟩
abbrev cX2_copyBoard : ByteArray := prog_4_method_6_code
def yX2_copyBoard : MethodName := ⟨RX2, "copyBoard", "(LVowelTorus$Board;LVowelTorus$Board;)V"⟩
def RX3 : String := "VowelTorus$Line"
def TX3 : u_T := fun k => match k with
  | 0 => ("VowelTorus$Line", "signs", "[C", true)
  | _ => ("VowelTorus$Line", "length", "I", false)
def tyX3 : Nat → FieldType := fun k => match k with
  | 0 => .array .char
  | _ => .int
abbrev wsX30 : List Cond := u_ws RX3 TX3 2
theorem nmX3 : ∀ a, a < 2 → ∀ b, b < 2 → a ≠ b → (TX3 a).2.1 ≠ (TX3 b).2.1 := by decide +kernel
theorem tyX3_ok : ∀ k, k < 2 → parseFieldDescriptor (TX3 k).2.2.1 = some (tyX3 k) := by decide +kernel
abbrev cX3_init : ByteArray := prog_5_method_1_code
def yX3_init : MethodName := ⟨RX3, "<init>", "()V"⟩
abbrev cX3_clear : ByteArray := prog_5_method_2_code
def yX3_clear : MethodName := ⟨RX3, "clear", "()V"⟩
abbrev cX3_add : ByteArray := prog_5_method_3_code
def yX3_add : MethodName := ⟨RX3, "add", "(C)V"⟩
abbrev cX3_signAt : ByteArray := prog_5_method_4_code
def yX3_signAt : MethodName := ⟨RX3, "signAt", "(I)C"⟩
def RX4 : String := "VowelTorus$Orders"
def TX4 : u_T := fun k => match k with
  | 0 => ("VowelTorus$Orders", "kinds", "[I", true)
  | 1 => ("VowelTorus$Orders", "ones", "[I", true)
  | 2 => ("VowelTorus$Orders", "others", "[I", true)
  | 3 => ("VowelTorus$Orders", "source", "[C", false)
  | 4 => ("VowelTorus$Orders", "length", "I", false)
  | 5 => ("VowelTorus$Orders", "at", "I", false)
  | _ => ("VowelTorus$Orders", "count", "I", false)
def tyX4 : Nat → FieldType := fun k => match k with
  | 0 => .array .int
  | 1 => .array .int
  | 2 => .array .int
  | 3 => .array .char
  | 4 => .int
  | 5 => .int
  | _ => .int
abbrev wsX40 : List Cond := u_ws RX4 TX4 7
theorem nmX4 : ∀ a, a < 7 → ∀ b, b < 7 → a ≠ b → (TX4 a).2.1 ≠ (TX4 b).2.1 := by decide +kernel
theorem tyX4_ok : ∀ k, k < 7 → parseFieldDescriptor (TX4 k).2.2.1 = some (tyX4 k) := by decide +kernel
abbrev cX4_init : ByteArray := prog_6_method_1_code
def yX4_init : MethodName := ⟨RX4, "<init>", "()V"⟩
abbrev cX4_kindOf : ByteArray := prog_6_method_2_code
def yX4_kindOf : MethodName := ⟨RX4, "kindOf", "(I)I"⟩
abbrev cX4_oneOf : ByteArray := prog_6_method_3_code
def yX4_oneOf : MethodName := ⟨RX4, "oneOf", "(I)I"⟩
abbrev cX4_otherOf : ByteArray := prog_6_method_4_code
def yX4_otherOf : MethodName := ⟨RX4, "otherOf", "(I)I"⟩
abbrev cX4_read : ByteArray := prog_6_method_5_code
def yX4_read : MethodName := ⟨RX4, "read", "([CI)I"⟩
abbrev cX4_readOrder : ByteArray := prog_6_method_6_code
def yX4_readOrder : MethodName := ⟨RX4, "readOrder", "()Z"⟩
abbrev cX4_takeOther : ByteArray := prog_6_method_7_code
def yX4_takeOther : MethodName := ⟨RX4, "takeOther", "(I)I"⟩
abbrev cX4_add : ByteArray := prog_6_method_8_code
def yX4_add : MethodName := ⟨RX4, "add", "(III)V"⟩
abbrev cX4_isKind : ByteArray := prog_6_method_9_code
def yX4_isKind : MethodName := ⟨RX4, "isKind", "(I)Z"⟩
abbrev cX4_peek : ByteArray := prog_6_method_10_code
def yX4_peek : MethodName := ⟨RX4, "peek", "()C"⟩
abbrev cX4_take : ByteArray := prog_6_method_11_code
def yX4_take : MethodName := ⟨RX4, "take", "(C)Z"⟩
abbrev cX4_takeDigit : ByteArray := prog_6_method_12_code
def yX4_takeDigit : MethodName := ⟨RX4, "takeDigit", "()I"⟩
abbrev cX4_takeNumber : ByteArray := prog_6_method_13_code
def yX4_takeNumber : MethodName := ⟨RX4, "takeNumber", "()I"⟩
abbrev cX4_takeCode : ByteArray := prog_6_method_14_code
def yX4_takeCode : MethodName := ⟨RX4, "takeCode", "(I)I"⟩
def RX5 : String := "VowelTorus"
def TX5 : u_T := fun k => match k with
  | 0 => ("VowelTorus", "now", "LVowelTorus$Board;", true)
  | 1 => ("VowelTorus", "before", "LVowelTorus$Board;", true)
  | 2 => ("VowelTorus", "saved", "LVowelTorus$Board;", true)
  | 3 => ("VowelTorus", "history", "LVowelTorus$History;", true)
  | 4 => ("VowelTorus", "halfway", "LVowelTorus$Halfway;", true)
  | 5 => ("VowelTorus", "written", "LVowelTorus$Line;", true)
  | 6 => ("VowelTorus", "orders", "LVowelTorus$Orders;", true)
  | 7 => ("VowelTorus", "input", "[C", true)
  | 8 => ("VowelTorus", "inputLength", "I", false)
  | 9 => ("VowelTorus", "errorAt", "I", false)
  | 10 => ("VowelTorus", "reason", "I", false)
  | 11 => ("VowelTorus", "detail", "I", false)
  | _ => ("VowelTorus", "isSaved", "Z", false)
def tyX5 : Nat → FieldType := fun k => match k with
  | 0 => .object "VowelTorus$Board"
  | 1 => .object "VowelTorus$Board"
  | 2 => .object "VowelTorus$Board"
  | 3 => .object "VowelTorus$History"
  | 4 => .object "VowelTorus$Halfway"
  | 5 => .object "VowelTorus$Line"
  | 6 => .object "VowelTorus$Orders"
  | 7 => .array .char
  | 8 => .int
  | 9 => .int
  | 10 => .int
  | 11 => .int
  | _ => .boolean
abbrev wsX50 : List Cond := u_ws RX5 TX5 13
theorem nmX5 : ∀ a, a < 13 → ∀ b, b < 13 → a ≠ b → (TX5 a).2.1 ≠ (TX5 b).2.1 := by decide +kernel
theorem tyX5_ok : ∀ k, k < 13 → parseFieldDescriptor (TX5 k).2.2.1 = some (tyX5 k) := by decide +kernel
abbrev cX5_init : ByteArray := prog_1_method_1_code
def yX5_init : MethodName := ⟨RX5, "<init>", "()V"⟩
abbrev cX5_board : ByteArray := prog_1_method_2_code
def yX5_board : MethodName := ⟨RX5, "board", "(II)I"⟩
abbrev cX5_put : ByteArray := prog_1_method_3_code
def yX5_put : MethodName := ⟨RX5, "put", "(IC)C"⟩
abbrev cX5_goal : ByteArray := prog_1_method_4_code
def yX5_goal : MethodName := ⟨RX5, "goal", "(IC)C"⟩
abbrev cX5_turn : ByteArray := prog_1_method_5_code
def yX5_turn : MethodName := ⟨RX5, "turn", "(I)I"⟩
abbrev cX5_swap : ByteArray := prog_1_method_6_code
def yX5_swap : MethodName := ⟨RX5, "swap", "(II)I"⟩
abbrev cX5_bar : ByteArray := prog_1_method_7_code
def yX5_bar : MethodName := ⟨RX5, "bar", "(I)Z"⟩
abbrev cX5_scramble : ByteArray := prog_1_method_8_code
def yX5_scramble : MethodName := ⟨RX5, "scramble", "(II)I"⟩
abbrev cX5_step : ByteArray := prog_1_method_9_code
def yX5_step : MethodName := ⟨RX5, "step", "()I"⟩
abbrev cX5_letter : ByteArray := prog_1_method_10_code
def yX5_letter : MethodName := ⟨RX5, "letter", "(I)C"⟩
abbrev cX5_sign : ByteArray := prog_1_method_11_code
def yX5_sign : MethodName := ⟨RX5, "sign", "(I)C"⟩
abbrev cX5_isBarred : ByteArray := prog_1_method_12_code
def yX5_isBarred : MethodName := ⟨RX5, "isBarred", "(I)Z"⟩
abbrev cX5_boardOf : ByteArray := prog_1_method_13_code
def yX5_boardOf : MethodName := ⟨RX5, "boardOf", "(I)I"⟩
abbrev cX5_away : ByteArray := prog_1_method_14_code
def yX5_away : MethodName := ⟨RX5, "away", "(Z)I"⟩
abbrev cX5_firstTurn : ByteArray := prog_1_method_15_code
def yX5_firstTurn : MethodName := ⟨RX5, "firstTurn", "()I"⟩
abbrev cX5_isOut : ByteArray := prog_1_method_16_code
def yX5_isOut : MethodName := ⟨RX5, "isOut", "()Z"⟩
abbrev cX5_isOdd : ByteArray := prog_1_method_17_code
def yX5_isOdd : MethodName := ⟨RX5, "isOdd", "(Z)Z"⟩
abbrev cX5_home : ByteArray := prog_1_method_18_code
def yX5_home : MethodName := ⟨RX5, "home", "()I"⟩
abbrev cX5_would : ByteArray := prog_1_method_19_code
def yX5_would : MethodName := ⟨RX5, "would", "(I)I"⟩
abbrev cX5_best : ByteArray := prog_1_method_20_code
def yX5_best : MethodName := ⟨RX5, "best", "()I"⟩
abbrev cX5_where : ByteArray := prog_1_method_21_code
def yX5_where : MethodName := ⟨RX5, "where", "(III)I"⟩
abbrev cX5_far : ByteArray := prog_1_method_22_code
def yX5_far : MethodName := ⟨RX5, "far", "(II)I"⟩
abbrev cX5_singing : ByteArray := prog_1_method_24_code
def yX5_singing : MethodName := ⟨RX5, "singing", "()I"⟩
abbrev cX5_ranked : ByteArray := prog_1_method_25_code
def yX5_ranked : MethodName := ⟨RX5, "ranked", "(I)I"⟩
abbrev cX5_text : ByteArray := prog_1_method_26_code
def yX5_text : MethodName := ⟨RX5, "text", "()I"⟩
abbrev cX5_goalText : ByteArray := prog_1_method_27_code
def yX5_goalText : MethodName := ⟨RX5, "goalText", "()I"⟩
abbrev cX5_lineText : ByteArray := prog_1_method_28_code
def yX5_lineText : MethodName := ⟨RX5, "lineText", "(I)I"⟩
abbrev cX5_character : ByteArray := prog_1_method_29_code
def yX5_character : MethodName := ⟨RX5, "character", "(I)C"⟩
abbrev cX5_append : ByteArray := prog_1_method_30_code
def yX5_append : MethodName := ⟨RX5, "append", "(C)I"⟩
abbrev cX5_run : ByteArray := prog_1_method_31_code
def yX5_run : MethodName := ⟨RX5, "run", "()I"⟩
abbrev cX5_errorPosition : ByteArray := prog_1_method_32_code
def yX5_errorPosition : MethodName := ⟨RX5, "errorPosition", "()I"⟩
abbrev cX5_refusal : ByteArray := prog_1_method_33_code
def yX5_refusal : MethodName := ⟨RX5, "refusal", "(Z)I"⟩
abbrev cX5_account : ByteArray := prog_1_method_34_code
def yX5_account : MethodName := ⟨RX5, "account", "(I)I"⟩
abbrev cX5_isWell : ByteArray := prog_1_method_35_code
def yX5_isWell : MethodName := ⟨RX5, "isWell", "()Z"⟩
abbrev cX5_meanFar : ByteArray := prog_1_method_36_code
def yX5_meanFar : MethodName := ⟨RX5, "meanFar", "()D"⟩
abbrev cX5_homeShare : ByteArray := prog_1_method_37_code
def yX5_homeShare : MethodName := ⟨RX5, "homeShare", "()F"⟩
abbrev cX5_undo : ByteArray := prog_1_method_38_code
def yX5_undo : MethodName := ⟨RX5, "undo", "()I"⟩
abbrev cX5_save : ByteArray := prog_1_method_39_code
def yX5_save : MethodName := ⟨RX5, "save", "()I"⟩
abbrev cX5_restore : ByteArray := prog_1_method_40_code
def yX5_restore : MethodName := ⟨RX5, "restore", "()I"⟩
abbrev cX5_needIndex : ByteArray := prog_1_method_41_code
def yX5_needIndex : MethodName := ⟨RX5, "needIndex", "(Z)V"⟩
abbrev cX5_raise : ByteArray := prog_1_method_42_code
def yX5_raise : MethodName := ⟨RX5, "raise", "(I)V"⟩
abbrev cX5_change : ByteArray := prog_1_method_43_code
def yX5_change : MethodName := ⟨RX5, "change", "(III)V"⟩
abbrev cX5_judge : ByteArray := prog_1_method_44_code
def yX5_judge : MethodName := ⟨RX5, "judge", "(III)I"⟩
abbrev cX5_judgeSign : ByteArray := prog_1_method_45_code
def yX5_judgeSign : MethodName := ⟨RX5, "judgeSign", "(IIJI)I"⟩
abbrev cX5_judgeTurn : ByteArray := prog_1_method_46_code
def yX5_judgeTurn : MethodName := ⟨RX5, "judgeTurn", "(I)I"⟩
abbrev cX5_judgeSwap : ByteArray := prog_1_method_47_code
def yX5_judgeSwap : MethodName := ⟨RX5, "judgeSwap", "(II)I"⟩
abbrev cX5_judgeScramble : ByteArray := prog_1_method_48_code
def yX5_judgeScramble : MethodName := ⟨RX5, "judgeScramble", "(II)I"⟩
abbrev cX5_judgeStep : ByteArray := prog_1_method_49_code
def yX5_judgeStep : MethodName := ⟨RX5, "judgeStep", "()I"⟩
abbrev cX5_refuse : ByteArray := prog_1_method_50_code
def yX5_refuse : MethodName := ⟨RX5, "refuse", "(II)I"⟩
abbrev cX5_carryOut : ByteArray := prog_1_method_51_code
def yX5_carryOut : MethodName := ⟨RX5, "carryOut", "(III)V"⟩
abbrev cX5_carryOutAll : ByteArray := prog_1_method_52_code
def yX5_carryOutAll : MethodName := ⟨RX5, "carryOutAll", "()I"⟩
abbrev cX5_fewestByHalves : ByteArray := prog_1_method_53_code
def yX5_fewestByHalves : MethodName := ⟨RX5, "fewestByHalves", "()I"⟩
abbrev cX5_fewestByAll : ByteArray := prog_1_method_54_code
def yX5_fewestByAll : MethodName := ⟨RX5, "fewestByAll", "()I"⟩
abbrev cX5_fewestFrom : ByteArray := prog_1_method_55_code
def yX5_fewestFrom : MethodName := ⟨RX5, "fewestFrom", "(LVowelTorus$Board;JI)I"⟩
abbrev cX5_writeAll : ByteArray := prog_1_method_56_code
def yX5_writeAll : MethodName := ⟨RX5, "writeAll", "(J)I"⟩
abbrev cX5_isSide : ByteArray := prog_1_method_57_code
def yX5_isSide : MethodName := ⟨RX5, "isSide", "(I)Z"⟩
abbrev cX5_codeOf : ByteArray := prog_1_method_58_code
def yX5_codeOf : MethodName := ⟨RX5, "codeOf", "(C)I"⟩
abbrev cX5_signOf : ByteArray := prog_1_method_59_code
def yX5_signOf : MethodName := ⟨RX5, "signOf", "(I)C"⟩
abbrev cX5_isVowel : ByteArray := prog_1_method_60_code
def yX5_isVowel : MethodName := ⟨RX5, "isVowel", "(C)Z"⟩
abbrev cX5_codeAt : ByteArray := prog_1_method_61_code
def yX5_codeAt : MethodName := ⟨RX5, "codeAt", "(JI)I"⟩
abbrev cX5_withCode : ByteArray := prog_1_method_62_code
def yX5_withCode : MethodName := ⟨RX5, "withCode", "(JII)J"⟩
def RX6 : String := "VowelTorusModel"
def TX6 : u_T := fun k => match k with
  | _ => ("", "", "", false)
def tyX6 : Nat → FieldType := fun k => match k with
  | _ => .int
abbrev wsX60 : List Cond := u_ws RX6 TX6 0
theorem nmX6 : ∀ a, a < 0 → ∀ b, b < 0 → a ≠ b → (TX6 a).2.1 ≠ (TX6 b).2.1 := by decide +kernel
theorem tyX6_ok : ∀ k, k < 0 → parseFieldDescriptor (TX6 k).2.2.1 = some (tyX6 k) := by decide +kernel
def RJx145de : String := "java/io/Serializable"
def TJx145de : u_T := fun k => match k with
  | _ => ("", "", "", false)
def tyJx145de : Nat → FieldType := fun k => match k with
  | _ => .int
abbrev wsJx145de0 : List Cond := u_ws RJx145de TJx145de 0
theorem nmJx145de : ∀ a, a < 0 → ∀ b, b < 0 → a ≠ b → (TJx145de a).2.1 ≠ (TJx145de b).2.1 := by decide +kernel
theorem tyJx145de_ok : ∀ k, k < 0 → parseFieldDescriptor (TJx145de k).2.2.1 = some (tyJx145de k) := by decide +kernel
def RJ5 : String := "java/lang/AbstractStringBuilder"
def TJ5 : u_T := fun k => match k with
  | _ => ("", "", "", false)
def tyJ5 : Nat → FieldType := fun k => match k with
  | _ => .int
abbrev wsJ50 : List Cond := u_ws RJ5 TJ5 0
theorem nmJ5 : ∀ a, a < 0 → ∀ b, b < 0 → a ≠ b → (TJ5 a).2.1 ≠ (TJ5 b).2.1 := by decide +kernel
theorem tyJ5_ok : ∀ k, k < 0 → parseFieldDescriptor (TJ5 k).2.2.1 = some (tyJ5 k) := by decide +kernel
abbrev cJ5_init_d00df : ByteArray := prog_10_method_2_code
def yJ5_init_d00df : MethodName := ⟨RJ5, "<init>", "(I)V"⟩
abbrev cJ5_length_8abf5 : ByteArray := prog_10_method_6_code
def yJ5_length_8abf5 : MethodName := ⟨RJ5, "length", "()I"⟩
abbrev cJ5_ensureCapacityInternal_d00df : ByteArray := prog_10_method_9_code
def yJ5_ensureCapacityInternal_d00df : MethodName := ⟨RJ5, "ensureCapacityInternal", "(I)V"⟩
abbrev cJ5_newCapacity_0f7a4 : ByteArray := prog_10_method_10_code
def yJ5_newCapacity_0f7a4 : MethodName := ⟨RJ5, "newCapacity", "(I)I"⟩
abbrev cJ5_inflate_da8c8 : ByteArray := prog_10_method_11_code
def yJ5_inflate_da8c8 : MethodName := ⟨RJ5, "inflate", "()V"⟩
abbrev cJ5_append_cf1ce : ByteArray := prog_10_method_22_code
def yJ5_append_cf1ce : MethodName := ⟨RJ5, "append", "(Ljava/lang/String;)Ljava/lang/AbstractStringBuilder;"⟩
abbrev cJ5_appendNull_278bc : ByteArray := prog_10_method_26_code
def yJ5_appendNull_278bc : MethodName := ⟨RJ5, "appendNull", "()Ljava/lang/AbstractStringBuilder;"⟩
abbrev cJ5_append_c97b9 : ByteArray := prog_10_method_32_code
def yJ5_append_c97b9 : MethodName := ⟨RJ5, "append", "(I)Ljava/lang/AbstractStringBuilder;"⟩
abbrev cJ5_getValue_6d5f1 : ByteArray := prog_10_method_64_code
def yJ5_getValue_6d5f1 : MethodName := ⟨RJ5, "getValue", "()[B"⟩
abbrev cJ5_isLatin1_aae02 : ByteArray := prog_10_method_68_code
def yJ5_isLatin1_aae02 : MethodName := ⟨RJ5, "isLatin1", "()Z"⟩
abbrev cJ5_inflateIfNeededFor_a7421 : ByteArray := prog_10_method_71_code
def yJ5_inflateIfNeededFor_a7421 : MethodName := ⟨RJ5, "inflateIfNeededFor", "(Ljava/lang/String;)V"⟩
abbrev cJ5_putStringAt_47b60 : ByteArray := prog_10_method_73_code
def yJ5_putStringAt_47b60 : MethodName := ⟨RJ5, "putStringAt", "(ILjava/lang/String;)V"⟩
def RJx2cfe8 : String := "java/lang/Appendable"
def TJx2cfe8 : u_T := fun k => match k with
  | _ => ("", "", "", false)
def tyJx2cfe8 : Nat → FieldType := fun k => match k with
  | _ => .int
abbrev wsJx2cfe80 : List Cond := u_ws RJx2cfe8 TJx2cfe8 0
theorem nmJx2cfe8 : ∀ a, a < 0 → ∀ b, b < 0 → a ≠ b → (TJx2cfe8 a).2.1 ≠ (TJx2cfe8 b).2.1 := by decide +kernel
theorem tyJx2cfe8_ok : ∀ k, k < 0 → parseFieldDescriptor (TJx2cfe8 k).2.2.1 = some (tyJx2cfe8 k) := by decide +kernel
def RJx00060 : String := "java/lang/ArrayIndexOutOfBoundsException"
def TJx00060 : u_T := fun k => match k with
  | 0 => ("java/lang/Throwable", "backtrace", "Ljava/lang/Object;", false)
  | 1 => ("java/lang/Throwable", "detailMessage", "Ljava/lang/String;", false)
  | 2 => ("java/lang/Throwable", "cause", "Ljava/lang/Throwable;", false)
  | 3 => ("java/lang/Throwable", "stackTrace", "[Ljava/lang/StackTraceElement;", false)
  | 4 => ("java/lang/Throwable", "depth", "I", false)
  | _ => ("java/lang/Throwable", "suppressedExceptions", "Ljava/util/List;", false)
def tyJx00060 : Nat → FieldType := fun k => match k with
  | 0 => .object "java/lang/Object"
  | 1 => .object "java/lang/String"
  | 2 => .object "java/lang/Throwable"
  | 3 => .array (.object "java/lang/StackTraceElement")
  | 4 => .int
  | _ => .object "java/util/List"
abbrev wsJx000600 : List Cond := u_ws RJx00060 TJx00060 6
theorem nmJx00060 : ∀ a, a < 6 → ∀ b, b < 6 → a ≠ b → (TJx00060 a).2.1 ≠ (TJx00060 b).2.1 := by decide +kernel
theorem tyJx00060_ok : ∀ k, k < 6 → parseFieldDescriptor (TJx00060 k).2.2.1 = some (tyJx00060 k) := by decide +kernel
abbrev cJx00060_init_a7421 : ByteArray := prog_13_method_2_code
def yJx00060_init_a7421 : MethodName := ⟨RJx00060, "<init>", "(Ljava/lang/String;)V"⟩
def RJx9f9b0 : String := "java/lang/CharSequence"
def TJx9f9b0 : u_T := fun k => match k with
  | _ => ("", "", "", false)
def tyJx9f9b0 : Nat → FieldType := fun k => match k with
  | _ => .int
abbrev wsJx9f9b00 : List Cond := u_ws RJx9f9b0 TJx9f9b0 0
theorem nmJx9f9b0 : ∀ a, a < 0 → ∀ b, b < 0 → a ≠ b → (TJx9f9b0 a).2.1 ≠ (TJx9f9b0 b).2.1 := by decide +kernel
theorem tyJx9f9b0_ok : ∀ k, k < 0 → parseFieldDescriptor (TJx9f9b0 k).2.2.1 = some (tyJx9f9b0 k) := by decide +kernel
def RJx8e188 : String := "java/lang/Cloneable"
def TJx8e188 : u_T := fun k => match k with
  | _ => ("", "", "", false)
def tyJx8e188 : Nat → FieldType := fun k => match k with
  | _ => .int
abbrev wsJx8e1880 : List Cond := u_ws RJx8e188 TJx8e188 0
theorem nmJx8e188 : ∀ a, a < 0 → ∀ b, b < 0 → a ≠ b → (TJx8e188 a).2.1 ≠ (TJx8e188 b).2.1 := by decide +kernel
theorem tyJx8e188_ok : ∀ k, k < 0 → parseFieldDescriptor (TJx8e188 k).2.2.1 = some (tyJx8e188 k) := by decide +kernel
def RJxb160c : String := "java/lang/Comparable"
def TJxb160c : u_T := fun k => match k with
  | _ => ("", "", "", false)
def tyJxb160c : Nat → FieldType := fun k => match k with
  | _ => .int
abbrev wsJxb160c0 : List Cond := u_ws RJxb160c TJxb160c 0
theorem nmJxb160c : ∀ a, a < 0 → ∀ b, b < 0 → a ≠ b → (TJxb160c a).2.1 ≠ (TJxb160c b).2.1 := by decide +kernel
theorem tyJxb160c_ok : ∀ k, k < 0 → parseFieldDescriptor (TJxb160c k).2.2.1 = some (tyJxb160c k) := by decide +kernel
def RJ6 : String := "java/lang/Integer"
def TJ6 : u_T := fun k => match k with
  | _ => ("", "", "", false)
def tyJ6 : Nat → FieldType := fun k => match k with
  | _ => .int
abbrev wsJ60 : List Cond := u_ws RJ6 TJ6 0
theorem nmJ6 : ∀ a, a < 0 → ∀ b, b < 0 → a ≠ b → (TJ6 a).2.1 ≠ (TJ6 b).2.1 := by decide +kernel
theorem tyJ6_ok : ∀ k, k < 0 → parseFieldDescriptor (TJ6 k).2.2.1 = some (tyJ6 k) := by decide +kernel
abbrev cJ6_getChars_ba4f3 : ByteArray := prog_21_method_12_code
def yJ6_getChars_ba4f3 : MethodName := ⟨RJ6, "getChars", "(II[B)I"⟩
abbrev cJ6_stringSize_0f7a4 : ByteArray := prog_21_method_13_code
def yJ6_stringSize_0f7a4 : MethodName := ⟨RJ6, "stringSize", "(I)I"⟩
abbrev cJ6_bitCount_0f7a4 : ByteArray := prog_21_method_49_code
def yJ6_bitCount_0f7a4 : MethodName := ⟨RJ6, "bitCount", "(I)I"⟩
def RJ9 : String := "java/lang/Math"
def TJ9 : u_T := fun k => match k with
  | _ => ("", "", "", false)
def tyJ9 : Nat → FieldType := fun k => match k with
  | _ => .int
abbrev wsJ90 : List Cond := u_ws RJ9 TJ9 0
theorem nmJ9 : ∀ a, a < 0 → ∀ b, b < 0 → a ≠ b → (TJ9 a).2.1 ≠ (TJ9 b).2.1 := by decide +kernel
theorem tyJ9_ok : ∀ k, k < 0 → parseFieldDescriptor (TJ9 k).2.2.1 = some (tyJ9 k) := by decide +kernel
abbrev cJ9_abs_0f7a4 : ByteArray := prog_22_method_59_code
def yJ9_abs_0f7a4 : MethodName := ⟨RJ9, "abs", "(I)I"⟩
abbrev cJ9_max_7cf53 : ByteArray := prog_22_method_65_code
def yJ9_max_7cf53 : MethodName := ⟨RJ9, "max", "(II)I"⟩
abbrev cJ9_min_7cf53 : ByteArray := prog_22_method_69_code
def yJ9_min_7cf53 : MethodName := ⟨RJ9, "min", "(II)I"⟩
def RJxd2413 : String := "java/lang/Number"
def TJxd2413 : u_T := fun k => match k with
  | _ => ("", "", "", false)
def tyJxd2413 : Nat → FieldType := fun k => match k with
  | _ => .int
abbrev wsJxd24130 : List Cond := u_ws RJxd2413 TJxd2413 0
theorem nmJxd2413 : ∀ a, a < 0 → ∀ b, b < 0 → a ≠ b → (TJxd2413 a).2.1 ≠ (TJxd2413 b).2.1 := by decide +kernel
theorem tyJxd2413_ok : ∀ k, k < 0 → parseFieldDescriptor (TJxd2413 k).2.2.1 = some (tyJxd2413 k) := by decide +kernel
def RJ0 : String := "java/lang/String"
def TJ0 : u_T := fun k => match k with
  | 0 => ("java/lang/String", "value", "[B", true)
  | 1 => ("java/lang/String", "coder", "B", true)
  | 2 => ("java/lang/String", "hash", "I", false)
  | _ => ("java/lang/String", "hashIsZero", "Z", false)
def tyJ0 : Nat → FieldType := fun k => match k with
  | 0 => .array .byte
  | 1 => .byte
  | 2 => .int
  | _ => .boolean
abbrev wsJ00 : List Cond := u_ws RJ0 TJ0 4
theorem nmJ0 : ∀ a, a < 4 → ∀ b, b < 4 → a ≠ b → (TJ0 a).2.1 ≠ (TJ0 b).2.1 := by decide +kernel
theorem tyJ0_ok : ∀ k, k < 4 → parseFieldDescriptor (TJ0 k).2.2.1 = some (tyJ0 k) := by decide +kernel
abbrev cJ0_init_81219 : ByteArray := prog_25_method_53_code
def yJ0_init_81219 : MethodName := ⟨RJ0, "<init>", "(Ljava/lang/StringBuilder;)V"⟩
abbrev cJ0_length_8abf5 : ByteArray := prog_25_method_54_code
def yJ0_length_8abf5 : MethodName := ⟨RJ0, "length", "()I"⟩
abbrev cJ0_charAt_5068e : ByteArray := prog_25_method_56_code
def yJ0_charAt_5068e : MethodName := ⟨RJ0, "charAt", "(I)C"⟩
abbrev cJ0_getBytes_840e7 : ByteArray := prog_25_method_147_code
def yJ0_getBytes_840e7 : MethodName := ⟨RJ0, "getBytes", "([BIB)V"⟩
abbrev cJ0_init_db425 : ByteArray := prog_25_method_150_code
def yJ0_init_db425 : MethodName := ⟨RJ0, "<init>", "(Ljava/lang/AbstractStringBuilder;Ljava/lang/Void;)V"⟩
abbrev cJ0_coder_7d493 : ByteArray := prog_25_method_152_code
def yJ0_coder_7d493 : MethodName := ⟨RJ0, "coder", "()B"⟩
abbrev cJ0_isLatin1_aae02 : ByteArray := prog_25_method_154_code
def yJ0_isLatin1_aae02 : MethodName := ⟨RJ0, "isLatin1", "()Z"⟩
abbrev cJ0_checkIndex_df160 : ByteArray := prog_25_method_155_code
def yJ0_checkIndex_df160 : MethodName := ⟨RJ0, "checkIndex", "(II)V"⟩
abbrev cJ0_checkBoundsOffCount_cabcc : ByteArray := prog_25_method_157_code
def yJ0_checkBoundsOffCount_cabcc : MethodName := ⟨RJ0, "checkBoundsOffCount", "(III)I"⟩
abbrev cJ0_checkBoundsBeginEnd_23922 : ByteArray := prog_25_method_158_code
def yJ0_checkBoundsBeginEnd_23922 : MethodName := ⟨RJ0, "checkBoundsBeginEnd", "(III)V"⟩
def RJ4 : String := "java/lang/StringBuilder"
def TJ4 : u_T := fun k => match k with
  | 0 => ("java/lang/AbstractStringBuilder", "value", "[B", false)
  | 1 => ("java/lang/AbstractStringBuilder", "coder", "B", false)
  | 2 => ("java/lang/AbstractStringBuilder", "maybeLatin1", "Z", false)
  | _ => ("java/lang/AbstractStringBuilder", "count", "I", false)
def tyJ4 : Nat → FieldType := fun k => match k with
  | 0 => .array .byte
  | 1 => .byte
  | 2 => .boolean
  | _ => .int
abbrev wsJ40 : List Cond := u_ws RJ4 TJ4 4
theorem nmJ4 : ∀ a, a < 4 → ∀ b, b < 4 → a ≠ b → (TJ4 a).2.1 ≠ (TJ4 b).2.1 := by decide +kernel
theorem tyJ4_ok : ∀ k, k < 4 → parseFieldDescriptor (TJ4 k).2.2.1 = some (tyJ4 k) := by decide +kernel
abbrev cJ4_init_da8c8 : ByteArray := prog_26_method_1_code
def yJ4_init_da8c8 : MethodName := ⟨RJ4, "<init>", "()V"⟩
abbrev cJ4_append_15ec4 : ByteArray := prog_26_method_7_code
def yJ4_append_15ec4 : MethodName := ⟨RJ4, "append", "(Ljava/lang/String;)Ljava/lang/StringBuilder;"⟩
abbrev cJ4_append_bf812 : ByteArray := prog_26_method_15_code
def yJ4_append_bf812 : MethodName := ⟨RJ4, "append", "(I)Ljava/lang/StringBuilder;"⟩
abbrev cJ4_toString_0e30d : ByteArray := prog_26_method_42_code
def yJ4_toString_0e30d : MethodName := ⟨RJ4, "toString", "()Ljava/lang/String;"⟩
abbrev cJ4_length_8abf5 : ByteArray := prog_26_method_93_code
def yJ4_length_8abf5 : MethodName := ⟨RJ4, "length", "()I"⟩
def RJ1 : String := "java/lang/StringLatin1"
def TJ1 : u_T := fun k => match k with
  | _ => ("", "", "", false)
def tyJ1 : Nat → FieldType := fun k => match k with
  | _ => .int
abbrev wsJ10 : List Cond := u_ws RJ1 TJ1 0
theorem nmJ1 : ∀ a, a < 0 → ∀ b, b < 0 → a ≠ b → (TJ1 a).2.1 ≠ (TJ1 b).2.1 := by decide +kernel
theorem tyJ1_ok : ∀ k, k < 0 → parseFieldDescriptor (TJ1 k).2.2.1 = some (tyJ1 k) := by decide +kernel
abbrev cJ1_charAt_3b067 : ByteArray := prog_27_method_2_code
def yJ1_charAt_3b067 : MethodName := ⟨RJ1, "charAt", "([BI)C"⟩
abbrev cJ1_inflate_0e8fd : ByteArray := prog_27_method_50_code
def yJ1_inflate_0e8fd : MethodName := ⟨RJ1, "inflate", "([BI[BII)V"⟩
def RJ2 : String := "java/lang/StringUTF16"
def TJ2 : u_T := fun k => match k with
  | _ => ("", "", "", false)
def tyJ2 : Nat → FieldType := fun k => match k with
  | _ => .int
abbrev wsJ20 : List Cond := u_ws RJ2 TJ2 0
theorem nmJ2 : ∀ a, a < 0 → ∀ b, b < 0 → a ≠ b → (TJ2 a).2.1 ≠ (TJ2 b).2.1 := by decide +kernel
theorem tyJ2_ok : ∀ k, k < 0 → parseFieldDescriptor (TJ2 k).2.2.1 = some (tyJ2 k) := by decide +kernel
abbrev cJ2_newBytesFor_77867 : ByteArray := prog_28_method_2_code
def yJ2_newBytesFor_77867 : MethodName := ⟨RJ2, "newBytesFor", "(I)[B"⟩
abbrev cJ2_newBytesLength_0f7a4 : ByteArray := prog_28_method_3_code
def yJ2_newBytesLength_0f7a4 : MethodName := ⟨RJ2, "newBytesLength", "(I)I"⟩
abbrev cJ2_putChar_b72d1 : ByteArray := prog_28_method_4_code
def yJ2_putChar_b72d1 : MethodName := ⟨RJ2, "putChar", "([BII)V"⟩
abbrev cJ2_getChar_3b067 : ByteArray := prog_28_method_5_code
def yJ2_getChar_3b067 : MethodName := ⟨RJ2, "getChar", "([BI)C"⟩
abbrev cJ2_length_9d52b : ByteArray := prog_28_method_6_code
def yJ2_length_9d52b : MethodName := ⟨RJ2, "length", "([B)I"⟩
abbrev cJ2_coderFromArrayLen_85cad : ByteArray := prog_28_method_15_code
def yJ2_coderFromArrayLen_85cad : MethodName := ⟨RJ2, "coderFromArrayLen", "([BI)B"⟩
abbrev cJ2_compress_39247 : ByteArray := prog_28_method_17_code
def yJ2_compress_39247 : MethodName := ⟨RJ2, "compress", "([BII)[B"⟩
abbrev cJ2_compress_5af95 : ByteArray := prog_28_method_22_code
def yJ2_compress_5af95 : MethodName := ⟨RJ2, "compress", "([BI[BII)I"⟩
abbrev cJ2_getChars_46870 : ByteArray := prog_28_method_77_code
def yJ2_getChars_46870 : MethodName := ⟨RJ2, "getChars", "(III[B)I"⟩
abbrev cJ2_putCharsAt_cd4e5 : ByteArray := prog_28_method_81_code
def yJ2_putCharsAt_cd4e5 : MethodName := ⟨RJ2, "putCharsAt", "([BICCCC)I"⟩
abbrev cJ2_charAt_3b067 : ByteArray := prog_28_method_83_code
def yJ2_charAt_3b067 : MethodName := ⟨RJ2, "charAt", "([BI)C"⟩
abbrev cJ2_inflate_0e8fd : ByteArray := prog_28_method_86_code
def yJ2_inflate_0e8fd : MethodName := ⟨RJ2, "inflate", "([BI[BII)V"⟩
abbrev cJ2_getChars_ba4f3 : ByteArray := prog_28_method_89_code
def yJ2_getChars_ba4f3 : MethodName := ⟨RJ2, "getChars", "(II[B)I"⟩
abbrev cJ2_checkIndex_2214a : ByteArray := prog_28_method_91_code
def yJ2_checkIndex_2214a : MethodName := ⟨RJ2, "checkIndex", "(I[B)V"⟩
abbrev cJ2_checkBoundsBeginEnd_d044e : ByteArray := prog_28_method_93_code
def yJ2_checkBoundsBeginEnd_d044e : MethodName := ⟨RJ2, "checkBoundsBeginEnd", "(II[B)V"⟩
abbrev cJ2_checkBoundsOffCount_d044e : ByteArray := prog_28_method_94_code
def yJ2_checkBoundsOffCount_d044e : MethodName := ⟨RJ2, "checkBoundsOffCount", "(II[B)V"⟩
def RJ10 : String := "java/lang/System"
def TJ10 : u_T := fun k => match k with
  | _ => ("", "", "", false)
def tyJ10 : Nat → FieldType := fun k => match k with
  | _ => .int
abbrev wsJ100 : List Cond := u_ws RJ10 TJ10 0
theorem nmJ10 : ∀ a, a < 0 → ∀ b, b < 0 → a ≠ b → (TJ10 a).2.1 ≠ (TJ10 b).2.1 := by decide +kernel
theorem tyJ10_ok : ∀ k, k < 0 → parseFieldDescriptor (TJ10 k).2.2.1 = some (tyJ10 k) := by decide +kernel
def RJxfd54e : String := "java/lang/constant/Constable"
def TJxfd54e : u_T := fun k => match k with
  | _ => ("", "", "", false)
def tyJxfd54e : Nat → FieldType := fun k => match k with
  | _ => .int
abbrev wsJxfd54e0 : List Cond := u_ws RJxfd54e TJxfd54e 0
theorem nmJxfd54e : ∀ a, a < 0 → ∀ b, b < 0 → a ≠ b → (TJxfd54e a).2.1 ≠ (TJxfd54e b).2.1 := by decide +kernel
theorem tyJxfd54e_ok : ∀ k, k < 0 → parseFieldDescriptor (TJxfd54e k).2.2.1 = some (tyJxfd54e k) := by decide +kernel
def RJx3cf43 : String := "java/lang/constant/ConstantDesc"
def TJx3cf43 : u_T := fun k => match k with
  | _ => ("", "", "", false)
def tyJx3cf43 : Nat → FieldType := fun k => match k with
  | _ => .int
abbrev wsJx3cf430 : List Cond := u_ws RJx3cf43 TJx3cf43 0
theorem nmJx3cf43 : ∀ a, a < 0 → ∀ b, b < 0 → a ≠ b → (TJx3cf43 a).2.1 ≠ (TJx3cf43 b).2.1 := by decide +kernel
theorem tyJx3cf43_ok : ∀ k, k < 0 → parseFieldDescriptor (TJx3cf43 k).2.2.1 = some (tyJx3cf43 k) := by decide +kernel
def RJ7 : String := "java/util/Arrays"
def TJ7 : u_T := fun k => match k with
  | _ => ("", "", "", false)
def tyJ7 : Nat → FieldType := fun k => match k with
  | _ => .int
abbrev wsJ70 : List Cond := u_ws RJ7 TJ7 0
theorem nmJ7 : ∀ a, a < 0 → ∀ b, b < 0 → a ≠ b → (TJ7 a).2.1 ≠ (TJ7 b).2.1 := by decide +kernel
theorem tyJ7_ok : ∀ k, k < 0 → parseFieldDescriptor (TJ7 k).2.2.1 = some (tyJ7 k) := by decide +kernel
abbrev cJ7_copyOf_9075b : ByteArray := prog_34_method_121_code
def yJ7_copyOf_9075b : MethodName := ⟨RJ7, "copyOf", "([BI)[B"⟩
abbrev cJ7_checkLength_df160 : ByteArray := prog_34_method_131_code
def yJ7_checkLength_df160 : MethodName := ⟨RJ7, "checkLength", "(II)V"⟩
abbrev cJ7_copyOfRange_39247 : ByteArray := prog_34_method_132_code
def yJ7_copyOfRange_39247 : MethodName := ⟨RJ7, "copyOfRange", "([BII)[B"⟩
abbrev cJ7_copyOfRangeByte_39247 : ByteArray := prog_34_method_133_code
def yJ7_copyOfRangeByte_39247 : MethodName := ⟨RJ7, "copyOfRangeByte", "([BII)[B"⟩
def RJ8 : String := "jdk/internal/util/ArraysSupport"
def TJ8 : u_T := fun k => match k with
  | _ => ("", "", "", false)
def tyJ8 : Nat → FieldType := fun k => match k with
  | _ => .int
abbrev wsJ80 : List Cond := u_ws RJ8 TJ8 0
theorem nmJ8 : ∀ a, a < 0 → ∀ b, b < 0 → a ≠ b → (TJ8 a).2.1 ≠ (TJ8 b).2.1 := by decide +kernel
theorem tyJ8_ok : ∀ k, k < 0 → parseFieldDescriptor (TJ8 k).2.2.1 = some (tyJ8 k) := by decide +kernel
abbrev cJ8_newLength_cabcc : ByteArray := prog_36_method_27_code
def yJ8_newLength_cabcc : MethodName := ⟨RJ8, "newLength", "(III)I"⟩
abbrev cJ8_hugeLength_7cf53 : ByteArray := prog_36_method_28_code
def yJ8_hugeLength_7cf53 : MethodName := ⟨RJ8, "hugeLength", "(II)I"⟩
def RJ3 : String := "jdk/internal/util/Preconditions"
def TJ3 : u_T := fun k => match k with
  | _ => ("", "", "", false)
def tyJ3 : Nat → FieldType := fun k => match k with
  | _ => .int
abbrev wsJ30 : List Cond := u_ws RJ3 TJ3 0
theorem nmJ3 : ∀ a, a < 0 → ∀ b, b < 0 → a ≠ b → (TJ3 a).2.1 ≠ (TJ3 b).2.1 := by decide +kernel
theorem tyJ3_ok : ∀ k, k < 0 → parseFieldDescriptor (TJ3 k).2.2.1 = some (tyJ3 k) := by decide +kernel
abbrev cJ3_checkIndex_8e157 : ByteArray := prog_37_method_11_code
def yJ3_checkIndex_8e157 : MethodName := ⟨RJ3, "checkIndex", "(IILjava/util/function/BiFunction;)I"⟩
abbrev cJ3_checkFromToIndex_8c36e : ByteArray := prog_37_method_12_code
def yJ3_checkFromToIndex_8c36e : MethodName := ⟨RJ3, "checkFromToIndex", "(IIILjava/util/function/BiFunction;)I"⟩
abbrev cJ3_checkFromIndexSize_8c36e : ByteArray := prog_37_method_13_code
def yJ3_checkFromIndexSize_8c36e : MethodName := ⟨RJ3, "checkFromIndexSize", "(IIILjava/util/function/BiFunction;)I"⟩
def RL : String := "VowelTorusLaw"
abbrev cL_at : ByteArray := method_2_code
def yL_at : MethodName := ⟨RL, "at", "([II)I"⟩
abbrev cL_put : ByteArray := method_3_code
def yL_put : MethodName := ⟨RL, "put", "(LVowelTorus;Ljava/lang/String;)V"⟩
abbrev cL_build : ByteArray := method_4_code
def yL_build : MethodName := ⟨RL, "build", "([I)LVowelTorus;"⟩
abbrev cL_act : ByteArray := method_5_code
def yL_act : MethodName := ⟨RL, "act", "(LVowelTorus;IIIC)I"⟩
abbrev cL_state : ByteArray := method_6_code
def yL_state : MethodName := ⟨RL, "state", "(LVowelTorus;)I"⟩
abbrev cL_law : ByteArray := code
def yL_law : MethodName := ⟨RL, "law", "([I)Z"⟩
abbrev cL_isLine : ByteArray := method_20_code
def yL_isLine : MethodName := ⟨RL, "isLine", "(LVowelTorus;ILjava/lang/String;)Z"⟩
abbrev cL_runs : ByteArray := method_21_code
def yL_runs : MethodName := ⟨RL, "runs", "(LVowelTorus;)I"⟩
abbrev cL_faults : ByteArray := method_22_code
def yL_faults : MethodName := ⟨RL, "faults", "(LVowelTorus;Ljava/lang/String;I)Z"⟩
