def zI (a : Int) : Int32 := Int32.ofInt a
def zL (a : Int) : Int64 := Int64.ofInt a
def RX0 : String := "SafeSenate$Doubt"
def TX0 : u_T := fun k => match k with
  | 0 => ("SafeSenate$Doubt", "count", "I", false)
  | 1 => ("SafeSenate$Doubt", "fits", "[I", true)
  | 2 => ("SafeSenate$Doubt", "goes", "[I", true)
  | _ => ("SafeSenate$Doubt", "spans", "LSafeSenate$Spans;", true)
def tyX0 : Nat → FieldType := fun k => match k with
  | 0 => .int
  | 1 => .array .int
  | 2 => .array .int
  | _ => .object "SafeSenate$Spans"
abbrev wsX00 : List Cond := u_ws RX0 TX0 4
theorem nmX0 : ∀ a, a < 4 → ∀ b, b < 4 → a ≠ b → (TX0 a).2.1 ≠ (TX0 b).2.1 := by decide +kernel
theorem tyX0_ok : ∀ k, k < 4 → parseFieldDescriptor (TX0 k).2.2.1 = some (tyX0 k) := by decide +kernel
abbrev cX0_init : ByteArray := prog_2_method_1_code
def yX0_init : MethodName := ⟨RX0, "<init>", "()V"⟩
abbrev cX0_weigh : ByteArray := prog_2_method_2_code
def yX0_weigh : MethodName := ⟨RX0, "weigh", "(LSafeSenate$Plan;)V"⟩
abbrev cX0_fitting : ByteArray := prog_2_method_3_code
def yX0_fitting : MethodName := ⟨RX0, "fitting", "(I)I"⟩
abbrev cX0_actToAsk : ByteArray := prog_2_method_4_code
def yX0_actToAsk : MethodName := ⟨RX0, "actToAsk", "(I)I"⟩
abbrev cX0_leftBy : ByteArray := prog_2_method_5_code
def yX0_leftBy : MethodName := ⟨RX0, "leftBy", "(I)I"⟩
def RX1 : String := "SafeSenate$Hanging"
def TX1 : u_T := fun k => match k with
  | 0 => ("SafeSenate$Hanging", "best", "I", false)
  | 1 => ("SafeSenate$Hanging", "bestAt", "[I", true)
  | 2 => ("SafeSenate$Hanging", "at", "[I", true)
  | 3 => ("SafeSenate$Hanging", "worth", "[I", true)
  | 4 => ("SafeSenate$Hanging", "chosen", "LSafeSenate$Spans;", true)
  | 5 => ("SafeSenate$Hanging", "senators", "I", false)
  | 6 => ("SafeSenate$Hanging", "hooks", "I", false)
  | 7 => ("SafeSenate$Hanging", "quorum", "I", false)
  | _ => ("SafeSenate$Hanging", "bound", "I", false)
def tyX1 : Nat → FieldType := fun k => match k with
  | 0 => .int
  | 1 => .array .int
  | 2 => .array .int
  | 3 => .array .int
  | 4 => .object "SafeSenate$Spans"
  | 5 => .int
  | 6 => .int
  | 7 => .int
  | _ => .int
abbrev wsX10 : List Cond := u_ws RX1 TX1 9
theorem nmX1 : ∀ a, a < 9 → ∀ b, b < 9 → a ≠ b → (TX1 a).2.1 ≠ (TX1 b).2.1 := by decide +kernel
theorem tyX1_ok : ∀ k, k < 9 → parseFieldDescriptor (TX1 k).2.2.1 = some (tyX1 k) := by decide +kernel
abbrev cX1_init : ByteArray := prog_3_method_1_code
def yX1_init : MethodName := ⟨RX1, "<init>", "()V"⟩
abbrev cX1_forMostGood : ByteArray := prog_3_method_2_code
def yX1_forMostGood : MethodName := ⟨RX1, "forMostGood", "(LSafeSenate$Plan;LSafeSenate$Moment;I)V"⟩
abbrev cX1_forLongest : ByteArray := prog_3_method_3_code
def yX1_forLongest : MethodName := ⟨RX1, "forLongest", "(LSafeSenate$Plan;LSafeSenate$Moment;)V"⟩
abbrev cX1_begin : ByteArray := prog_3_method_4_code
def yX1_begin : MethodName := ⟨RX1, "begin", "(LSafeSenate$Plan;I)V"⟩
abbrev cX1_setBound : ByteArray := prog_3_method_5_code
def yX1_setBound : MethodName := ⟨RX1, "setBound", "()V"⟩
abbrev cX1_place : ByteArray := prog_3_method_6_code
def yX1_place : MethodName := ⟨RX1, "place", "(II)V"⟩
abbrev cX1_valueOfChosen : ByteArray := prog_3_method_7_code
def yX1_valueOfChosen : MethodName := ⟨RX1, "valueOfChosen", "()I"⟩
abbrev cX1_keepIfBetter : ByteArray := prog_3_method_8_code
def yX1_keepIfBetter : MethodName := ⟨RX1, "keepIfBetter", "(I)V"⟩
def RX2 : String := "SafeSenate$Moment"
def TX2 : u_T := fun k => match k with
  | 0 => ("SafeSenate$Moment", "day", "I", false)
  | 1 => ("SafeSenate$Moment", "salt", "I", false)
  | 2 => ("SafeSenate$Moment", "seed", "I", false)
  | 3 => ("SafeSenate$Moment", "kind", "[I", true)
  | 4 => ("SafeSenate$Moment", "hookOf", "[I", true)
  | 5 => ("SafeSenate$Moment", "left", "[I", true)
  | _ => ("SafeSenate$Moment", "past", "[I", true)
def tyX2 : Nat → FieldType := fun k => match k with
  | 0 => .int
  | 1 => .int
  | 2 => .int
  | 3 => .array .int
  | 4 => .array .int
  | 5 => .array .int
  | _ => .array .int
abbrev wsX20 : List Cond := u_ws RX2 TX2 7
theorem nmX2 : ∀ a, a < 7 → ∀ b, b < 7 → a ≠ b → (TX2 a).2.1 ≠ (TX2 b).2.1 := by decide +kernel
theorem tyX2_ok : ∀ k, k < 7 → parseFieldDescriptor (TX2 k).2.2.1 = some (tyX2 k) := by decide +kernel
abbrev cX2_init : ByteArray := prog_4_method_1_code
def yX2_init : MethodName := ⟨RX2, "<init>", "()V"⟩
abbrev cX2_copyFrom : ByteArray := prog_4_method_2_code
def yX2_copyFrom : MethodName := ⟨RX2, "copyFrom", "(LSafeSenate$Moment;)V"⟩
abbrev cX2_goodBits : ByteArray := prog_4_method_3_code
def yX2_goodBits : MethodName := ⟨RX2, "goodBits", "(I)I"⟩
abbrev cX2_whoHangsAt : ByteArray := prog_4_method_4_code
def yX2_whoHangsAt : MethodName := ⟨RX2, "whoHangsAt", "(II)I"⟩
abbrev cX2_passDay : ByteArray := prog_4_method_5_code
def yX2_passDay : MethodName := ⟨RX2, "passDay", "(LSafeSenate$Plan;)V"⟩
def RX3 : String := "SafeSenate$Parser"
def TX3 : u_T := fun k => match k with
  | 0 => ("SafeSenate$Parser", "reader", "LSafeSenate$Reader;", true)
  | 1 => ("SafeSenate$Parser", "fault", "I", false)
  | 2 => ("SafeSenate$Parser", "place", "I", false)
  | 3 => ("SafeSenate$Parser", "plan", "LSafeSenate$Plan;", false)
  | 4 => ("SafeSenate$Parser", "safeTold", "Z", false)
  | 5 => ("SafeSenate$Parser", "heardWhole", "I", false)
  | 6 => ("SafeSenate$Parser", "hungBits", "I", false)
  | 7 => ("SafeSenate$Parser", "nameCount", "I", false)
  | 8 => ("SafeSenate$Parser", "names", "[J", true)
  | 9 => ("SafeSenate$Parser", "nameSorts", "[I", true)
  | _ => ("SafeSenate$Parser", "nameNumbers", "[I", true)
def tyX3 : Nat → FieldType := fun k => match k with
  | 0 => .object "SafeSenate$Reader"
  | 1 => .int
  | 2 => .int
  | 3 => .object "SafeSenate$Plan"
  | 4 => .boolean
  | 5 => .int
  | 6 => .int
  | 7 => .int
  | 8 => .array .long
  | 9 => .array .int
  | _ => .array .int
abbrev wsX30 : List Cond := u_ws RX3 TX3 11
theorem nmX3 : ∀ a, a < 11 → ∀ b, b < 11 → a ≠ b → (TX3 a).2.1 ≠ (TX3 b).2.1 := by decide +kernel
theorem tyX3_ok : ∀ k, k < 11 → parseFieldDescriptor (TX3 k).2.2.1 = some (tyX3 k) := by decide +kernel
abbrev cX3_init : ByteArray := prog_5_method_1_code
def yX3_init : MethodName := ⟨RX3, "<init>", "()V"⟩
abbrev cX3_exchange : ByteArray := prog_5_method_2_code
def yX3_exchange : MethodName := ⟨RX3, "exchange", "(LSafeSenate$Plan;)LSafeSenate$Plan;"⟩
abbrev cX3_hear : ByteArray := prog_5_method_3_code
def yX3_hear : MethodName := ⟨RX3, "hear", "(I)Z"⟩
abbrev cX3_hearLine : ByteArray := prog_5_method_4_code
def yX3_hearLine : MethodName := ⟨RX3, "hearLine", "()Z"⟩
abbrev cX3_hearSafe : ByteArray := prog_5_method_5_code
def yX3_hearSafe : MethodName := ⟨RX3, "hearSafe", "()Z"⟩
abbrev cX3_hearHook : ByteArray := prog_5_method_6_code
def yX3_hearHook : MethodName := ⟨RX3, "hearHook", "()Z"⟩
abbrev cX3_hearSenator : ByteArray := prog_5_method_7_code
def yX3_hearSenator : MethodName := ⟨RX3, "hearSenator", "()Z"⟩
abbrev cX3_hearKind : ByteArray := prog_5_method_8_code
def yX3_hearKind : MethodName := ⟨RX3, "hearKind", "(I)Z"⟩
abbrev cX3_hearFreeHook : ByteArray := prog_5_method_9_code
def yX3_hearFreeHook : MethodName := ⟨RX3, "hearFreeHook", "(I)Z"⟩
abbrev cX3_hearAct : ByteArray := prog_5_method_10_code
def yX3_hearAct : MethodName := ⟨RX3, "hearAct", "()Z"⟩
abbrev cX3_hearFor : ByteArray := prog_5_method_11_code
def yX3_hearFor : MethodName := ⟨RX3, "hearFor", "()Z"⟩
abbrev cX3_hearRests : ByteArray := prog_5_method_12_code
def yX3_hearRests : MethodName := ⟨RX3, "hearRests", "()Z"⟩
abbrev cX3_hearDoubted : ByteArray := prog_5_method_13_code
def yX3_hearDoubted : MethodName := ⟨RX3, "hearDoubted", "()Z"⟩
abbrev cX3_hearOutcome : ByteArray := prog_5_method_14_code
def yX3_hearOutcome : MethodName := ⟨RX3, "hearOutcome", "(Z)Z"⟩
abbrev cX3_hearWord : ByteArray := prog_5_method_15_code
def yX3_hearWord : MethodName := ⟨RX3, "hearWord", "(I)Z"⟩
abbrev cX3_hearNumber : ByteArray := prog_5_method_16_code
def yX3_hearNumber : MethodName := ⟨RX3, "hearNumber", "(III)Z"⟩
abbrev cX3_isName : ByteArray := prog_5_method_17_code
def yX3_isName : MethodName := ⟨RX3, "isName", "()Z"⟩
abbrev cX3_hearNewName : ByteArray := prog_5_method_18_code
def yX3_hearNewName : MethodName := ⟨RX3, "hearNewName", "(II)Z"⟩
abbrev cX3_toldNumber : ByteArray := prog_5_method_19_code
def yX3_toldNumber : MethodName := ⟨RX3, "toldNumber", "(I)I"⟩
abbrev cX3_nameIndex : ByteArray := prog_5_method_20_code
def yX3_nameIndex : MethodName := ⟨RX3, "nameIndex", "()I"⟩
abbrev cX3_fail : ByteArray := prog_5_method_21_code
def yX3_fail : MethodName := ⟨RX3, "fail", "(I)Z"⟩
def RX4 : String := "SafeSenate$Plan"
def TX4 : u_T := fun k => match k with
  | 0 => ("SafeSenate$Plan", "quorum", "I", false)
  | 1 => ("SafeSenate$Plan", "heat", "I", false)
  | 2 => ("SafeSenate$Plan", "thunder", "I", false)
  | 3 => ("SafeSenate$Plan", "hookCount", "I", false)
  | 4 => ("SafeSenate$Plan", "air", "[I", true)
  | 5 => ("SafeSenate$Plan", "senatorCount", "I", false)
  | 6 => ("SafeSenate$Plan", "votes", "[I", true)
  | 7 => ("SafeSenate$Plan", "actCount", "I", false)
  | 8 => ("SafeSenate$Plan", "actDay", "[I", true)
  | 9 => ("SafeSenate$Plan", "actFor", "[I", true)
  | 10 => ("SafeSenate$Plan", "actRests", "[I", true)
  | 11 => ("SafeSenate$Plan", "forCount", "I", false)
  | 12 => ("SafeSenate$Plan", "restsCount", "I", false)
  | 13 => ("SafeSenate$Plan", "doubted", "I", false)
  | 14 => ("SafeSenate$Plan", "went", "I", false)
  | 15 => ("SafeSenate$Plan", "fell", "I", false)
  | _ => ("SafeSenate$Plan", "first", "LSafeSenate$Moment;", true)
def tyX4 : Nat → FieldType := fun k => match k with
  | 0 => .int
  | 1 => .int
  | 2 => .int
  | 3 => .int
  | 4 => .array .int
  | 5 => .int
  | 6 => .array .int
  | 7 => .int
  | 8 => .array .int
  | 9 => .array .int
  | 10 => .array .int
  | 11 => .int
  | 12 => .int
  | 13 => .int
  | 14 => .int
  | 15 => .int
  | _ => .object "SafeSenate$Moment"
abbrev wsX40 : List Cond := u_ws RX4 TX4 17
theorem nmX4 : ∀ a, a < 17 → ∀ b, b < 17 → a ≠ b → (TX4 a).2.1 ≠ (TX4 b).2.1 := by decide +kernel
theorem tyX4_ok : ∀ k, k < 17 → parseFieldDescriptor (TX4 k).2.2.1 = some (tyX4 k) := by decide +kernel
abbrev cX4_init : ByteArray := prog_6_method_1_code
def yX4_init : MethodName := ⟨RX4, "<init>", "()V"⟩
abbrev cX4_clear : ByteArray := prog_6_method_2_code
def yX4_clear : MethodName := ⟨RX4, "clear", "()V"⟩
abbrev cX4_actsOf : ByteArray := prog_6_method_3_code
def yX4_actsOf : MethodName := ⟨RX4, "actsOf", "(I)I"⟩
abbrev cX4_airAt : ByteArray := prog_6_method_4_code
def yX4_airAt : MethodName := ⟨RX4, "airAt", "(I)I"⟩
abbrev cX4_lossOver : ByteArray := prog_6_method_5_code
def yX4_lossOver : MethodName := ⟨RX4, "lossOver", "(IIII)I"⟩
abbrev cX4_lossBehind : ByteArray := prog_6_method_6_code
def yX4_lossBehind : MethodName := ⟨RX4, "lossBehind", "(LSafeSenate$Moment;II)I"⟩
abbrev cX4_goodDays : ByteArray := prog_6_method_7_code
def yX4_goodDays : MethodName := ⟨RX4, "goodDays", "(LSafeSenate$Moment;III)I"⟩
abbrev cX4_goodAfter : ByteArray := prog_6_method_8_code
def yX4_goodAfter : MethodName := ⟨RX4, "goodAfter", "(LSafeSenate$Moment;II)I"⟩
abbrev cX4_chancesOf : ByteArray := prog_6_method_9_code
def yX4_chancesOf : MethodName := ⟨RX4, "chancesOf", "(II)J"⟩
abbrev cX4_seedBehind : ByteArray := prog_6_method_10_code
def yX4_seedBehind : MethodName := ⟨RX4, "seedBehind", "(I)I"⟩
abbrev cX4_isThunder : ByteArray := prog_6_method_11_code
def yX4_isThunder : MethodName := ⟨RX4, "isThunder", "(I)Z"⟩
abbrev cX4_thundersDrawn : ByteArray := prog_6_method_12_code
def yX4_thundersDrawn : MethodName := ⟨RX4, "thundersDrawn", "(II)I"⟩
abbrev cX4_votesOf : ByteArray := prog_6_method_13_code
def yX4_votesOf : MethodName := ⟨RX4, "votesOf", "(I)I"⟩
abbrev cX4_leadOf : ByteArray := prog_6_method_14_code
def yX4_leadOf : MethodName := ⟨RX4, "leadOf", "(II)I"⟩
abbrev cX4_goingAlone : ByteArray := prog_6_method_15_code
def yX4_goingAlone : MethodName := ⟨RX4, "goingAlone", "(LSafeSenate$Moment;LSafeSenate$Spans;)I"⟩
abbrev cX4_goingAmong : ByteArray := prog_6_method_16_code
def yX4_goingAmong : MethodName := ⟨RX4, "goingAmong", "(I)I"⟩
abbrev cX4_restsOn : ByteArray := prog_6_method_17_code
def yX4_restsOn : MethodName := ⟨RX4, "restsOn", "(II)I"⟩
abbrev cX4_fallingWith : ByteArray := prog_6_method_18_code
def yX4_fallingWith : MethodName := ⟨RX4, "fallingWith", "(I)I"⟩
abbrev cX4_swingsOf : ByteArray := prog_6_method_19_code
def yX4_swingsOf : MethodName := ⟨RX4, "swingsOf", "(II)I"⟩
def RX5 : String := "SafeSenate$Reader"
def TX5 : u_T := fun k => match k with
  | 0 => ("SafeSenate$Reader", "length", "I", false)
  | 1 => ("SafeSenate$Reader", "sort", "I", false)
  | 2 => ("SafeSenate$Reader", "start", "I", false)
  | 3 => ("SafeSenate$Reader", "keyword", "I", false)
  | 4 => ("SafeSenate$Reader", "value", "J", false)
  | 5 => ("SafeSenate$Reader", "bytes", "[B", true)
  | 6 => ("SafeSenate$Reader", "sorts", "[I", true)
  | 7 => ("SafeSenate$Reader", "starts", "[I", true)
  | 8 => ("SafeSenate$Reader", "keywords", "[I", true)
  | 9 => ("SafeSenate$Reader", "values", "[J", true)
  | 10 => ("SafeSenate$Reader", "keyLetters", "[J", true)
  | 11 => ("SafeSenate$Reader", "next", "I", false)
  | 12 => ("SafeSenate$Reader", "end", "I", false)
  | _ => ("SafeSenate$Reader", "at", "I", false)
def tyX5 : Nat → FieldType := fun k => match k with
  | 0 => .int
  | 1 => .int
  | 2 => .int
  | 3 => .int
  | 4 => .long
  | 5 => .array .byte
  | 6 => .array .int
  | 7 => .array .int
  | 8 => .array .int
  | 9 => .array .long
  | 10 => .array .long
  | 11 => .int
  | 12 => .int
  | _ => .int
abbrev wsX50 : List Cond := u_ws RX5 TX5 14
theorem nmX5 : ∀ a, a < 14 → ∀ b, b < 14 → a ≠ b → (TX5 a).2.1 ≠ (TX5 b).2.1 := by decide +kernel
theorem tyX5_ok : ∀ k, k < 14 → parseFieldDescriptor (TX5 k).2.2.1 = some (tyX5 k) := by decide +kernel
abbrev cX5_init : ByteArray := prog_7_method_1_code
def yX5_init : MethodName := ⟨RX5, "<init>", "()V"⟩
abbrev cX5_put : ByteArray := prog_7_method_2_code
def yX5_put : MethodName := ⟨RX5, "put", "(I)V"⟩
abbrev cX5_split : ByteArray := prog_7_method_3_code
def yX5_split : MethodName := ⟨RX5, "split", "(I)V"⟩
abbrev cX5_advance : ByteArray := prog_7_method_4_code
def yX5_advance : MethodName := ⟨RX5, "advance", "()V"⟩
abbrev cX5_readToken : ByteArray := prog_7_method_5_code
def yX5_readToken : MethodName := ⟨RX5, "readToken", "(I)I"⟩
abbrev cX5_readWord : ByteArray := prog_7_method_6_code
def yX5_readWord : MethodName := ⟨RX5, "readWord", "(I)I"⟩
abbrev cX5_readWhole : ByteArray := prog_7_method_7_code
def yX5_readWhole : MethodName := ⟨RX5, "readWhole", "(I)I"⟩
abbrev cX5_withLetter : ByteArray := prog_7_method_8_code
def yX5_withLetter : MethodName := ⟨RX5, "withLetter", "(JI)J"⟩
abbrev cX5_keyOf : ByteArray := prog_7_method_9_code
def yX5_keyOf : MethodName := ⟨RX5, "keyOf", "(J)I"⟩
abbrev cX5_isLetter : ByteArray := prog_7_method_10_code
def yX5_isLetter : MethodName := ⟨RX5, "isLetter", "(I)Z"⟩
abbrev cX5_isDigit : ByteArray := prog_7_method_11_code
def yX5_isDigit : MethodName := ⟨RX5, "isDigit", "(I)Z"⟩
def RX6 : String := "SafeSenate$Spans"
def TX6 : u_T := fun k => match k with
  | _ => ("SafeSenate$Spans", "days", "[I", true)
def tyX6 : Nat → FieldType := fun k => match k with
  | _ => .array .int
abbrev wsX60 : List Cond := u_ws RX6 TX6 1
theorem nmX6 : ∀ a, a < 1 → ∀ b, b < 1 → a ≠ b → (TX6 a).2.1 ≠ (TX6 b).2.1 := by decide +kernel
theorem tyX6_ok : ∀ k, k < 1 → parseFieldDescriptor (TX6 k).2.2.1 = some (tyX6 k) := by decide +kernel
abbrev cX6_init : ByteArray := prog_8_method_1_code
def yX6_init : MethodName := ⟨RX6, "<init>", "()V"⟩
abbrev cX6_fill : ByteArray := prog_8_method_2_code
def yX6_fill : MethodName := ⟨RX6, "fill", "(LSafeSenate$Plan;LSafeSenate$Moment;)V"⟩
abbrev cX6_goodAfter : ByteArray := prog_8_method_3_code
def yX6_goodAfter : MethodName := ⟨RX6, "goodAfter", "(II)I"⟩
abbrev cX6_sum : ByteArray := prog_8_method_4_code
def yX6_sum : MethodName := ⟨RX6, "sum", "(I)I"⟩
abbrev cX6_quorumDays : ByteArray := prog_8_method_5_code
def yX6_quorumDays : MethodName := ⟨RX6, "quorumDays", "(II)I"⟩
def RX7 : String := "SafeSenate$Undoing"
def TX7 : u_T := fun k => match k with
  | 0 => ("SafeSenate$Undoing", "count", "I", false)
  | 1 => ("SafeSenate$Undoing", "next", "I", false)
  | _ => ("SafeSenate$Undoing", "moments", "[LSafeSenate$Moment;", true)
def tyX7 : Nat → FieldType := fun k => match k with
  | 0 => .int
  | 1 => .int
  | _ => .array (.object "SafeSenate$Moment")
abbrev wsX70 : List Cond := u_ws RX7 TX7 3
theorem nmX7 : ∀ a, a < 3 → ∀ b, b < 3 → a ≠ b → (TX7 a).2.1 ≠ (TX7 b).2.1 := by decide +kernel
theorem tyX7_ok : ∀ k, k < 3 → parseFieldDescriptor (TX7 k).2.2.1 = some (tyX7 k) := by decide +kernel
abbrev cX7_init : ByteArray := prog_9_method_1_code
def yX7_init : MethodName := ⟨RX7, "<init>", "()V"⟩
abbrev cX7_clear : ByteArray := prog_9_method_2_code
def yX7_clear : MethodName := ⟨RX7, "clear", "()V"⟩
abbrev cX7_keep : ByteArray := prog_9_method_3_code
def yX7_keep : MethodName := ⟨RX7, "keep", "(LSafeSenate$Moment;)V"⟩
abbrev cX7_restore : ByteArray := prog_9_method_4_code
def yX7_restore : MethodName := ⟨RX7, "restore", "(LSafeSenate$Moment;)V"⟩
def RX8 : String := "SafeSenate"
def TX8 : u_T := fun k => match k with
  | 0 => ("SafeSenate", "parser", "LSafeSenate$Parser;", true)
  | 1 => ("SafeSenate", "plan", "LSafeSenate$Plan;", false)
  | 2 => ("SafeSenate", "now", "LSafeSenate$Moment;", true)
  | 3 => ("SafeSenate", "undoing", "LSafeSenate$Undoing;", true)
  | 4 => ("SafeSenate", "images", "[LSafeSenate$Moment;", true)
  | 5 => ("SafeSenate", "imageCount", "I", false)
  | 6 => ("SafeSenate", "latestTrouble", "I", false)
  | 7 => ("SafeSenate", "latestFault", "I", false)
  | 8 => ("SafeSenate", "faultPlace", "I", false)
  | 9 => ("SafeSenate", "spans", "LSafeSenate$Spans;", true)
  | 10 => ("SafeSenate", "hanging", "LSafeSenate$Hanging;", true)
  | _ => ("SafeSenate", "doubt", "LSafeSenate$Doubt;", true)
def tyX8 : Nat → FieldType := fun k => match k with
  | 0 => .object "SafeSenate$Parser"
  | 1 => .object "SafeSenate$Plan"
  | 2 => .object "SafeSenate$Moment"
  | 3 => .object "SafeSenate$Undoing"
  | 4 => .array (.object "SafeSenate$Moment")
  | 5 => .int
  | 6 => .int
  | 7 => .int
  | 8 => .int
  | 9 => .object "SafeSenate$Spans"
  | 10 => .object "SafeSenate$Hanging"
  | _ => .object "SafeSenate$Doubt"
abbrev wsX80 : List Cond := u_ws RX8 TX8 12
theorem nmX8 : ∀ a, a < 12 → ∀ b, b < 12 → a ≠ b → (TX8 a).2.1 ≠ (TX8 b).2.1 := by decide +kernel
theorem tyX8_ok : ∀ k, k < 12 → parseFieldDescriptor (TX8 k).2.2.1 = some (tyX8 k) := by decide +kernel
abbrev cX8_init : ByteArray := prog_1_method_1_code
def yX8_init : MethodName := ⟨RX8, "<init>", "()V"⟩
abbrev cX8_feed : ByteArray := prog_1_method_2_code
def yX8_feed : MethodName := ⟨RX8, "feed", "(IIIII)I"⟩
abbrev cX8_safe : ByteArray := prog_1_method_3_code
def yX8_safe : MethodName := ⟨RX8, "safe", "(I)I"⟩
abbrev cX8_fault : ByteArray := prog_1_method_4_code
def yX8_fault : MethodName := ⟨RX8, "fault", "()I"⟩
abbrev cX8_where : ByteArray := prog_1_method_5_code
def yX8_where : MethodName := ⟨RX8, "where", "()I"⟩
abbrev cX8_senator : ByteArray := prog_1_method_6_code
def yX8_senator : MethodName := ⟨RX8, "senator", "(II)I"⟩
abbrev cX8_hook : ByteArray := prog_1_method_7_code
def yX8_hook : MethodName := ⟨RX8, "hook", "(II)I"⟩
abbrev cX8_act : ByteArray := prog_1_method_8_code
def yX8_act : MethodName := ⟨RX8, "act", "(II)I"⟩
abbrev cX8_good : ByteArray := prog_1_method_9_code
def yX8_good : MethodName := ⟨RX8, "good", "()I"⟩
abbrev cX8_quorum : ByteArray := prog_1_method_10_code
def yX8_quorum : MethodName := ⟨RX8, "quorum", "()I"⟩
abbrev cX8_goodIn : ByteArray := prog_1_method_11_code
def yX8_goodIn : MethodName := ⟨RX8, "goodIn", "(II)I"⟩
abbrev cX8_offIn : ByteArray := prog_1_method_12_code
def yX8_offIn : MethodName := ⟨RX8, "offIn", "(I)I"⟩
abbrev cX8_lasts : ByteArray := prog_1_method_13_code
def yX8_lasts : MethodName := ⟨RX8, "lasts", "()I"⟩
abbrev cX8_going : ByteArray := prog_1_method_14_code
def yX8_going : MethodName := ⟨RX8, "going", "()I"⟩
abbrev cX8_nextAct : ByteArray := prog_1_method_15_code
def yX8_nextAct : MethodName := ⟨RX8, "nextAct", "()I"⟩
abbrev cX8_margin : ByteArray := prog_1_method_16_code
def yX8_margin : MethodName := ⟨RX8, "margin", "(I)I"⟩
abbrev cX8_hang : ByteArray := prog_1_method_17_code
def yX8_hang : MethodName := ⟨RX8, "hang", "(I)I"⟩
abbrev cX8_hangAt : ByteArray := prog_1_method_18_code
def yX8_hangAt : MethodName := ⟨RX8, "hangAt", "(II)I"⟩
abbrev cX8_longest : ByteArray := prog_1_method_19_code
def yX8_longest : MethodName := ⟨RX8, "longest", "()I"⟩
abbrev cX8_longestAt : ByteArray := prog_1_method_20_code
def yX8_longestAt : MethodName := ⟨RX8, "longestAt", "(I)I"⟩
abbrev cX8_bestSwap : ByteArray := prog_1_method_21_code
def yX8_bestSwap : MethodName := ⟨RX8, "bestSwap", "()I"⟩
abbrev cX8_toSalt : ByteArray := prog_1_method_22_code
def yX8_toSalt : MethodName := ⟨RX8, "toSalt", "()I"⟩
abbrev cX8_keyMan : ByteArray := prog_1_method_23_code
def yX8_keyMan : MethodName := ⟨RX8, "keyMan", "()I"⟩
abbrev cX8_since : ByteArray := prog_1_method_24_code
def yX8_since : MethodName := ⟨RX8, "since", "()I"⟩
abbrev cX8_sinceAt : ByteArray := prog_1_method_25_code
def yX8_sinceAt : MethodName := ⟨RX8, "sinceAt", "(I)I"⟩
abbrev cX8_look : ByteArray := prog_1_method_26_code
def yX8_look : MethodName := ⟨RX8, "look", "()I"⟩
abbrev cX8_lookLeaves : ByteArray := prog_1_method_27_code
def yX8_lookLeaves : MethodName := ⟨RX8, "lookLeaves", "()I"⟩
abbrev cX8_judge : ByteArray := prog_1_method_28_code
def yX8_judge : MethodName := ⟨RX8, "judge", "()I"⟩
abbrev cX8_fallsWith : ByteArray := prog_1_method_29_code
def yX8_fallsWith : MethodName := ⟨RX8, "fallsWith", "(I)I"⟩
abbrev cX8_strike : ByteArray := prog_1_method_30_code
def yX8_strike : MethodName := ⟨RX8, "strike", "(I)I"⟩
abbrev cX8_keystone : ByteArray := prog_1_method_31_code
def yX8_keystone : MethodName := ⟨RX8, "keystone", "()I"⟩
abbrev cX8_ring : ByteArray := prog_1_method_32_code
def yX8_ring : MethodName := ⟨RX8, "ring", "()I"⟩
abbrev cX8_power : ByteArray := prog_1_method_33_code
def yX8_power : MethodName := ⟨RX8, "power", "(IZ)J"⟩
abbrev cX8_strongest : ByteArray := prog_1_method_34_code
def yX8_strongest : MethodName := ⟨RX8, "strongest", "()I"⟩
abbrev cX8_wire : ByteArray := prog_1_method_35_code
def yX8_wire : MethodName := ⟨RX8, "wire", "(IZZZ)I"⟩
abbrev cX8_rests : ByteArray := prog_1_method_36_code
def yX8_rests : MethodName := ⟨RX8, "rests", "(I)I"⟩
abbrev cX8_rest : ByteArray := prog_1_method_37_code
def yX8_rest : MethodName := ⟨RX8, "rest", "(I)I"⟩
abbrev cX8_odds : ByteArray := prog_1_method_38_code
def yX8_odds : MethodName := ⟨RX8, "odds", "(IZ)J"⟩
abbrev cX8_goodOdds : ByteArray := prog_1_method_39_code
def yX8_goodOdds : MethodName := ⟨RX8, "goodOdds", "(IIZ)J"⟩
abbrev cX8_mean : ByteArray := prog_1_method_40_code
def yX8_mean : MethodName := ⟨RX8, "mean", "(IZ)J"⟩
abbrev cX8_days : ByteArray := prog_1_method_41_code
def yX8_days : MethodName := ⟨RX8, "days", "(II)I"⟩
abbrev cX8_thunders : ByteArray := prog_1_method_42_code
def yX8_thunders : MethodName := ⟨RX8, "thunders", "(II)I"⟩
abbrev cX8_day : ByteArray := prog_1_method_43_code
def yX8_day : MethodName := ⟨RX8, "day", "()I"⟩
abbrev cX8_move : ByteArray := prog_1_method_44_code
def yX8_move : MethodName := ⟨RX8, "move", "(II)I"⟩
abbrev cX8_salt : ByteArray := prog_1_method_45_code
def yX8_salt : MethodName := ⟨RX8, "salt", "(I)Z"⟩
abbrev cX8_seed : ByteArray := prog_1_method_46_code
def yX8_seed : MethodName := ⟨RX8, "seed", "(I)Z"⟩
abbrev cX8_undo : ByteArray := prog_1_method_47_code
def yX8_undo : MethodName := ⟨RX8, "undo", "()Z"⟩
abbrev cX8_image : ByteArray := prog_1_method_48_code
def yX8_image : MethodName := ⟨RX8, "image", "()I"⟩
abbrev cX8_back : ByteArray := prog_1_method_49_code
def yX8_back : MethodName := ⟨RX8, "back", "(I)Z"⟩
abbrev cX8_led : ByteArray := prog_1_method_50_code
def yX8_led : MethodName := ⟨RX8, "led", "(I)I"⟩
abbrev cX8_size : ByteArray := prog_1_method_51_code
def yX8_size : MethodName := ⟨RX8, "size", "(I)I"⟩
abbrev cX8_trouble : ByteArray := prog_1_method_52_code
def yX8_trouble : MethodName := ⟨RX8, "trouble", "()I"⟩
abbrev cX8_sizeBehind : ByteArray := prog_1_method_53_code
def yX8_sizeBehind : MethodName := ⟨RX8, "sizeBehind", "(I)I"⟩
abbrev cX8_refuse : ByteArray := prog_1_method_54_code
def yX8_refuse : MethodName := ⟨RX8, "refuse", "(I)I"⟩
abbrev cX8_grant : ByteArray := prog_1_method_55_code
def yX8_grant : MethodName := ⟨RX8, "grant", "(I)I"⟩
abbrev cX8_deny : ByteArray := prog_1_method_56_code
def yX8_deny : MethodName := ⟨RX8, "deny", "(I)Z"⟩
abbrev cX8_allow : ByteArray := prog_1_method_57_code
def yX8_allow : MethodName := ⟨RX8, "allow", "()Z"⟩
abbrev cX8_lacksSafe : ByteArray := prog_1_method_58_code
def yX8_lacksSafe : MethodName := ⟨RX8, "lacksSafe", "()Z"⟩
abbrev cX8_lacksSenator : ByteArray := prog_1_method_59_code
def yX8_lacksSenator : MethodName := ⟨RX8, "lacksSenator", "(I)Z"⟩
abbrev cX8_lacksAct : ByteArray := prog_1_method_60_code
def yX8_lacksAct : MethodName := ⟨RX8, "lacksAct", "(I)Z"⟩
abbrev cX8_lacksDoubt : ByteArray := prog_1_method_61_code
def yX8_lacksDoubt : MethodName := ⟨RX8, "lacksDoubt", "()Z"⟩
abbrev cX8_whyNoDoubt : ByteArray := prog_1_method_62_code
def yX8_whyNoDoubt : MethodName := ⟨RX8, "whyNoDoubt", "()I"⟩
abbrev cX8_outside : ByteArray := prog_1_method_63_code
def yX8_outside : MethodName := ⟨RX8, "outside", "(II)Z"⟩
abbrev cX8_goodNow : ByteArray := prog_1_method_64_code
def yX8_goodNow : MethodName := ⟨RX8, "goodNow", "()I"⟩
abbrev cX8_goingNow : ByteArray := prog_1_method_65_code
def yX8_goingNow : MethodName := ⟨RX8, "goingNow", "()I"⟩
abbrev cX8_lastsNow : ByteArray := prog_1_method_66_code
def yX8_lastsNow : MethodName := ⟨RX8, "lastsNow", "()I"⟩
abbrev cX8_lastsSwapped : ByteArray := prog_1_method_67_code
def yX8_lastsSwapped : MethodName := ⟨RX8, "lastsSwapped", "(II)I"⟩
abbrev cX8_lastsSalted : ByteArray := prog_1_method_68_code
def yX8_lastsSalted : MethodName := ⟨RX8, "lastsSalted", "(I)I"⟩
abbrev cX8_fewestStruck : ByteArray := prog_1_method_69_code
def yX8_fewestStruck : MethodName := ⟨RX8, "fewestStruck", "(II)I"⟩
abbrev cX8_share : ByteArray := prog_1_method_70_code
def yX8_share : MethodName := ⟨RX8, "share", "(IZZ)I"⟩
abbrev cX8_isRest : ByteArray := prog_1_method_71_code
def yX8_isRest : MethodName := ⟨RX8, "isRest", "(II)Z"⟩
abbrev cX8_powerOf : ByteArray := prog_1_method_72_code
def yX8_powerOf : MethodName := ⟨RX8, "powerOf", "(II)J"⟩
abbrev cX8_reduced : ByteArray := prog_1_method_73_code
def yX8_reduced : MethodName := ⟨RX8, "reduced", "(JJZ)J"⟩
abbrev cX8_commonDivisor : ByteArray := prog_1_method_74_code
def yX8_commonDivisor : MethodName := ⟨RX8, "commonDivisor", "(JJ)J"⟩
def RX9 : String := "SafeSenateModel$Safe"
def TX9 : u_T := fun k => match k with
  | 0 => ("SafeSenateModel$Safe", "quorum", "I", false)
  | 1 => ("SafeSenateModel$Safe", "heat", "I", false)
  | 2 => ("SafeSenateModel$Safe", "thunder", "I", false)
  | 3 => ("SafeSenateModel$Safe", "salt", "I", false)
  | 4 => ("SafeSenateModel$Safe", "hooks", "I", false)
  | 5 => ("SafeSenateModel$Safe", "senators", "I", false)
  | 6 => ("SafeSenateModel$Safe", "acts", "I", false)
  | 7 => ("SafeSenateModel$Safe", "fors", "I", false)
  | 8 => ("SafeSenateModel$Safe", "rests", "I", false)
  | 9 => ("SafeSenateModel$Safe", "doubted", "I", false)
  | 10 => ("SafeSenateModel$Safe", "ends", "I", false)
  | 11 => ("SafeSenateModel$Safe", "names", "I", false)
  | 12 => ("SafeSenateModel$Safe", "air", "[I", true)
  | 13 => ("SafeSenateModel$Safe", "kind", "[I", true)
  | 14 => ("SafeSenateModel$Safe", "hook", "[I", true)
  | 15 => ("SafeSenateModel$Safe", "good", "[I", true)
  | 16 => ("SafeSenateModel$Safe", "votes", "[I", true)
  | 17 => ("SafeSenateModel$Safe", "day", "[I", true)
  | 18 => ("SafeSenateModel$Safe", "infavour", "[I", true)
  | 19 => ("SafeSenateModel$Safe", "restsOn", "[I", true)
  | 20 => ("SafeSenateModel$Safe", "end", "[I", true)
  | 21 => ("SafeSenateModel$Safe", "name", "[J", true)
  | 22 => ("SafeSenateModel$Safe", "nameSort", "[I", true)
  | _ => ("SafeSenateModel$Safe", "numberOf", "[I", true)
def tyX9 : Nat → FieldType := fun k => match k with
  | 0 => .int
  | 1 => .int
  | 2 => .int
  | 3 => .int
  | 4 => .int
  | 5 => .int
  | 6 => .int
  | 7 => .int
  | 8 => .int
  | 9 => .int
  | 10 => .int
  | 11 => .int
  | 12 => .array .int
  | 13 => .array .int
  | 14 => .array .int
  | 15 => .array .int
  | 16 => .array .int
  | 17 => .array .int
  | 18 => .array .int
  | 19 => .array .int
  | 20 => .array .int
  | 21 => .array .long
  | 22 => .array .int
  | _ => .array .int
abbrev wsX90 : List Cond := u_ws RX9 TX9 24
theorem nmX9 : ∀ a, a < 24 → ∀ b, b < 24 → a ≠ b → (TX9 a).2.1 ≠ (TX9 b).2.1 := by decide +kernel
theorem tyX9_ok : ∀ k, k < 24 → parseFieldDescriptor (TX9 k).2.2.1 = some (tyX9 k) := by decide +kernel
abbrev cX9_init : ByteArray := prog_12_method_1_code
def yX9_init : MethodName := ⟨RX9, "<init>", "()V"⟩
abbrev cX9_find : ByteArray := prog_12_method_2_code
def yX9_find : MethodName := ⟨RX9, "find", "(J)I"⟩
abbrev cX9_isHung : ByteArray := prog_12_method_3_code
def yX9_isHung : MethodName := ⟨RX9, "isHung", "(I)Z"⟩
def RX10 : String := "SafeSenateModel"
def TX10 : u_T := fun k => match k with
  | 0 => ("SafeSenateModel", "thrown", "I", false)
  | 1 => ("SafeSenateModel", "trouble", "I", false)
  | 2 => ("SafeSenateModel", "where", "I", false)
  | 3 => ("SafeSenateModel", "safe", "LSafeSenateModel$Safe;", false)
  | 4 => ("SafeSenateModel", "read", "LSafeSenateModel$Safe;", false)
  | 5 => ("SafeSenateModel", "tape", "[B", true)
  | 6 => ("SafeSenateModel", "taped", "I", false)
  | 7 => ("SafeSenateModel", "size", "I", false)
  | 8 => ("SafeSenateModel", "spot", "I", false)
  | 9 => ("SafeSenateModel", "sort", "I", false)
  | 10 => ("SafeSenateModel", "place", "I", false)
  | 11 => ("SafeSenateModel", "number", "I", false)
  | 12 => ("SafeSenateModel", "fault", "I", false)
  | 13 => ("SafeSenateModel", "wrongAt", "I", false)
  | 14 => ("SafeSenateModel", "word", "J", false)
  | 15 => ("SafeSenateModel", "v", "[I", true)
  | 16 => ("SafeSenateModel", "x", "[I", true)
  | 17 => ("SafeSenateModel", "past", "[I", true)
  | 18 => ("SafeSenateModel", "kept", "[I", true)
  | 19 => ("SafeSenateModel", "acts", "I", false)
  | 20 => ("SafeSenateModel", "images", "I", false)
  | 21 => ("SafeSenateModel", "bestHooks", "[I", true)
  | 22 => ("SafeSenateModel", "sinceNow", "I", false)
  | 23 => ("SafeSenateModel", "wentBy", "[I", true)
  | 24 => ("SafeSenateModel", "lookLeft", "I", false)
  | 25 => ("SafeSenateModel", "goodOdds", "[J", true)
  | 26 => ("SafeSenateModel", "whole", "J", false)
  | 27 => ("SafeSenateModel", "quorumOdds", "J", false)
  | _ => ("SafeSenateModel", "goodSum", "J", false)
def tyX10 : Nat → FieldType := fun k => match k with
  | 0 => .int
  | 1 => .int
  | 2 => .int
  | 3 => .object "SafeSenateModel$Safe"
  | 4 => .object "SafeSenateModel$Safe"
  | 5 => .array .byte
  | 6 => .int
  | 7 => .int
  | 8 => .int
  | 9 => .int
  | 10 => .int
  | 11 => .int
  | 12 => .int
  | 13 => .int
  | 14 => .long
  | 15 => .array .int
  | 16 => .array .int
  | 17 => .array .int
  | 18 => .array .int
  | 19 => .int
  | 20 => .int
  | 21 => .array .int
  | 22 => .int
  | 23 => .array .int
  | 24 => .int
  | 25 => .array .long
  | 26 => .long
  | 27 => .long
  | _ => .long
abbrev wsX100 : List Cond := u_ws RX10 TX10 29
theorem nmX10 : ∀ a, a < 29 → ∀ b, b < 29 → a ≠ b → (TX10 a).2.1 ≠ (TX10 b).2.1 := by decide +kernel
theorem tyX10_ok : ∀ k, k < 29 → parseFieldDescriptor (TX10 k).2.2.1 = some (tyX10 k) := by decide +kernel
abbrev cX10_init : ByteArray := prog_11_method_1_code
def yX10_init : MethodName := ⟨RX10, "<init>", "()V"⟩
abbrev cX10_thrown : ByteArray := prog_11_method_2_code
def yX10_thrown : MethodName := ⟨RX10, "thrown", "()I"⟩
abbrev cX10_refused : ByteArray := prog_11_method_3_code
def yX10_refused : MethodName := ⟨RX10, "refused", "(I)I"⟩
abbrev cX10_lost : ByteArray := prog_11_method_4_code
def yX10_lost : MethodName := ⟨RX10, "lost", "(I)I"⟩
abbrev cX10_denied : ByteArray := prog_11_method_5_code
def yX10_denied : MethodName := ⟨RX10, "denied", "(I)Z"⟩
abbrev cX10_well : ByteArray := prog_11_method_6_code
def yX10_well : MethodName := ⟨RX10, "well", "(I)I"⟩
abbrev cX10_granted : ByteArray := prog_11_method_7_code
def yX10_granted : MethodName := ⟨RX10, "granted", "()Z"⟩
abbrev cX10_in : ByteArray := prog_11_method_8_code
def yX10_in : MethodName := ⟨RX10, "in", "(III)Z"⟩
abbrev cX10_bit : ByteArray := prog_11_method_9_code
def yX10_bit : MethodName := ⟨RX10, "bit", "(II)Z"⟩
abbrev cX10_bits : ByteArray := prog_11_method_10_code
def yX10_bits : MethodName := ⟨RX10, "bits", "(I)I"⟩
abbrev cX10_common : ByteArray := prog_11_method_11_code
def yX10_common : MethodName := ⟨RX10, "common", "(JJ)J"⟩
abbrev cX10_fraction : ByteArray := prog_11_method_12_code
def yX10_fraction : MethodName := ⟨RX10, "fraction", "(JJZ)J"⟩
abbrev cX10_byteAt : ByteArray := prog_11_method_13_code
def yX10_byteAt : MethodName := ⟨RX10, "byteAt", "(I)I"⟩
abbrev cX10_isLetter : ByteArray := prog_11_method_14_code
def yX10_isLetter : MethodName := ⟨RX10, "isLetter", "(I)Z"⟩
abbrev cX10_isDigit : ByteArray := prog_11_method_15_code
def yX10_isDigit : MethodName := ⟨RX10, "isDigit", "(I)Z"⟩
abbrev cX10_packed : ByteArray := prog_11_method_16_code
def yX10_packed : MethodName := ⟨RX10, "packed", "(Ljava/lang/String;)J"⟩
abbrev cX10_goesOn : ByteArray := prog_11_method_17_code
def yX10_goesOn : MethodName := ⟨RX10, "goesOn", "()V"⟩
abbrev cX10_flaw : ByteArray := prog_11_method_18_code
def yX10_flaw : MethodName := ⟨RX10, "flaw", "(I)V"⟩
abbrev cX10_isWord : ByteArray := prog_11_method_19_code
def yX10_isWord : MethodName := ⟨RX10, "isWord", "(Ljava/lang/String;)Z"⟩
abbrev cX10_eatsSemicolon : ByteArray := prog_11_method_20_code
def yX10_eatsSemicolon : MethodName := ⟨RX10, "eatsSemicolon", "()Z"⟩
abbrev cX10_needs : ByteArray := prog_11_method_21_code
def yX10_needs : MethodName := ⟨RX10, "needs", "(Ljava/lang/String;)V"⟩
abbrev cX10_readPart : ByteArray := prog_11_method_22_code
def yX10_readPart : MethodName := ⟨RX10, "readPart", "(Ljava/lang/String;II)I"⟩
abbrev cX10_isName : ByteArray := prog_11_method_23_code
def yX10_isName : MethodName := ⟨RX10, "isName", "()Z"⟩
abbrev cX10_lineBegins : ByteArray := prog_11_method_24_code
def yX10_lineBegins : MethodName := ⟨RX10, "lineBegins", "(II)V"⟩
abbrev cX10_readFresh : ByteArray := prog_11_method_25_code
def yX10_readFresh : MethodName := ⟨RX10, "readFresh", "()J"⟩
abbrev cX10_names : ByteArray := prog_11_method_26_code
def yX10_names : MethodName := ⟨RX10, "names", "(JII)V"⟩
abbrev cX10_knownOne : ByteArray := prog_11_method_27_code
def yX10_knownOne : MethodName := ⟨RX10, "knownOne", "(I)I"⟩
abbrev cX10_readKnown : ByteArray := prog_11_method_28_code
def yX10_readKnown : MethodName := ⟨RX10, "readKnown", "(I)I"⟩
abbrev cX10_readAll : ByteArray := prog_11_method_29_code
def yX10_readAll : MethodName := ⟨RX10, "readAll", "()V"⟩
abbrev cX10_readLine : ByteArray := prog_11_method_30_code
def yX10_readLine : MethodName := ⟨RX10, "readLine", "()V"⟩
abbrev cX10_readSafe : ByteArray := prog_11_method_31_code
def yX10_readSafe : MethodName := ⟨RX10, "readSafe", "()V"⟩
abbrev cX10_readHook : ByteArray := prog_11_method_32_code
def yX10_readHook : MethodName := ⟨RX10, "readHook", "()V"⟩
abbrev cX10_readSenator : ByteArray := prog_11_method_33_code
def yX10_readSenator : MethodName := ⟨RX10, "readSenator", "()V"⟩
abbrev cX10_readAct : ByteArray := prog_11_method_34_code
def yX10_readAct : MethodName := ⟨RX10, "readAct", "()V"⟩
abbrev cX10_readFor : ByteArray := prog_11_method_35_code
def yX10_readFor : MethodName := ⟨RX10, "readFor", "()V"⟩
abbrev cX10_readRests : ByteArray := prog_11_method_36_code
def yX10_readRests : MethodName := ⟨RX10, "readRests", "()V"⟩
abbrev cX10_readDoubted : ByteArray := prog_11_method_37_code
def yX10_readDoubted : MethodName := ⟨RX10, "readDoubted", "()V"⟩
abbrev cX10_readEnd : ByteArray := prog_11_method_38_code
def yX10_readEnd : MethodName := ⟨RX10, "readEnd", "(I)V"⟩
abbrev cX10_feed : ByteArray := prog_11_method_39_code
def yX10_feed : MethodName := ⟨RX10, "feed", "(IIIII)I"⟩
abbrev cX10_safe : ByteArray := prog_11_method_40_code
def yX10_safe : MethodName := ⟨RX10, "safe", "(I)I"⟩
abbrev cX10_fault : ByteArray := prog_11_method_41_code
def yX10_fault : MethodName := ⟨RX10, "fault", "()I"⟩
abbrev cX10_where : ByteArray := prog_11_method_42_code
def yX10_where : MethodName := ⟨RX10, "where", "()I"⟩
abbrev cX10_isSenator : ByteArray := prog_11_method_43_code
def yX10_isSenator : MethodName := ⟨RX10, "isSenator", "(I)Z"⟩
abbrev cX10_isHook : ByteArray := prog_11_method_44_code
def yX10_isHook : MethodName := ⟨RX10, "isHook", "(I)Z"⟩
abbrev cX10_isAct : ByteArray := prog_11_method_45_code
def yX10_isAct : MethodName := ⟨RX10, "isAct", "(I)Z"⟩
abbrev cX10_works : ByteArray := prog_11_method_46_code
def yX10_works : MethodName := ⟨RX10, "works", "()V"⟩
abbrev cX10_asTold : ByteArray := prog_11_method_47_code
def yX10_asTold : MethodName := ⟨RX10, "asTold", "()V"⟩
abbrev cX10_losses : ByteArray := prog_11_method_48_code
def yX10_losses : MethodName := ⟨RX10, "losses", "(I)I"⟩
abbrev cX10_goodNow : ByteArray := prog_11_method_49_code
def yX10_goodNow : MethodName := ⟨RX10, "goodNow", "()I"⟩
abbrev cX10_isQuorum : ByteArray := prog_11_method_50_code
def yX10_isQuorum : MethodName := ⟨RX10, "isQuorum", "()Z"⟩
abbrev cX10_aDay : ByteArray := prog_11_method_51_code
def yX10_aDay : MethodName := ⟨RX10, "aDay", "(Z)V"⟩
abbrev cX10_daysOn : ByteArray := prog_11_method_52_code
def yX10_daysOn : MethodName := ⟨RX10, "daysOn", "(I)V"⟩
abbrev cX10_lastsNow : ByteArray := prog_11_method_53_code
def yX10_lastsNow : MethodName := ⟨RX10, "lastsNow", "()I"⟩
abbrev cX10_putsAll : ByteArray := prog_11_method_54_code
def yX10_putsAll : MethodName := ⟨RX10, "putsAll", "()V"⟩
abbrev cX10_votes : ByteArray := prog_11_method_55_code
def yX10_votes : MethodName := ⟨RX10, "votes", "(I)I"⟩
abbrev cX10_marginNow : ByteArray := prog_11_method_56_code
def yX10_marginNow : MethodName := ⟨RX10, "marginNow", "(I)I"⟩
abbrev cX10_isByItself : ByteArray := prog_11_method_57_code
def yX10_isByItself : MethodName := ⟨RX10, "isByItself", "(I)Z"⟩
abbrev cX10_goingBut : ByteArray := prog_11_method_58_code
def yX10_goingBut : MethodName := ⟨RX10, "goingBut", "(I)I"⟩
abbrev cX10_goingNow : ByteArray := prog_11_method_59_code
def yX10_goingNow : MethodName := ⟨RX10, "goingNow", "()I"⟩
abbrev cX10_senator : ByteArray := prog_11_method_60_code
def yX10_senator : MethodName := ⟨RX10, "senator", "(II)I"⟩
abbrev cX10_likes : ByteArray := prog_11_method_61_code
def yX10_likes : MethodName := ⟨RX10, "likes", "(I)I"⟩
abbrev cX10_hangsAt : ByteArray := prog_11_method_62_code
def yX10_hangsAt : MethodName := ⟨RX10, "hangsAt", "(I)I"⟩
abbrev cX10_hook : ByteArray := prog_11_method_63_code
def yX10_hook : MethodName := ⟨RX10, "hook", "(II)I"⟩
abbrev cX10_act : ByteArray := prog_11_method_64_code
def yX10_act : MethodName := ⟨RX10, "act", "(II)I"⟩
abbrev cX10_good : ByteArray := prog_11_method_65_code
def yX10_good : MethodName := ⟨RX10, "good", "()I"⟩
abbrev cX10_quorum : ByteArray := prog_11_method_66_code
def yX10_quorum : MethodName := ⟨RX10, "quorum", "()I"⟩
abbrev cX10_refusesDays : ByteArray := prog_11_method_67_code
def yX10_refusesDays : MethodName := ⟨RX10, "refusesDays", "(ZII)I"⟩
abbrev cX10_goodIn : ByteArray := prog_11_method_68_code
def yX10_goodIn : MethodName := ⟨RX10, "goodIn", "(II)I"⟩
abbrev cX10_offIn : ByteArray := prog_11_method_69_code
def yX10_offIn : MethodName := ⟨RX10, "offIn", "(I)I"⟩
abbrev cX10_lasts : ByteArray := prog_11_method_70_code
def yX10_lasts : MethodName := ⟨RX10, "lasts", "()I"⟩
abbrev cX10_going : ByteArray := prog_11_method_71_code
def yX10_going : MethodName := ⟨RX10, "going", "()I"⟩
abbrev cX10_nextAct : ByteArray := prog_11_method_72_code
def yX10_nextAct : MethodName := ⟨RX10, "nextAct", "()I"⟩
abbrev cX10_margin : ByteArray := prog_11_method_73_code
def yX10_margin : MethodName := ⟨RX10, "margin", "(I)I"⟩
abbrev cX10_rows : ByteArray := prog_11_method_74_code
def yX10_rows : MethodName := ⟨RX10, "rows", "()I"⟩
abbrev cX10_hangs : ByteArray := prog_11_method_75_code
def yX10_hangs : MethodName := ⟨RX10, "hangs", "(I)Z"⟩
abbrev cX10_keeps : ByteArray := prog_11_method_76_code
def yX10_keeps : MethodName := ⟨RX10, "keeps", "()V"⟩
abbrev cX10_hangsBest : ByteArray := prog_11_method_77_code
def yX10_hangsBest : MethodName := ⟨RX10, "hangsBest", "(I)I"⟩
abbrev cX10_hang : ByteArray := prog_11_method_78_code
def yX10_hang : MethodName := ⟨RX10, "hang", "(I)I"⟩
abbrev cX10_hangAt : ByteArray := prog_11_method_79_code
def yX10_hangAt : MethodName := ⟨RX10, "hangAt", "(II)I"⟩
abbrev cX10_longest : ByteArray := prog_11_method_80_code
def yX10_longest : MethodName := ⟨RX10, "longest", "()I"⟩
abbrev cX10_longestAt : ByteArray := prog_11_method_81_code
def yX10_longestAt : MethodName := ⟨RX10, "longestAt", "(I)I"⟩
abbrev cX10_lastsAsIs : ByteArray := prog_11_method_82_code
def yX10_lastsAsIs : MethodName := ⟨RX10, "lastsAsIs", "()I"⟩
abbrev cX10_bestSwap : ByteArray := prog_11_method_83_code
def yX10_bestSwap : MethodName := ⟨RX10, "bestSwap", "()I"⟩
abbrev cX10_toSalt : ByteArray := prog_11_method_84_code
def yX10_toSalt : MethodName := ⟨RX10, "toSalt", "()I"⟩
abbrev cX10_keyMan : ByteArray := prog_11_method_85_code
def yX10_keyMan : MethodName := ⟨RX10, "keyMan", "()I"⟩
abbrev cX10_goingSince : ByteArray := prog_11_method_86_code
def yX10_goingSince : MethodName := ⟨RX10, "goingSince", "(I)I"⟩
abbrev cX10_wrong : ByteArray := prog_11_method_87_code
def yX10_wrong : MethodName := ⟨RX10, "wrong", "(I)I"⟩
abbrev cX10_fitting : ByteArray := prog_11_method_88_code
def yX10_fitting : MethodName := ⟨RX10, "fitting", "(I)I"⟩
abbrev cX10_refusesDoubt : ByteArray := prog_11_method_89_code
def yX10_refusesDoubt : MethodName := ⟨RX10, "refusesDoubt", "()I"⟩
abbrev cX10_since : ByteArray := prog_11_method_90_code
def yX10_since : MethodName := ⟨RX10, "since", "()I"⟩
abbrev cX10_sinceAt : ByteArray := prog_11_method_91_code
def yX10_sinceAt : MethodName := ⟨RX10, "sinceAt", "(I)I"⟩
abbrev cX10_looks : ByteArray := prog_11_method_92_code
def yX10_looks : MethodName := ⟨RX10, "looks", "()I"⟩
abbrev cX10_look : ByteArray := prog_11_method_93_code
def yX10_look : MethodName := ⟨RX10, "look", "()I"⟩
abbrev cX10_lookLeaves : ByteArray := prog_11_method_94_code
def yX10_lookLeaves : MethodName := ⟨RX10, "lookLeaves", "()I"⟩
abbrev cX10_judge : ByteArray := prog_11_method_95_code
def yX10_judge : MethodName := ⟨RX10, "judge", "()I"⟩
abbrev cX10_fallen : ByteArray := prog_11_method_96_code
def yX10_fallen : MethodName := ⟨RX10, "fallen", "(I)I"⟩
abbrev cX10_fallsWith : ByteArray := prog_11_method_97_code
def yX10_fallsWith : MethodName := ⟨RX10, "fallsWith", "(I)I"⟩
abbrev cX10_strike : ByteArray := prog_11_method_98_code
def yX10_strike : MethodName := ⟨RX10, "strike", "(I)I"⟩
abbrev cX10_keystone : ByteArray := prog_11_method_99_code
def yX10_keystone : MethodName := ⟨RX10, "keystone", "()I"⟩
abbrev cX10_ring : ByteArray := prog_11_method_100_code
def yX10_ring : MethodName := ⟨RX10, "ring", "()I"⟩
abbrev cX10_turns : ByteArray := prog_11_method_101_code
def yX10_turns : MethodName := ⟨RX10, "turns", "(I)I"⟩
abbrev cX10_power : ByteArray := prog_11_method_102_code
def yX10_power : MethodName := ⟨RX10, "power", "(IZ)J"⟩
abbrev cX10_strongest : ByteArray := prog_11_method_103_code
def yX10_strongest : MethodName := ⟨RX10, "strongest", "()I"⟩
abbrev cX10_gets : ByteArray := prog_11_method_104_code
def yX10_gets : MethodName := ⟨RX10, "gets", "(IZZ)I"⟩
abbrev cX10_refusesWorth : ByteArray := prog_11_method_105_code
def yX10_refusesWorth : MethodName := ⟨RX10, "refusesWorth", "(I)I"⟩
abbrev cX10_wire : ByteArray := prog_11_method_106_code
def yX10_wire : MethodName := ⟨RX10, "wire", "(IZZZ)I"⟩
abbrev cX10_isRest : ByteArray := prog_11_method_107_code
def yX10_isRest : MethodName := ⟨RX10, "isRest", "(II)Z"⟩
abbrev cX10_rests : ByteArray := prog_11_method_108_code
def yX10_rests : MethodName := ⟨RX10, "rests", "(I)I"⟩
abbrev cX10_rest : ByteArray := prog_11_method_109_code
def yX10_rest : MethodName := ⟨RX10, "rest", "(I)I"⟩
abbrev cX10_storms : ByteArray := prog_11_method_110_code
def yX10_storms : MethodName := ⟨RX10, "storms", "(I)V"⟩
abbrev cX10_odds : ByteArray := prog_11_method_111_code
def yX10_odds : MethodName := ⟨RX10, "odds", "(IZ)J"⟩
abbrev cX10_goodOdds : ByteArray := prog_11_method_112_code
def yX10_goodOdds : MethodName := ⟨RX10, "goodOdds", "(IIZ)J"⟩
abbrev cX10_mean : ByteArray := prog_11_method_113_code
def yX10_mean : MethodName := ⟨RX10, "mean", "(IZ)J"⟩
abbrev cX10_aDrawnDay : ByteArray := prog_11_method_114_code
def yX10_aDrawnDay : MethodName := ⟨RX10, "aDrawnDay", "()Z"⟩
abbrev cX10_daysBy : ByteArray := prog_11_method_115_code
def yX10_daysBy : MethodName := ⟨RX10, "daysBy", "(II)I"⟩
abbrev cX10_refusesSeed : ByteArray := prog_11_method_116_code
def yX10_refusesSeed : MethodName := ⟨RX10, "refusesSeed", "(II)I"⟩
abbrev cX10_days : ByteArray := prog_11_method_117_code
def yX10_days : MethodName := ⟨RX10, "days", "(II)I"⟩
abbrev cX10_thunders : ByteArray := prog_11_method_118_code
def yX10_thunders : MethodName := ⟨RX10, "thunders", "(II)I"⟩
abbrev cX10_remembers : ByteArray := prog_11_method_119_code
def yX10_remembers : MethodName := ⟨RX10, "remembers", "()V"⟩
abbrev cX10_day : ByteArray := prog_11_method_120_code
def yX10_day : MethodName := ⟨RX10, "day", "()I"⟩
abbrev cX10_move : ByteArray := prog_11_method_121_code
def yX10_move : MethodName := ⟨RX10, "move", "(II)I"⟩
abbrev cX10_salt : ByteArray := prog_11_method_122_code
def yX10_salt : MethodName := ⟨RX10, "salt", "(I)Z"⟩
abbrev cX10_seed : ByteArray := prog_11_method_123_code
def yX10_seed : MethodName := ⟨RX10, "seed", "(I)Z"⟩
abbrev cX10_undo : ByteArray := prog_11_method_124_code
def yX10_undo : MethodName := ⟨RX10, "undo", "()Z"⟩
abbrev cX10_image : ByteArray := prog_11_method_125_code
def yX10_image : MethodName := ⟨RX10, "image", "()I"⟩
abbrev cX10_back : ByteArray := prog_11_method_126_code
def yX10_back : MethodName := ⟨RX10, "back", "(I)Z"⟩
abbrev cX10_led : ByteArray := prog_11_method_127_code
def yX10_led : MethodName := ⟨RX10, "led", "(I)I"⟩
abbrev cX10_size : ByteArray := prog_11_method_128_code
def yX10_size : MethodName := ⟨RX10, "size", "(I)I"⟩
abbrev cX10_trouble : ByteArray := prog_11_method_129_code
def yX10_trouble : MethodName := ⟨RX10, "trouble", "()I"⟩
def RJx145de : String := "java/io/Serializable"
def TJx145de : u_T := fun k => match k with
  | _ => ("", "", "", false)
def tyJx145de : Nat → FieldType := fun k => match k with
  | _ => .int
abbrev wsJx145de0 : List Cond := u_ws RJx145de TJx145de 0
theorem nmJx145de : ∀ a, a < 0 → ∀ b, b < 0 → a ≠ b → (TJx145de a).2.1 ≠ (TJx145de b).2.1 := by decide +kernel
theorem tyJx145de_ok : ∀ k, k < 0 → parseFieldDescriptor (TJx145de k).2.2.1 = some (tyJx145de k) := by decide +kernel
def RJx9f9b0 : String := "java/lang/CharSequence"
def TJx9f9b0 : u_T := fun k => match k with
  | _ => ("", "", "", false)
def tyJx9f9b0 : Nat → FieldType := fun k => match k with
  | _ => .int
abbrev wsJx9f9b00 : List Cond := u_ws RJx9f9b0 TJx9f9b0 0
theorem nmJx9f9b0 : ∀ a, a < 0 → ∀ b, b < 0 → a ≠ b → (TJx9f9b0 a).2.1 ≠ (TJx9f9b0 b).2.1 := by decide +kernel
theorem tyJx9f9b0_ok : ∀ k, k < 0 → parseFieldDescriptor (TJx9f9b0 k).2.2.1 = some (tyJx9f9b0 k) := by decide +kernel
def RJxb160c : String := "java/lang/Comparable"
def TJxb160c : u_T := fun k => match k with
  | _ => ("", "", "", false)
def tyJxb160c : Nat → FieldType := fun k => match k with
  | _ => .int
abbrev wsJxb160c0 : List Cond := u_ws RJxb160c TJxb160c 0
theorem nmJxb160c : ∀ a, a < 0 → ∀ b, b < 0 → a ≠ b → (TJxb160c a).2.1 ≠ (TJxb160c b).2.1 := by decide +kernel
theorem tyJxb160c_ok : ∀ k, k < 0 → parseFieldDescriptor (TJxb160c k).2.2.1 = some (tyJxb160c k) := by decide +kernel
def RJ6 : String := "java/lang/Integer"
def TJ6 : u_T := fun k => match k with
  | _ => ("", "", "", false)
def tyJ6 : Nat → FieldType := fun k => match k with
  | _ => .int
abbrev wsJ60 : List Cond := u_ws RJ6 TJ6 0
theorem nmJ6 : ∀ a, a < 0 → ∀ b, b < 0 → a ≠ b → (TJ6 a).2.1 ≠ (TJ6 b).2.1 := by decide +kernel
theorem tyJ6_ok : ∀ k, k < 0 → parseFieldDescriptor (TJ6 k).2.2.1 = some (tyJ6 k) := by decide +kernel
abbrev cJ6_numberOfTrailingZeros_0f7a4 : ByteArray := prog_17_method_48_code
def yJ6_numberOfTrailingZeros_0f7a4 : MethodName := ⟨RJ6, "numberOfTrailingZeros", "(I)I"⟩
abbrev cJ6_bitCount_0f7a4 : ByteArray := prog_17_method_49_code
def yJ6_bitCount_0f7a4 : MethodName := ⟨RJ6, "bitCount", "(I)I"⟩
def RJ9 : String := "java/lang/Math"
def TJ9 : u_T := fun k => match k with
  | _ => ("", "", "", false)
def tyJ9 : Nat → FieldType := fun k => match k with
  | _ => .int
abbrev wsJ90 : List Cond := u_ws RJ9 TJ9 0
theorem nmJ9 : ∀ a, a < 0 → ∀ b, b < 0 → a ≠ b → (TJ9 a).2.1 ≠ (TJ9 b).2.1 := by decide +kernel
theorem tyJ9_ok : ∀ k, k < 0 → parseFieldDescriptor (TJ9 k).2.2.1 = some (tyJ9 k) := by decide +kernel
abbrev cJ9_max_7cf53 : ByteArray := prog_18_method_65_code
def yJ9_max_7cf53 : MethodName := ⟨RJ9, "max", "(II)I"⟩
abbrev cJ9_min_7cf53 : ByteArray := prog_18_method_69_code
def yJ9_min_7cf53 : MethodName := ⟨RJ9, "min", "(II)I"⟩
def RJ0 : String := "java/lang/String"
def TJ0 : u_T := fun k => match k with
  | _ => ("", "", "", false)
def tyJ0 : Nat → FieldType := fun k => match k with
  | _ => .int
abbrev wsJ00 : List Cond := u_ws RJ0 TJ0 0
theorem nmJ0 : ∀ a, a < 0 → ∀ b, b < 0 → a ≠ b → (TJ0 a).2.1 ≠ (TJ0 b).2.1 := by decide +kernel
theorem tyJ0_ok : ∀ k, k < 0 → parseFieldDescriptor (TJ0 k).2.2.1 = some (tyJ0 k) := by decide +kernel
abbrev cJ0_length_8abf5 : ByteArray := prog_20_method_54_code
def yJ0_length_8abf5 : MethodName := ⟨RJ0, "length", "()I"⟩
abbrev cJ0_charAt_5068e : ByteArray := prog_20_method_56_code
def yJ0_charAt_5068e : MethodName := ⟨RJ0, "charAt", "(I)C"⟩
abbrev cJ0_coder_7d493 : ByteArray := prog_20_method_152_code
def yJ0_coder_7d493 : MethodName := ⟨RJ0, "coder", "()B"⟩
abbrev cJ0_isLatin1_aae02 : ByteArray := prog_20_method_154_code
def yJ0_isLatin1_aae02 : MethodName := ⟨RJ0, "isLatin1", "()Z"⟩
abbrev cJ0_checkIndex_df160 : ByteArray := prog_20_method_155_code
def yJ0_checkIndex_df160 : MethodName := ⟨RJ0, "checkIndex", "(II)V"⟩
def RJ1 : String := "java/lang/StringLatin1"
def TJ1 : u_T := fun k => match k with
  | _ => ("", "", "", false)
def tyJ1 : Nat → FieldType := fun k => match k with
  | _ => .int
abbrev wsJ10 : List Cond := u_ws RJ1 TJ1 0
theorem nmJ1 : ∀ a, a < 0 → ∀ b, b < 0 → a ≠ b → (TJ1 a).2.1 ≠ (TJ1 b).2.1 := by decide +kernel
theorem tyJ1_ok : ∀ k, k < 0 → parseFieldDescriptor (TJ1 k).2.2.1 = some (tyJ1 k) := by decide +kernel
abbrev cJ1_charAt_3b067 : ByteArray := prog_21_method_2_code
def yJ1_charAt_3b067 : MethodName := ⟨RJ1, "charAt", "([BI)C"⟩
def RJ2 : String := "java/lang/StringUTF16"
def TJ2 : u_T := fun k => match k with
  | _ => ("", "", "", false)
def tyJ2 : Nat → FieldType := fun k => match k with
  | _ => .int
abbrev wsJ20 : List Cond := u_ws RJ2 TJ2 0
theorem nmJ2 : ∀ a, a < 0 → ∀ b, b < 0 → a ≠ b → (TJ2 a).2.1 ≠ (TJ2 b).2.1 := by decide +kernel
theorem tyJ2_ok : ∀ k, k < 0 → parseFieldDescriptor (TJ2 k).2.2.1 = some (tyJ2 k) := by decide +kernel
abbrev cJ2_getChar_3b067 : ByteArray := prog_22_method_5_code
def yJ2_getChar_3b067 : MethodName := ⟨RJ2, "getChar", "([BI)C"⟩
abbrev cJ2_length_9d52b : ByteArray := prog_22_method_6_code
def yJ2_length_9d52b : MethodName := ⟨RJ2, "length", "([B)I"⟩
abbrev cJ2_charAt_3b067 : ByteArray := prog_22_method_83_code
def yJ2_charAt_3b067 : MethodName := ⟨RJ2, "charAt", "([BI)C"⟩
abbrev cJ2_checkIndex_2214a : ByteArray := prog_22_method_91_code
def yJ2_checkIndex_2214a : MethodName := ⟨RJ2, "checkIndex", "(I[B)V"⟩
def RJ10 : String := "java/lang/System"
def TJ10 : u_T := fun k => match k with
  | _ => ("", "", "", false)
def tyJ10 : Nat → FieldType := fun k => match k with
  | _ => .int
abbrev wsJ100 : List Cond := u_ws RJ10 TJ10 0
theorem nmJ10 : ∀ a, a < 0 → ∀ b, b < 0 → a ≠ b → (TJ10 a).2.1 ≠ (TJ10 b).2.1 := by decide +kernel
theorem tyJ10_ok : ∀ k, k < 0 → parseFieldDescriptor (TJ10 k).2.2.1 = some (tyJ10 k) := by decide +kernel
def RJxfd54e : String := "java/lang/constant/Constable"
def TJxfd54e : u_T := fun k => match k with
  | _ => ("", "", "", false)
def tyJxfd54e : Nat → FieldType := fun k => match k with
  | _ => .int
abbrev wsJxfd54e0 : List Cond := u_ws RJxfd54e TJxfd54e 0
theorem nmJxfd54e : ∀ a, a < 0 → ∀ b, b < 0 → a ≠ b → (TJxfd54e a).2.1 ≠ (TJxfd54e b).2.1 := by decide +kernel
theorem tyJxfd54e_ok : ∀ k, k < 0 → parseFieldDescriptor (TJxfd54e k).2.2.1 = some (tyJxfd54e k) := by decide +kernel
def RJx3cf43 : String := "java/lang/constant/ConstantDesc"
def TJx3cf43 : u_T := fun k => match k with
  | _ => ("", "", "", false)
def tyJx3cf43 : Nat → FieldType := fun k => match k with
  | _ => .int
abbrev wsJx3cf430 : List Cond := u_ws RJx3cf43 TJx3cf43 0
theorem nmJx3cf43 : ∀ a, a < 0 → ∀ b, b < 0 → a ≠ b → (TJx3cf43 a).2.1 ≠ (TJx3cf43 b).2.1 := by decide +kernel
theorem tyJx3cf43_ok : ∀ k, k < 0 → parseFieldDescriptor (TJx3cf43 k).2.2.1 = some (tyJx3cf43 k) := by decide +kernel
def RJ3 : String := "jdk/internal/util/Preconditions"
def TJ3 : u_T := fun k => match k with
  | _ => ("", "", "", false)
def tyJ3 : Nat → FieldType := fun k => match k with
  | _ => .int
abbrev wsJ30 : List Cond := u_ws RJ3 TJ3 0
theorem nmJ3 : ∀ a, a < 0 → ∀ b, b < 0 → a ≠ b → (TJ3 a).2.1 ≠ (TJ3 b).2.1 := by decide +kernel
theorem tyJ3_ok : ∀ k, k < 0 → parseFieldDescriptor (TJ3 k).2.2.1 = some (tyJ3 k) := by decide +kernel
abbrev cJ3_checkIndex_8e157 : ByteArray := prog_28_method_11_code
def yJ3_checkIndex_8e157 : MethodName := ⟨RJ3, "checkIndex", "(IILjava/util/function/BiFunction;)I"⟩
def RL : String := "SafeSenateLaw"
abbrev cL_led : ByteArray := method_3_code
def yL_led : MethodName := ⟨RL, "led", "(LSafeSenate;I[J)I"⟩
abbrev cL_law : ByteArray := code
abbrev vwCl : List vw_C := [(RX0, TX0, 4), (RX1, TX1, 9), (RX2, TX2, 7), (RX3, TX3, 11), (RX4, TX4, 17), (RX5, TX5, 14), (RX6, TX6, 1), (RX7, TX7, 3), (RX8, TX8, 12), (RX9, TX9, 24), (RX10, TX10, 29)]
def ssMN : List MethodName := [
  ⟨"SafeSenate$Doubt", "<init>", "()V"⟩,
  ⟨"SafeSenate$Doubt", "weigh", "(LSafeSenate$Plan;)V"⟩,
  ⟨"SafeSenate$Doubt", "fitting", "(I)I"⟩,
  ⟨"SafeSenate$Doubt", "actToAsk", "(I)I"⟩,
  ⟨"SafeSenate$Doubt", "leftBy", "(I)I"⟩,
  ⟨"SafeSenate$Hanging", "<init>", "()V"⟩,
  ⟨"SafeSenate$Hanging", "forMostGood", "(LSafeSenate$Plan;LSafeSenate$Moment;I)V"⟩,
  ⟨"SafeSenate$Hanging", "forLongest", "(LSafeSenate$Plan;LSafeSenate$Moment;)V"⟩,
  ⟨"SafeSenate$Hanging", "begin", "(LSafeSenate$Plan;I)V"⟩,
  ⟨"SafeSenate$Hanging", "setBound", "()V"⟩,
  ⟨"SafeSenate$Hanging", "place", "(II)V"⟩,
  ⟨"SafeSenate$Hanging", "valueOfChosen", "()I"⟩,
  ⟨"SafeSenate$Hanging", "keepIfBetter", "(I)V"⟩,
  ⟨"SafeSenate$Moment", "<init>", "()V"⟩,
  ⟨"SafeSenate$Moment", "copyFrom", "(LSafeSenate$Moment;)V"⟩,
  ⟨"SafeSenate$Moment", "goodBits", "(I)I"⟩,
  ⟨"SafeSenate$Moment", "whoHangsAt", "(II)I"⟩,
  ⟨"SafeSenate$Moment", "passDay", "(LSafeSenate$Plan;)V"⟩,
  ⟨"SafeSenate$Parser", "<init>", "()V"⟩,
  ⟨"SafeSenate$Parser", "exchange", "(LSafeSenate$Plan;)LSafeSenate$Plan;"⟩,
  ⟨"SafeSenate$Parser", "hear", "(I)Z"⟩,
  ⟨"SafeSenate$Parser", "hearLine", "()Z"⟩,
  ⟨"SafeSenate$Parser", "hearSafe", "()Z"⟩,
  ⟨"SafeSenate$Parser", "hearHook", "()Z"⟩,
  ⟨"SafeSenate$Parser", "hearSenator", "()Z"⟩,
  ⟨"SafeSenate$Parser", "hearKind", "(I)Z"⟩,
  ⟨"SafeSenate$Parser", "hearFreeHook", "(I)Z"⟩,
  ⟨"SafeSenate$Parser", "hearAct", "()Z"⟩,
  ⟨"SafeSenate$Parser", "hearFor", "()Z"⟩,
  ⟨"SafeSenate$Parser", "hearRests", "()Z"⟩,
  ⟨"SafeSenate$Parser", "hearDoubted", "()Z"⟩,
  ⟨"SafeSenate$Parser", "hearOutcome", "(Z)Z"⟩,
  ⟨"SafeSenate$Parser", "hearWord", "(I)Z"⟩,
  ⟨"SafeSenate$Parser", "hearNumber", "(III)Z"⟩,
  ⟨"SafeSenate$Parser", "isName", "()Z"⟩,
  ⟨"SafeSenate$Parser", "hearNewName", "(II)Z"⟩,
  ⟨"SafeSenate$Parser", "toldNumber", "(I)I"⟩,
  ⟨"SafeSenate$Parser", "nameIndex", "()I"⟩,
  ⟨"SafeSenate$Parser", "fail", "(I)Z"⟩,
  ⟨"SafeSenate$Plan", "<init>", "()V"⟩,
  ⟨"SafeSenate$Plan", "clear", "()V"⟩,
  ⟨"SafeSenate$Plan", "actsOf", "(I)I"⟩,
  ⟨"SafeSenate$Plan", "airAt", "(I)I"⟩,
  ⟨"SafeSenate$Plan", "lossOver", "(IIII)I"⟩,
  ⟨"SafeSenate$Plan", "lossBehind", "(LSafeSenate$Moment;II)I"⟩,
  ⟨"SafeSenate$Plan", "goodDays", "(LSafeSenate$Moment;III)I"⟩,
  ⟨"SafeSenate$Plan", "goodAfter", "(LSafeSenate$Moment;II)I"⟩,
  ⟨"SafeSenate$Plan", "chancesOf", "(II)J"⟩,
  ⟨"SafeSenate$Plan", "seedBehind", "(I)I"⟩,
  ⟨"SafeSenate$Plan", "isThunder", "(I)Z"⟩,
  ⟨"SafeSenate$Plan", "thundersDrawn", "(II)I"⟩,
  ⟨"SafeSenate$Plan", "votesOf", "(I)I"⟩,
  ⟨"SafeSenate$Plan", "leadOf", "(II)I"⟩,
  ⟨"SafeSenate$Plan", "goingAlone", "(LSafeSenate$Moment;LSafeSenate$Spans;)I"⟩,
  ⟨"SafeSenate$Plan", "goingAmong", "(I)I"⟩,
  ⟨"SafeSenate$Plan", "restsOn", "(II)I"⟩,
  ⟨"SafeSenate$Plan", "fallingWith", "(I)I"⟩,
  ⟨"SafeSenate$Plan", "swingsOf", "(II)I"⟩,
  ⟨"SafeSenate$Reader", "<init>", "()V"⟩,
  ⟨"SafeSenate$Reader", "put", "(I)V"⟩,
  ⟨"SafeSenate$Reader", "split", "(I)V"⟩,
  ⟨"SafeSenate$Reader", "advance", "()V"⟩,
  ⟨"SafeSenate$Reader", "readToken", "(I)I"⟩,
  ⟨"SafeSenate$Reader", "readWord", "(I)I"⟩,
  ⟨"SafeSenate$Reader", "readWhole", "(I)I"⟩,
  ⟨"SafeSenate$Reader", "withLetter", "(JI)J"⟩,
  ⟨"SafeSenate$Reader", "keyOf", "(J)I"⟩,
  ⟨"SafeSenate$Reader", "isLetter", "(I)Z"⟩,
  ⟨"SafeSenate$Reader", "isDigit", "(I)Z"⟩,
  ⟨"SafeSenate$Spans", "<init>", "()V"⟩,
  ⟨"SafeSenate$Spans", "fill", "(LSafeSenate$Plan;LSafeSenate$Moment;)V"⟩,
  ⟨"SafeSenate$Spans", "goodAfter", "(II)I"⟩,
  ⟨"SafeSenate$Spans", "sum", "(I)I"⟩,
  ⟨"SafeSenate$Spans", "quorumDays", "(II)I"⟩,
  ⟨"SafeSenate$Undoing", "<init>", "()V"⟩,
  ⟨"SafeSenate$Undoing", "clear", "()V"⟩,
  ⟨"SafeSenate$Undoing", "keep", "(LSafeSenate$Moment;)V"⟩,
  ⟨"SafeSenate$Undoing", "restore", "(LSafeSenate$Moment;)V"⟩,
  ⟨"SafeSenate", "<init>", "()V"⟩,
  ⟨"SafeSenate", "feed", "(IIIII)I"⟩,
  ⟨"SafeSenate", "safe", "(I)I"⟩,
  ⟨"SafeSenate", "fault", "()I"⟩,
  ⟨"SafeSenate", "where", "()I"⟩,
  ⟨"SafeSenate", "senator", "(II)I"⟩,
  ⟨"SafeSenate", "hook", "(II)I"⟩,
  ⟨"SafeSenate", "act", "(II)I"⟩,
  ⟨"SafeSenate", "good", "()I"⟩,
  ⟨"SafeSenate", "quorum", "()I"⟩,
  ⟨"SafeSenate", "goodIn", "(II)I"⟩,
  ⟨"SafeSenate", "offIn", "(I)I"⟩,
  ⟨"SafeSenate", "lasts", "()I"⟩,
  ⟨"SafeSenate", "going", "()I"⟩,
  ⟨"SafeSenate", "nextAct", "()I"⟩,
  ⟨"SafeSenate", "margin", "(I)I"⟩,
  ⟨"SafeSenate", "hang", "(I)I"⟩,
  ⟨"SafeSenate", "hangAt", "(II)I"⟩,
  ⟨"SafeSenate", "longest", "()I"⟩,
  ⟨"SafeSenate", "longestAt", "(I)I"⟩,
  ⟨"SafeSenate", "bestSwap", "()I"⟩,
  ⟨"SafeSenate", "toSalt", "()I"⟩,
  ⟨"SafeSenate", "keyMan", "()I"⟩,
  ⟨"SafeSenate", "since", "()I"⟩,
  ⟨"SafeSenate", "sinceAt", "(I)I"⟩,
  ⟨"SafeSenate", "look", "()I"⟩,
  ⟨"SafeSenate", "lookLeaves", "()I"⟩,
  ⟨"SafeSenate", "judge", "()I"⟩,
  ⟨"SafeSenate", "fallsWith", "(I)I"⟩,
  ⟨"SafeSenate", "strike", "(I)I"⟩,
  ⟨"SafeSenate", "keystone", "()I"⟩,
  ⟨"SafeSenate", "ring", "()I"⟩,
  ⟨"SafeSenate", "power", "(IZ)J"⟩,
  ⟨"SafeSenate", "strongest", "()I"⟩,
  ⟨"SafeSenate", "wire", "(IZZZ)I"⟩,
  ⟨"SafeSenate", "rests", "(I)I"⟩,
  ⟨"SafeSenate", "rest", "(I)I"⟩,
  ⟨"SafeSenate", "odds", "(IZ)J"⟩,
  ⟨"SafeSenate", "goodOdds", "(IIZ)J"⟩,
  ⟨"SafeSenate", "mean", "(IZ)J"⟩,
  ⟨"SafeSenate", "days", "(II)I"⟩,
  ⟨"SafeSenate", "thunders", "(II)I"⟩,
  ⟨"SafeSenate", "day", "()I"⟩,
  ⟨"SafeSenate", "move", "(II)I"⟩,
  ⟨"SafeSenate", "salt", "(I)Z"⟩,
  ⟨"SafeSenate", "seed", "(I)Z"⟩,
  ⟨"SafeSenate", "undo", "()Z"⟩,
  ⟨"SafeSenate", "image", "()I"⟩,
  ⟨"SafeSenate", "back", "(I)Z"⟩,
  ⟨"SafeSenate", "led", "(I)I"⟩,
  ⟨"SafeSenate", "size", "(I)I"⟩,
  ⟨"SafeSenate", "trouble", "()I"⟩,
  ⟨"SafeSenate", "sizeBehind", "(I)I"⟩,
  ⟨"SafeSenate", "refuse", "(I)I"⟩,
  ⟨"SafeSenate", "grant", "(I)I"⟩,
  ⟨"SafeSenate", "deny", "(I)Z"⟩,
  ⟨"SafeSenate", "allow", "()Z"⟩,
  ⟨"SafeSenate", "lacksSafe", "()Z"⟩,
  ⟨"SafeSenate", "lacksSenator", "(I)Z"⟩,
  ⟨"SafeSenate", "lacksAct", "(I)Z"⟩,
  ⟨"SafeSenate", "lacksDoubt", "()Z"⟩,
  ⟨"SafeSenate", "whyNoDoubt", "()I"⟩,
  ⟨"SafeSenate", "outside", "(II)Z"⟩,
  ⟨"SafeSenate", "goodNow", "()I"⟩,
  ⟨"SafeSenate", "goingNow", "()I"⟩,
  ⟨"SafeSenate", "lastsNow", "()I"⟩,
  ⟨"SafeSenate", "lastsSwapped", "(II)I"⟩,
  ⟨"SafeSenate", "lastsSalted", "(I)I"⟩,
  ⟨"SafeSenate", "fewestStruck", "(II)I"⟩,
  ⟨"SafeSenate", "share", "(IZZ)I"⟩,
  ⟨"SafeSenate", "isRest", "(II)Z"⟩,
  ⟨"SafeSenate", "powerOf", "(II)J"⟩,
  ⟨"SafeSenate", "reduced", "(JJZ)J"⟩,
  ⟨"SafeSenate", "commonDivisor", "(JJ)J"⟩,
  ⟨"SafeSenateModel$Safe", "<init>", "()V"⟩,
  ⟨"SafeSenateModel$Safe", "find", "(J)I"⟩,
  ⟨"SafeSenateModel$Safe", "isHung", "(I)Z"⟩,
  ⟨"SafeSenateModel", "<init>", "()V"⟩,
  ⟨"SafeSenateModel", "thrown", "()I"⟩,
  ⟨"SafeSenateModel", "refused", "(I)I"⟩,
  ⟨"SafeSenateModel", "lost", "(I)I"⟩,
  ⟨"SafeSenateModel", "denied", "(I)Z"⟩,
  ⟨"SafeSenateModel", "well", "(I)I"⟩,
  ⟨"SafeSenateModel", "granted", "()Z"⟩,
  ⟨"SafeSenateModel", "in", "(III)Z"⟩,
  ⟨"SafeSenateModel", "bit", "(II)Z"⟩,
  ⟨"SafeSenateModel", "bits", "(I)I"⟩,
  ⟨"SafeSenateModel", "common", "(JJ)J"⟩,
  ⟨"SafeSenateModel", "fraction", "(JJZ)J"⟩,
  ⟨"SafeSenateModel", "byteAt", "(I)I"⟩,
  ⟨"SafeSenateModel", "isLetter", "(I)Z"⟩,
  ⟨"SafeSenateModel", "isDigit", "(I)Z"⟩,
  ⟨"SafeSenateModel", "packed", "(Ljava/lang/String;)J"⟩,
  ⟨"SafeSenateModel", "goesOn", "()V"⟩,
  ⟨"SafeSenateModel", "flaw", "(I)V"⟩,
  ⟨"SafeSenateModel", "isWord", "(Ljava/lang/String;)Z"⟩,
  ⟨"SafeSenateModel", "eatsSemicolon", "()Z"⟩,
  ⟨"SafeSenateModel", "needs", "(Ljava/lang/String;)V"⟩,
  ⟨"SafeSenateModel", "readPart", "(Ljava/lang/String;II)I"⟩,
  ⟨"SafeSenateModel", "isName", "()Z"⟩,
  ⟨"SafeSenateModel", "lineBegins", "(II)V"⟩,
  ⟨"SafeSenateModel", "readFresh", "()J"⟩,
  ⟨"SafeSenateModel", "names", "(JII)V"⟩,
  ⟨"SafeSenateModel", "knownOne", "(I)I"⟩,
  ⟨"SafeSenateModel", "readKnown", "(I)I"⟩,
  ⟨"SafeSenateModel", "readAll", "()V"⟩,
  ⟨"SafeSenateModel", "readLine", "()V"⟩,
  ⟨"SafeSenateModel", "readSafe", "()V"⟩,
  ⟨"SafeSenateModel", "readHook", "()V"⟩,
  ⟨"SafeSenateModel", "readSenator", "()V"⟩,
  ⟨"SafeSenateModel", "readAct", "()V"⟩,
  ⟨"SafeSenateModel", "readFor", "()V"⟩,
  ⟨"SafeSenateModel", "readRests", "()V"⟩,
  ⟨"SafeSenateModel", "readDoubted", "()V"⟩,
  ⟨"SafeSenateModel", "readEnd", "(I)V"⟩,
  ⟨"SafeSenateModel", "feed", "(IIIII)I"⟩,
  ⟨"SafeSenateModel", "safe", "(I)I"⟩,
  ⟨"SafeSenateModel", "fault", "()I"⟩,
  ⟨"SafeSenateModel", "where", "()I"⟩,
  ⟨"SafeSenateModel", "isSenator", "(I)Z"⟩,
  ⟨"SafeSenateModel", "isHook", "(I)Z"⟩,
  ⟨"SafeSenateModel", "isAct", "(I)Z"⟩,
  ⟨"SafeSenateModel", "works", "()V"⟩,
  ⟨"SafeSenateModel", "asTold", "()V"⟩,
  ⟨"SafeSenateModel", "losses", "(I)I"⟩,
  ⟨"SafeSenateModel", "goodNow", "()I"⟩,
  ⟨"SafeSenateModel", "isQuorum", "()Z"⟩,
  ⟨"SafeSenateModel", "aDay", "(Z)V"⟩,
  ⟨"SafeSenateModel", "daysOn", "(I)V"⟩,
  ⟨"SafeSenateModel", "lastsNow", "()I"⟩,
  ⟨"SafeSenateModel", "putsAll", "()V"⟩,
  ⟨"SafeSenateModel", "votes", "(I)I"⟩,
  ⟨"SafeSenateModel", "marginNow", "(I)I"⟩,
  ⟨"SafeSenateModel", "isByItself", "(I)Z"⟩,
  ⟨"SafeSenateModel", "goingBut", "(I)I"⟩,
  ⟨"SafeSenateModel", "goingNow", "()I"⟩,
  ⟨"SafeSenateModel", "senator", "(II)I"⟩,
  ⟨"SafeSenateModel", "likes", "(I)I"⟩,
  ⟨"SafeSenateModel", "hangsAt", "(I)I"⟩,
  ⟨"SafeSenateModel", "hook", "(II)I"⟩,
  ⟨"SafeSenateModel", "act", "(II)I"⟩,
  ⟨"SafeSenateModel", "good", "()I"⟩,
  ⟨"SafeSenateModel", "quorum", "()I"⟩,
  ⟨"SafeSenateModel", "refusesDays", "(ZII)I"⟩,
  ⟨"SafeSenateModel", "goodIn", "(II)I"⟩,
  ⟨"SafeSenateModel", "offIn", "(I)I"⟩,
  ⟨"SafeSenateModel", "lasts", "()I"⟩,
  ⟨"SafeSenateModel", "going", "()I"⟩,
  ⟨"SafeSenateModel", "nextAct", "()I"⟩,
  ⟨"SafeSenateModel", "margin", "(I)I"⟩,
  ⟨"SafeSenateModel", "rows", "()I"⟩,
  ⟨"SafeSenateModel", "hangs", "(I)Z"⟩,
  ⟨"SafeSenateModel", "keeps", "()V"⟩,
  ⟨"SafeSenateModel", "hangsBest", "(I)I"⟩,
  ⟨"SafeSenateModel", "hang", "(I)I"⟩,
  ⟨"SafeSenateModel", "hangAt", "(II)I"⟩,
  ⟨"SafeSenateModel", "longest", "()I"⟩,
  ⟨"SafeSenateModel", "longestAt", "(I)I"⟩,
  ⟨"SafeSenateModel", "lastsAsIs", "()I"⟩,
  ⟨"SafeSenateModel", "bestSwap", "()I"⟩,
  ⟨"SafeSenateModel", "toSalt", "()I"⟩,
  ⟨"SafeSenateModel", "keyMan", "()I"⟩,
  ⟨"SafeSenateModel", "goingSince", "(I)I"⟩,
  ⟨"SafeSenateModel", "wrong", "(I)I"⟩,
  ⟨"SafeSenateModel", "fitting", "(I)I"⟩,
  ⟨"SafeSenateModel", "refusesDoubt", "()I"⟩,
  ⟨"SafeSenateModel", "since", "()I"⟩,
  ⟨"SafeSenateModel", "sinceAt", "(I)I"⟩,
  ⟨"SafeSenateModel", "looks", "()I"⟩,
  ⟨"SafeSenateModel", "look", "()I"⟩,
  ⟨"SafeSenateModel", "lookLeaves", "()I"⟩,
  ⟨"SafeSenateModel", "judge", "()I"⟩,
  ⟨"SafeSenateModel", "fallen", "(I)I"⟩,
  ⟨"SafeSenateModel", "fallsWith", "(I)I"⟩,
  ⟨"SafeSenateModel", "strike", "(I)I"⟩,
  ⟨"SafeSenateModel", "keystone", "()I"⟩,
  ⟨"SafeSenateModel", "ring", "()I"⟩,
  ⟨"SafeSenateModel", "turns", "(I)I"⟩,
  ⟨"SafeSenateModel", "power", "(IZ)J"⟩,
  ⟨"SafeSenateModel", "strongest", "()I"⟩,
  ⟨"SafeSenateModel", "gets", "(IZZ)I"⟩,
  ⟨"SafeSenateModel", "refusesWorth", "(I)I"⟩,
  ⟨"SafeSenateModel", "wire", "(IZZZ)I"⟩,
  ⟨"SafeSenateModel", "isRest", "(II)Z"⟩,
  ⟨"SafeSenateModel", "rests", "(I)I"⟩,
  ⟨"SafeSenateModel", "rest", "(I)I"⟩,
  ⟨"SafeSenateModel", "storms", "(I)V"⟩,
  ⟨"SafeSenateModel", "odds", "(IZ)J"⟩,
  ⟨"SafeSenateModel", "goodOdds", "(IIZ)J"⟩,
  ⟨"SafeSenateModel", "mean", "(IZ)J"⟩,
  ⟨"SafeSenateModel", "aDrawnDay", "()Z"⟩,
  ⟨"SafeSenateModel", "daysBy", "(II)I"⟩,
  ⟨"SafeSenateModel", "refusesSeed", "(II)I"⟩,
  ⟨"SafeSenateModel", "days", "(II)I"⟩,
  ⟨"SafeSenateModel", "thunders", "(II)I"⟩,
  ⟨"SafeSenateModel", "remembers", "()V"⟩,
  ⟨"SafeSenateModel", "day", "()I"⟩,
  ⟨"SafeSenateModel", "move", "(II)I"⟩,
  ⟨"SafeSenateModel", "salt", "(I)Z"⟩,
  ⟨"SafeSenateModel", "seed", "(I)Z"⟩,
  ⟨"SafeSenateModel", "undo", "()Z"⟩,
  ⟨"SafeSenateModel", "image", "()I"⟩,
  ⟨"SafeSenateModel", "back", "(I)Z"⟩,
  ⟨"SafeSenateModel", "led", "(I)I"⟩,
  ⟨"SafeSenateModel", "size", "(I)I"⟩,
  ⟨"SafeSenateModel", "trouble", "()I"⟩,
  ⟨"java/lang/Integer", "numberOfTrailingZeros", "(I)I"⟩,
  ⟨"java/lang/Integer", "bitCount", "(I)I"⟩,
  ⟨"java/lang/String", "length", "()I"⟩,
  ⟨"java/lang/String", "charAt", "(I)C"⟩,
  ⟨"SafeSenateLaw", "led", "(LSafeSenate;I[J)I"⟩,
  ⟨"java/lang/Math", "max", "(II)I"⟩,
  ⟨"java/lang/Math", "min", "(II)I"⟩,
  ⟨"java/lang/System", "arraycopy", "(Ljava/lang/Object;ILjava/lang/Object;II)V"⟩,
  ⟨"java/lang/Object", "<init>", "()V"⟩,
  ⟨"java/lang/String", "coder", "()B"⟩,
  ⟨"java/lang/String", "isLatin1", "()Z"⟩,
  ⟨"java/lang/StringLatin1", "charAt", "([BI)C"⟩,
  ⟨"java/lang/String", "checkIndex", "(II)V"⟩,
  ⟨"jdk/internal/util/Preconditions", "checkIndex", "(IILjava/util/function/BiFunction;)I"⟩]
def ssSR : List (String × Nat × Nat) := [("SafeSenate$Reader", 32, 21), ("SafeSenateModel", 127, 0), ("SafeSenateModel", 210, 9), ("SafeSenateModel", 215, 10), ("SafeSenateModel", 217, 11), ("SafeSenateModel", 219, 12), ("SafeSenateModel", 129, 1), ("SafeSenateModel", 131, 2), ("SafeSenateModel", 133, 3), ("SafeSenateModel", 135, 4), ("SafeSenateModel", 137, 5), ("SafeSenateModel", 139, 6), ("SafeSenateModel", 141, 7), ("SafeSenateModel", 143, 8), ("SafeSenateModel", 238, 13), ("SafeSenateModel", 245, 18), ("SafeSenateModel", 247, 19), ("SafeSenateModel", 249, 20), ("SafeSenateModel", 251, 14), ("SafeSenateModel", 256, 15), ("SafeSenateModel", 258, 16), ("SafeSenateModel", 272, 17)]
def ssTx : List String := ["safe", "hook", "senator", "act", "for", "rests", "doubted", "went", "fell", "quorum", "heat", "thunder", "salt", "air", "at", "good", "votes", "day", "fresh", "salted", "cold", "safe hook senator act for rests doubted went fell quorum heat thunder salt air at good votes day fresh salted cold"]
def ssSl : List Nat := [4, 4, 7, 3, 3, 5, 7, 4, 4, 6, 4, 7, 4, 3, 2, 4, 5, 3, 5, 6, 4, 114]
def ssSb : List (List Int32) := [[115, 97, 102, 101], [104, 111, 111, 107], [115, 101, 110, 97, 116, 111, 114], [97, 99, 116], [102, 111, 114], [114, 101, 115, 116, 115], [100, 111, 117, 98, 116, 101, 100], [119, 101, 110, 116], [102, 101, 108, 108], [113, 117, 111, 114, 117, 109], [104, 101, 97, 116], [116, 104, 117, 110, 100, 101, 114], [115, 97, 108, 116], [97, 105, 114], [97, 116], [103, 111, 111, 100], [118, 111, 116, 101, 115], [100, 97, 121], [102, 114, 101, 115, 104], [115, 97, 108, 116, 101, 100], [99, 111, 108, 100], [115, 97, 102, 101, 32, 104, 111, 111, 107, 32, 115, 101, 110, 97, 116, 111, 114, 32, 97, 99, 116, 32, 102, 111, 114, 32, 114, 101, 115, 116, 115, 32, 100, 111, 117, 98, 116, 101, 100, 32, 119, 101, 110, 116, 32, 102, 101, 108, 108, 32, 113, 117, 111, 114, 117, 109, 32, 104, 101, 97, 116, 32, 116, 104, 117, 110, 100, 101, 114, 32, 115, 97, 108, 116, 32, 97, 105, 114, 32, 97, 116, 32, 103, 111, 111, 100, 32, 118, 111, 116, 101, 115, 32, 100, 97, 121, 32, 102, 114, 101, 115, 104, 32, 115, 97, 108, 116, 101, 100, 32, 99, 111, 108, 100]]
