def RX0 : String := "LeagueTables$Fixtures"
def TX0 : u_T := fun k => match k with
  | 0 => ("LeagueTables$Fixtures", "weeks", "I", false)
  | 1 => ("LeagueTables$Fixtures", "count", "I", false)
  | 2 => ("LeagueTables$Fixtures", "homes", "[I", true)
  | 3 => ("LeagueTables$Fixtures", "aways", "[I", true)
  | 4 => ("LeagueTables$Fixtures", "drawnWeeks", "[I", true)
  | 5 => ("LeagueTables$Fixtures", "byes", "[I", true)
  | _ => ("LeagueTables$Fixtures", "guests", "[I", true)
def tyX0 : Nat → FieldType := fun k => match k with
  | 0 => .int
  | 1 => .int
  | 2 => .array .int
  | 3 => .array .int
  | 4 => .array .int
  | 5 => .array .int
  | _ => .array .int
abbrev wsX00 : List Cond := u_ws RX0 TX0 7
theorem nmX0 : ∀ a, a < 7 → ∀ b, b < 7 → a ≠ b → (TX0 a).2.1 ≠ (TX0 b).2.1 := by decide +kernel
theorem tyX0_ok : ∀ k, k < 7 → parseFieldDescriptor (TX0 k).2.2.1 = some (tyX0 k) := by decide +kernel
abbrev cX0_init : ByteArray := prog_2_method_1_code
def yX0_init : MethodName := ⟨RX0, "<init>", "()V"⟩
abbrev cX0_lay : ByteArray := prog_2_method_2_code
def yX0_lay : MethodName := ⟨RX0, "lay", "(I)V"⟩
abbrev cX0_pairPlaces : ByteArray := prog_2_method_3_code
def yX0_pairPlaces : MethodName := ⟨RX0, "pairPlaces", "(IIZ)V"⟩
abbrev cX0_host : ByteArray := prog_2_method_4_code
def yX0_host : MethodName := ⟨RX0, "host", "(IIZ)V"⟩
abbrev cX0_addWeek : ByteArray := prog_2_method_5_code
def yX0_addWeek : MethodName := ⟨RX0, "addWeek", "(II)V"⟩
def RX1 : String := "LeagueTables$History"
def TX1 : u_T := fun k => match k with
  | 0 => ("LeagueTables$History", "ring", "[LLeagueTables$League;", true)
  | 1 => ("LeagueTables$History", "head", "I", false)
  | _ => ("LeagueTables$History", "kept", "I", false)
def tyX1 : Nat → FieldType := fun k => match k with
  | 0 => .array (.object "LeagueTables$League")
  | 1 => .int
  | _ => .int
abbrev wsX10 : List Cond := u_ws RX1 TX1 3
theorem nmX1 : ∀ a, a < 3 → ∀ b, b < 3 → a ≠ b → (TX1 a).2.1 ≠ (TX1 b).2.1 := by decide +kernel
theorem tyX1_ok : ∀ k, k < 3 → parseFieldDescriptor (TX1 k).2.2.1 = some (tyX1 k) := by decide +kernel
abbrev cX1_init : ByteArray := prog_3_method_1_code
def yX1_init : MethodName := ⟨RX1, "<init>", "()V"⟩
abbrev cX1_keep : ByteArray := prog_3_method_2_code
def yX1_keep : MethodName := ⟨RX1, "keep", "(LLeagueTables$League;)V"⟩
abbrev cX1_hold : ByteArray := prog_3_method_3_code
def yX1_hold : MethodName := ⟨RX1, "hold", "(LLeagueTables$League;)V"⟩
abbrev cX1_keepHeld : ByteArray := prog_3_method_4_code
def yX1_keepHeld : MethodName := ⟨RX1, "keepHeld", "()V"⟩
abbrev cX1_giveHeld : ByteArray := prog_3_method_5_code
def yX1_giveHeld : MethodName := ⟨RX1, "giveHeld", "(LLeagueTables$League;)V"⟩
abbrev cX1_giveLatest : ByteArray := prog_3_method_6_code
def yX1_giveLatest : MethodName := ⟨RX1, "giveLatest", "(LLeagueTables$League;)V"⟩
abbrev cX1_forget : ByteArray := prog_3_method_7_code
def yX1_forget : MethodName := ⟨RX1, "forget", "()V"⟩
abbrev cX1_slotAt : ByteArray := prog_3_method_8_code
def yX1_slotAt : MethodName := ⟨RX1, "slotAt", "(I)LLeagueTables$League;"⟩
def RX2 : String := "LeagueTables$League"
def TX2 : u_T := fun k => match k with
  | 0 => ("LeagueTables$League", "teams", "I", false)
  | 1 => ("LeagueTables$League", "grounds", "[I", true)
  | 2 => ("LeagueTables$League", "isDrawn", "Z", false)
  | 3 => ("LeagueTables$League", "week", "I", false)
  | 4 => ("LeagueTables$League", "winPoints", "I", false)
  | 5 => ("LeagueTables$League", "drawPoints", "I", false)
  | 6 => ("LeagueTables$League", "ruleCount", "I", false)
  | 7 => ("LeagueTables$League", "rules", "[I", true)
  | 8 => ("LeagueTables$League", "weeks", "[I", true)
  | 9 => ("LeagueTables$League", "homeGoals", "[I", true)
  | _ => ("LeagueTables$League", "awayGoals", "[I", true)
def tyX2 : Nat → FieldType := fun k => match k with
  | 0 => .int
  | 1 => .array .int
  | 2 => .boolean
  | 3 => .int
  | 4 => .int
  | 5 => .int
  | 6 => .int
  | 7 => .array .int
  | 8 => .array .int
  | 9 => .array .int
  | _ => .array .int
abbrev wsX20 : List Cond := u_ws RX2 TX2 11
theorem nmX2 : ∀ a, a < 11 → ∀ b, b < 11 → a ≠ b → (TX2 a).2.1 ≠ (TX2 b).2.1 := by decide +kernel
theorem tyX2_ok : ∀ k, k < 11 → parseFieldDescriptor (TX2 k).2.2.1 = some (tyX2 k) := by decide +kernel
abbrev cX2_init : ByteArray := prog_4_method_1_code
def yX2_init : MethodName := ⟨RX2, "<init>", "()V"⟩
abbrev cX2_copyFrom : ByteArray := prog_4_method_2_code
def yX2_copyFrom : MethodName := ⟨RX2, "copyFrom", "(LLeagueTables$League;)V"⟩
abbrev cX2_start : ByteArray := prog_4_method_3_code
def yX2_start : MethodName := ⟨RX2, "start", "(LLeagueTables$Fixtures;)V"⟩
abbrev cX2_setRules : ByteArray := prog_4_method_4_code
def yX2_setRules : MethodName := ⟨RX2, "setRules", "(III)V"⟩
abbrev cX2_addRule : ByteArray := prog_4_method_5_code
def yX2_addRule : MethodName := ⟨RX2, "addRule", "(I)V"⟩
abbrev cX2_setGoals : ByteArray := prog_4_method_6_code
def yX2_setGoals : MethodName := ⟨RX2, "setGoals", "(III)V"⟩
abbrev cX2_isPlayed : ByteArray := prog_4_method_7_code
def yX2_isPlayed : MethodName := ⟨RX2, "isPlayed", "(I)Z"⟩
def RX3 : String := "LeagueTables$Tally"
def TX3 : u_T := fun k => match k with
  | 0 => ("LeagueTables$Tally", "played", "I", false)
  | 1 => ("LeagueTables$Tally", "goals", "I", false)
  | 2 => ("LeagueTables$Tally", "homeWins", "I", false)
  | 3 => ("LeagueTables$Tally", "points", "[I", true)
  | 4 => ("LeagueTables$Tally", "wins", "[I", true)
  | 5 => ("LeagueTables$Tally", "draws", "[I", true)
  | 6 => ("LeagueTables$Tally", "losses", "[I", true)
  | 7 => ("LeagueTables$Tally", "made", "[I", true)
  | 8 => ("LeagueTables$Tally", "against", "[I", true)
  | 9 => ("LeagueTables$Tally", "madeAway", "[I", true)
  | 10 => ("LeagueTables$Tally", "left", "[I", true)
  | _ => ("LeagueTables$Tally", "amongTied", "[I", true)
def tyX3 : Nat → FieldType := fun k => match k with
  | 0 => .int
  | 1 => .int
  | 2 => .int
  | 3 => .array .int
  | 4 => .array .int
  | 5 => .array .int
  | 6 => .array .int
  | 7 => .array .int
  | 8 => .array .int
  | 9 => .array .int
  | 10 => .array .int
  | _ => .array .int
abbrev wsX30 : List Cond := u_ws RX3 TX3 12
theorem nmX3 : ∀ a, a < 12 → ∀ b, b < 12 → a ≠ b → (TX3 a).2.1 ≠ (TX3 b).2.1 := by decide +kernel
theorem tyX3_ok : ∀ k, k < 12 → parseFieldDescriptor (TX3 k).2.2.1 = some (tyX3 k) := by decide +kernel
abbrev cX3_init : ByteArray := prog_5_method_1_code
def yX3_init : MethodName := ⟨RX3, "<init>", "()V"⟩
abbrev cX3_take : ByteArray := prog_5_method_2_code
def yX3_take : MethodName := ⟨RX3, "take", "(LLeagueTables$League;LLeagueTables$Fixtures;I)V"⟩
abbrev cX3_clear : ByteArray := prog_5_method_3_code
def yX3_clear : MethodName := ⟨RX3, "clear", "()V"⟩
abbrev cX3_addPlayed : ByteArray := prog_5_method_4_code
def yX3_addPlayed : MethodName := ⟨RX3, "addPlayed", "(IIII)V"⟩
abbrev cX3_addGoals : ByteArray := prog_5_method_5_code
def yX3_addGoals : MethodName := ⟨RX3, "addGoals", "(III)V"⟩
abbrev cX3_addPoints : ByteArray := prog_5_method_6_code
def yX3_addPoints : MethodName := ⟨RX3, "addPoints", "([IIILLeagueTables$League;I)V"⟩
abbrev cX3_worth : ByteArray := prog_5_method_7_code
def yX3_worth : MethodName := ⟨RX3, "worth", "(II)I"⟩
def RX4 : String := "LeagueTables$Text"
def TX4 : u_T := fun k => match k with
  | 0 => ("LeagueTables$Text", "length", "I", false)
  | 1 => ("LeagueTables$Text", "position", "I", false)
  | 2 => ("LeagueTables$Text", "count", "I", false)
  | 3 => ("LeagueTables$Text", "signs", "[C", true)
  | 4 => ("LeagueTables$Text", "letters", "[I", true)
  | 5 => ("LeagueTables$Text", "ones", "[I", true)
  | 6 => ("LeagueTables$Text", "twos", "[I", true)
  | _ => ("LeagueTables$Text", "threes", "[I", true)
def tyX4 : Nat → FieldType := fun k => match k with
  | 0 => .int
  | 1 => .int
  | 2 => .int
  | 3 => .array .char
  | 4 => .array .int
  | 5 => .array .int
  | 6 => .array .int
  | _ => .array .int
abbrev wsX40 : List Cond := u_ws RX4 TX4 8
theorem nmX4 : ∀ a, a < 8 → ∀ b, b < 8 → a ≠ b → (TX4 a).2.1 ≠ (TX4 b).2.1 := by decide +kernel
theorem tyX4_ok : ∀ k, k < 8 → parseFieldDescriptor (TX4 k).2.2.1 = some (tyX4 k) := by decide +kernel
abbrev cX4_init : ByteArray := prog_6_method_1_code
def yX4_init : MethodName := ⟨RX4, "<init>", "()V"⟩
abbrev cX4_isFull : ByteArray := prog_6_method_2_code
def yX4_isFull : MethodName := ⟨RX4, "isFull", "()Z"⟩
abbrev cX4_take : ByteArray := prog_6_method_3_code
def yX4_take : MethodName := ⟨RX4, "take", "(C)V"⟩
abbrev cX4_isParsed : ByteArray := prog_6_method_4_code
def yX4_isParsed : MethodName := ⟨RX4, "isParsed", "()Z"⟩
abbrev cX4_isCommandParsed : ByteArray := prog_6_method_5_code
def yX4_isCommandParsed : MethodName := ⟨RX4, "isCommandParsed", "()Z"⟩
abbrev cX4_isResultParsed : ByteArray := prog_6_method_6_code
def yX4_isResultParsed : MethodName := ⟨RX4, "isResultParsed", "()Z"⟩
abbrev cX4_isBackParsed : ByteArray := prog_6_method_7_code
def yX4_isBackParsed : MethodName := ⟨RX4, "isBackParsed", "()Z"⟩
abbrev cX4_isPutOffParsed : ByteArray := prog_6_method_8_code
def yX4_isPutOffParsed : MethodName := ⟨RX4, "isPutOffParsed", "()Z"⟩
abbrev cX4_areRulesParsed : ByteArray := prog_6_method_9_code
def yX4_areRulesParsed : MethodName := ⟨RX4, "areRulesParsed", "()Z"⟩
abbrev cX4_add : ByteArray := prog_6_method_10_code
def yX4_add : MethodName := ⟨RX4, "add", "(CIII)Z"⟩
abbrev cX4_number : ByteArray := prog_6_method_11_code
def yX4_number : MethodName := ⟨RX4, "number", "()I"⟩
abbrev cX4_digit : ByteArray := prog_6_method_12_code
def yX4_digit : MethodName := ⟨RX4, "digit", "(I)I"⟩
abbrev cX4_isPassed : ByteArray := prog_6_method_13_code
def yX4_isPassed : MethodName := ⟨RX4, "isPassed", "(C)Z"⟩
abbrev cX4_sign : ByteArray := prog_6_method_14_code
def yX4_sign : MethodName := ⟨RX4, "sign", "()I"⟩
def RX5 : String := "LeagueTables"
def TX5 : u_T := fun k => match k with
  | 0 => ("LeagueTables", "now", "LLeagueTables$League;", true)
  | 1 => ("LeagueTables", "saved", "LLeagueTables$League;", true)
  | 2 => ("LeagueTables", "isSaved", "Z", false)
  | 3 => ("LeagueTables", "history", "LLeagueTables$History;", true)
  | 4 => ("LeagueTables", "fixtures", "LLeagueTables$Fixtures;", true)
  | 5 => ("LeagueTables", "tally", "LLeagueTables$Tally;", true)
  | 6 => ("LeagueTables", "order", "[I", true)
  | 7 => ("LeagueTables", "text", "LLeagueTables$Text;", true)
  | 8 => ("LeagueTables", "faultAt", "I", false)
  | 9 => ("LeagueTables", "keptReason", "I", false)
  | 10 => ("LeagueTables", "keptDetail", "I", false)
  | 11 => ("LeagueTables", "keptCommand", "I", false)
  | 12 => ("LeagueTables", "commandIndex", "I", false)
  | _ => ("LeagueTables", "written", "Ljava/lang/StringBuilder;", true)
def tyX5 : Nat → FieldType := fun k => match k with
  | 0 => .object "LeagueTables$League"
  | 1 => .object "LeagueTables$League"
  | 2 => .boolean
  | 3 => .object "LeagueTables$History"
  | 4 => .object "LeagueTables$Fixtures"
  | 5 => .object "LeagueTables$Tally"
  | 6 => .array .int
  | 7 => .object "LeagueTables$Text"
  | 8 => .int
  | 9 => .int
  | 10 => .int
  | 11 => .int
  | 12 => .int
  | _ => .object "java/lang/StringBuilder"
abbrev wsX50 : List Cond := u_ws RX5 TX5 14
theorem nmX5 : ∀ a, a < 14 → ∀ b, b < 14 → a ≠ b → (TX5 a).2.1 ≠ (TX5 b).2.1 := by decide +kernel
theorem tyX5_ok : ∀ k, k < 14 → parseFieldDescriptor (TX5 k).2.2.1 = some (tyX5 k) := by decide +kernel
abbrev cX5_init : ByteArray := prog_1_method_1_code
def yX5_init : MethodName := ⟨RX5, "<init>", "()V"⟩
abbrev cX5_team : ByteArray := prog_1_method_2_code
def yX5_team : MethodName := ⟨RX5, "team", "(I)I"⟩
abbrev cX5_ground : ByteArray := prog_1_method_3_code
def yX5_ground : MethodName := ⟨RX5, "ground", "(II)I"⟩
abbrev cX5_draw : ByteArray := prog_1_method_4_code
def yX5_draw : MethodName := ⟨RX5, "draw", "()I"⟩
abbrev cX5_give : ByteArray := prog_1_method_5_code
def yX5_give : MethodName := ⟨RX5, "give", "(II)I"⟩
abbrev cX5_rules : ByteArray := prog_1_method_6_code
def yX5_rules : MethodName := ⟨RX5, "rules", "(III)I"⟩
abbrev cX5_result : ByteArray := prog_1_method_7_code
def yX5_result : MethodName := ⟨RX5, "result", "(III)I"⟩
abbrev cX5_back : ByteArray := prog_1_method_8_code
def yX5_back : MethodName := ⟨RX5, "back", "(I)I"⟩
abbrev cX5_putOff : ByteArray := prog_1_method_9_code
def yX5_putOff : MethodName := ⟨RX5, "putOff", "(II)I"⟩
abbrev cX5_next : ByteArray := prog_1_method_10_code
def yX5_next : MethodName := ⟨RX5, "next", "()I"⟩
abbrev cX5_teamOf : ByteArray := prog_1_method_11_code
def yX5_teamOf : MethodName := ⟨RX5, "teamOf", "(II)I"⟩
abbrev cX5_pointsAgain : ByteArray := prog_1_method_12_code
def yX5_pointsAgain : MethodName := ⟨RX5, "pointsAgain", "(I)I"⟩
abbrev cX5_meetingOf : ByteArray := prog_1_method_13_code
def yX5_meetingOf : MethodName := ⟨RX5, "meetingOf", "(II)I"⟩
abbrev cX5_find : ByteArray := prog_1_method_14_code
def yX5_find : MethodName := ⟨RX5, "find", "(II)I"⟩
abbrev cX5_byeIn : ByteArray := prog_1_method_15_code
def yX5_byeIn : MethodName := ⟨RX5, "byeIn", "(I)I"⟩
abbrev cX5_meetingsIn : ByteArray := prog_1_method_16_code
def yX5_meetingsIn : MethodName := ⟨RX5, "meetingsIn", "(I)I"⟩
abbrev cX5_clashes : ByteArray := prog_1_method_17_code
def yX5_clashes : MethodName := ⟨RX5, "clashes", "(I)I"⟩
abbrev cX5_freeWeek : ByteArray := prog_1_method_18_code
def yX5_freeWeek : MethodName := ⟨RX5, "freeWeek", "(I)I"⟩
abbrev cX5_ranked : ByteArray := prog_1_method_19_code
def yX5_ranked : MethodName := ⟨RX5, "ranked", "(I)I"⟩
abbrev cX5_placeOf : ByteArray := prog_1_method_20_code
def yX5_placeOf : MethodName := ⟨RX5, "placeOf", "(I)I"⟩
abbrev cX5_valueOf : ByteArray := prog_1_method_21_code
def yX5_valueOf : MethodName := ⟨RX5, "valueOf", "(II)I"⟩
abbrev cX5_tied : ByteArray := prog_1_method_22_code
def yX5_tied : MethodName := ⟨RX5, "tied", "(I)I"⟩
abbrev cX5_most : ByteArray := prog_1_method_23_code
def yX5_most : MethodName := ⟨RX5, "most", "(I)I"⟩
abbrev cX5_isSafe : ByteArray := prog_1_method_24_code
def yX5_isSafe : MethodName := ⟨RX5, "isSafe", "(I)Z"⟩
abbrev cX5_isOut : ByteArray := prog_1_method_25_code
def yX5_isOut : MethodName := ⟨RX5, "isOut", "(I)Z"⟩
abbrev cX5_run : ByteArray := prog_1_method_26_code
def yX5_run : MethodName := ⟨RX5, "run", "(I)I"⟩
abbrev cX5_append : ByteArray := prog_1_method_27_code
def yX5_append : MethodName := ⟨RX5, "append", "(C)I"⟩
abbrev cX5_commands : ByteArray := prog_1_method_28_code
def yX5_commands : MethodName := ⟨RX5, "commands", "()I"⟩
abbrev cX5_faultPosition : ByteArray := prog_1_method_29_code
def yX5_faultPosition : MethodName := ⟨RX5, "faultPosition", "()I"⟩
abbrev cX5_reason : ByteArray := prog_1_method_30_code
def yX5_reason : MethodName := ⟨RX5, "reason", "(I)I"⟩
abbrev cX5_line : ByteArray := prog_1_method_31_code
def yX5_line : MethodName := ⟨RX5, "line", "(I)I"⟩
abbrev cX5_character : ByteArray := prog_1_method_32_code
def yX5_character : MethodName := ⟨RX5, "character", "(I)C"⟩
abbrev cX5_meanGoals : ByteArray := prog_1_method_33_code
def yX5_meanGoals : MethodName := ⟨RX5, "meanGoals", "()F"⟩
abbrev cX5_homeShare : ByteArray := prog_1_method_34_code
def yX5_homeShare : MethodName := ⟨RX5, "homeShare", "()D"⟩
abbrev cX5_account : ByteArray := prog_1_method_35_code
def yX5_account : MethodName := ⟨RX5, "account", "(I)I"⟩
abbrev cX5_undo : ByteArray := prog_1_method_36_code
def yX5_undo : MethodName := ⟨RX5, "undo", "()I"⟩
abbrev cX5_save : ByteArray := prog_1_method_37_code
def yX5_save : MethodName := ⟨RX5, "save", "()I"⟩
abbrev cX5_restore : ByteArray := prog_1_method_38_code
def yX5_restore : MethodName := ⟨RX5, "restore", "()I"⟩
abbrev cX5_isTeamRefused : ByteArray := prog_1_method_39_code
def yX5_isTeamRefused : MethodName := ⟨RX5, "isTeamRefused", "(I)Z"⟩
abbrev cX5_isGroundRefused : ByteArray := prog_1_method_40_code
def yX5_isGroundRefused : MethodName := ⟨RX5, "isGroundRefused", "(II)Z"⟩
abbrev cX5_isDrawRefused : ByteArray := prog_1_method_41_code
def yX5_isDrawRefused : MethodName := ⟨RX5, "isDrawRefused", "()Z"⟩
abbrev cX5_isGiveRefused : ByteArray := prog_1_method_42_code
def yX5_isGiveRefused : MethodName := ⟨RX5, "isGiveRefused", "(II)Z"⟩
abbrev cX5_isRulesRefused : ByteArray := prog_1_method_43_code
def yX5_isRulesRefused : MethodName := ⟨RX5, "isRulesRefused", "(III)Z"⟩
abbrev cX5_isResultRefused : ByteArray := prog_1_method_44_code
def yX5_isResultRefused : MethodName := ⟨RX5, "isResultRefused", "(III)Z"⟩
abbrev cX5_isBackRefused : ByteArray := prog_1_method_45_code
def yX5_isBackRefused : MethodName := ⟨RX5, "isBackRefused", "(I)Z"⟩
abbrev cX5_isPutOffRefused : ByteArray := prog_1_method_46_code
def yX5_isPutOffRefused : MethodName := ⟨RX5, "isPutOffRefused", "(II)Z"⟩
abbrev cX5_isNextRefused : ByteArray := prog_1_method_47_code
def yX5_isNextRefused : MethodName := ⟨RX5, "isNextRefused", "()Z"⟩
abbrev cX5_isNoMeetingRefused : ByteArray := prog_1_method_48_code
def yX5_isNoMeetingRefused : MethodName := ⟨RX5, "isNoMeetingRefused", "(I)Z"⟩
abbrev cX5_isOtherWeekRefused : ByteArray := prog_1_method_49_code
def yX5_isOtherWeekRefused : MethodName := ⟨RX5, "isOtherWeekRefused", "(I)Z"⟩
abbrev cX5_refuse : ByteArray := prog_1_method_50_code
def yX5_refuse : MethodName := ⟨RX5, "refuse", "(II)Z"⟩
abbrev cX5_areCarriedOut : ByteArray := prog_1_method_51_code
def yX5_areCarriedOut : MethodName := ⟨RX5, "areCarriedOut", "()Z"⟩
abbrev cX5_isCarriedOut : ByteArray := prog_1_method_52_code
def yX5_isCarriedOut : MethodName := ⟨RX5, "isCarriedOut", "(I)Z"⟩
abbrev cX5_isTeam : ByteArray := prog_1_method_53_code
def yX5_isTeam : MethodName := ⟨RX5, "isTeam", "(I)Z"⟩
abbrev cX5_isMeeting : ByteArray := prog_1_method_54_code
def yX5_isMeeting : MethodName := ⟨RX5, "isMeeting", "(I)Z"⟩
abbrev cX5_isWeek : ByteArray := prog_1_method_55_code
def yX5_isWeek : MethodName := ⟨RX5, "isWeek", "(I)Z"⟩
abbrev cX5_isGround : ByteArray := prog_1_method_56_code
def yX5_isGround : MethodName := ⟨RX5, "isGround", "(I)Z"⟩
abbrev cX5_areGoals : ByteArray := prog_1_method_57_code
def yX5_areGoals : MethodName := ⟨RX5, "areGoals", "(I)Z"⟩
abbrev cX5_isRuleOrNone : ByteArray := prog_1_method_58_code
def yX5_isRuleOrNone : MethodName := ⟨RX5, "isRuleOrNone", "(I)Z"⟩
abbrev cX5_meetingCount : ByteArray := prog_1_method_59_code
def yX5_meetingCount : MethodName := ⟨RX5, "meetingCount", "()I"⟩
abbrev cX5_weekCount : ByteArray := prog_1_method_60_code
def yX5_weekCount : MethodName := ⟨RX5, "weekCount", "()I"⟩
abbrev cX5_kindOf : ByteArray := prog_1_method_61_code
def yX5_kindOf : MethodName := ⟨RX5, "kindOf", "(I)I"⟩
abbrev cX5_isIn : ByteArray := prog_1_method_62_code
def yX5_isIn : MethodName := ⟨RX5, "isIn", "(II)Z"⟩
abbrev cX5_hasLost : ByteArray := prog_1_method_63_code
def yX5_hasLost : MethodName := ⟨RX5, "hasLost", "(II)Z"⟩
abbrev cX5_meetingBetween : ByteArray := prog_1_method_64_code
def yX5_meetingBetween : MethodName := ⟨RX5, "meetingBetween", "(II)I"⟩
abbrev cX5_firstNotPlayedNow : ByteArray := prog_1_method_65_code
def yX5_firstNotPlayedNow : MethodName := ⟨RX5, "firstNotPlayedNow", "()I"⟩
abbrev cX5_notPlayedNow : ByteArray := prog_1_method_66_code
def yX5_notPlayedNow : MethodName := ⟨RX5, "notPlayedNow", "()I"⟩
abbrev cX5_putOffCount : ByteArray := prog_1_method_67_code
def yX5_putOffCount : MethodName := ⟨RX5, "putOffCount", "()I"⟩
abbrev cX5_groundOf : ByteArray := prog_1_method_68_code
def yX5_groundOf : MethodName := ⟨RX5, "groundOf", "(I)I"⟩
abbrev cX5_clashesOf : ByteArray := prog_1_method_69_code
def yX5_clashesOf : MethodName := ⟨RX5, "clashesOf", "(II)I"⟩
abbrev cX5_clashingPairs : ByteArray := prog_1_method_70_code
def yX5_clashingPairs : MethodName := ⟨RX5, "clashingPairs", "(I)I"⟩
abbrev cX5_allClashes : ByteArray := prog_1_method_71_code
def yX5_allClashes : MethodName := ⟨RX5, "allClashes", "()I"⟩
abbrev cX5_firstFreeWeek : ByteArray := prog_1_method_72_code
def yX5_firstFreeWeek : MethodName := ⟨RX5, "firstFreeWeek", "(I)I"⟩
abbrev cX5_count : ByteArray := prog_1_method_73_code
def yX5_count : MethodName := ⟨RX5, "count", "()V"⟩
abbrev cX5_isAhead : ByteArray := prog_1_method_74_code
def yX5_isAhead : MethodName := ⟨RX5, "isAhead", "(II)Z"⟩
abbrev cX5_sortTeams : ByteArray := prog_1_method_75_code
def yX5_sortTeams : MethodName := ⟨RX5, "sortTeams", "()V"⟩
abbrev cX5_reachOf : ByteArray := prog_1_method_76_code
def yX5_reachOf : MethodName := ⟨RX5, "reachOf", "(I)I"⟩
abbrev cX5_isBeyondOthers : ByteArray := prog_1_method_77_code
def yX5_isBeyondOthers : MethodName := ⟨RX5, "isBeyondOthers", "(I)Z"⟩
abbrev cX5_isBehindAnother : ByteArray := prog_1_method_78_code
def yX5_isBehindAnother : MethodName := ⟨RX5, "isBehindAnother", "(I)Z"⟩
abbrev cX5_allPoints : ByteArray := prog_1_method_79_code
def yX5_allPoints : MethodName := ⟨RX5, "allPoints", "()I"⟩
abbrev cX5_at : ByteArray := prog_1_method_80_code
def yX5_at : MethodName := ⟨RX5, "at", "([II)I"⟩
abbrev cX5_put : ByteArray := prog_1_method_81_code
def yX5_put : MethodName := ⟨RX5, "put", "([III)V"⟩
abbrev cX5_raise : ByteArray := prog_1_method_82_code
def yX5_raise : MethodName := ⟨RX5, "raise", "([III)V"⟩
abbrev cX5_copyRow : ByteArray := prog_1_method_83_code
def yX5_copyRow : MethodName := ⟨RX5, "copyRow", "([I[I)V"⟩
abbrev cX5_fillRow : ByteArray := prog_1_method_84_code
def yX5_fillRow : MethodName := ⟨RX5, "fillRow", "([II)V"⟩
def RX6 : String := "LeagueTablesModel"
def TX6 : u_T := fun k => match k with
  | _ => ("", "", "", false)
def tyX6 : Nat → FieldType := fun k => match k with
  | _ => .int
abbrev wsX60 : List Cond := u_ws RX6 TX6 0
theorem nmX6 : ∀ a, a < 0 → ∀ b, b < 0 → a ≠ b → (TX6 a).2.1 ≠ (TX6 b).2.1 := by decide +kernel
theorem tyX6_ok : ∀ k, k < 0 → parseFieldDescriptor (TX6 k).2.2.1 = some (tyX6 k) := by decide +kernel
def RJx145de : String := "java/io/Serializable"
def TJx145de : u_T := fun k => match k with
  | _ => ("", "", "", false)
def tyJx145de : Nat → FieldType := fun k => match k with
  | _ => .int
abbrev wsJx145de0 : List Cond := u_ws RJx145de TJx145de 0
theorem nmJx145de : ∀ a, a < 0 → ∀ b, b < 0 → a ≠ b → (TJx145de a).2.1 ≠ (TJx145de b).2.1 := by decide +kernel
theorem tyJx145de_ok : ∀ k, k < 0 → parseFieldDescriptor (TJx145de k).2.2.1 = some (tyJx145de k) := by decide +kernel
def RJ5 : String := "java/lang/AbstractStringBuilder"
def TJ5 : u_T := fun k => match k with
  | _ => ("", "", "", false)
def tyJ5 : Nat → FieldType := fun k => match k with
  | _ => .int
abbrev wsJ50 : List Cond := u_ws RJ5 TJ5 0
theorem nmJ5 : ∀ a, a < 0 → ∀ b, b < 0 → a ≠ b → (TJ5 a).2.1 ≠ (TJ5 b).2.1 := by decide +kernel
theorem tyJ5_ok : ∀ k, k < 0 → parseFieldDescriptor (TJ5 k).2.2.1 = some (tyJ5 k) := by decide +kernel
abbrev cJ5_init_d00df : ByteArray := prog_10_method_2_code
def yJ5_init_d00df : MethodName := ⟨RJ5, "<init>", "(I)V"⟩
abbrev cJ5_length_8abf5 : ByteArray := prog_10_method_6_code
def yJ5_length_8abf5 : MethodName := ⟨RJ5, "length", "()I"⟩
abbrev cJ5_ensureCapacityInternal_d00df : ByteArray := prog_10_method_9_code
def yJ5_ensureCapacityInternal_d00df : MethodName := ⟨RJ5, "ensureCapacityInternal", "(I)V"⟩
abbrev cJ5_newCapacity_0f7a4 : ByteArray := prog_10_method_10_code
def yJ5_newCapacity_0f7a4 : MethodName := ⟨RJ5, "newCapacity", "(I)I"⟩
abbrev cJ5_inflate_da8c8 : ByteArray := prog_10_method_11_code
def yJ5_inflate_da8c8 : MethodName := ⟨RJ5, "inflate", "()V"⟩
abbrev cJ5_setLength_d00df : ByteArray := prog_10_method_13_code
def yJ5_setLength_d00df : MethodName := ⟨RJ5, "setLength", "(I)V"⟩
abbrev cJ5_charAt_5068e : ByteArray := prog_10_method_14_code
def yJ5_charAt_5068e : MethodName := ⟨RJ5, "charAt", "(I)C"⟩
abbrev cJ5_append_cf1ce : ByteArray := prog_10_method_22_code
def yJ5_append_cf1ce : MethodName := ⟨RJ5, "append", "(Ljava/lang/String;)Ljava/lang/AbstractStringBuilder;"⟩
abbrev cJ5_appendNull_278bc : ByteArray := prog_10_method_26_code
def yJ5_appendNull_278bc : MethodName := ⟨RJ5, "appendNull", "()Ljava/lang/AbstractStringBuilder;"⟩
abbrev cJ5_append_3fe6f : ByteArray := prog_10_method_31_code
def yJ5_append_3fe6f : MethodName := ⟨RJ5, "append", "(C)Ljava/lang/AbstractStringBuilder;"⟩
abbrev cJ5_append_c97b9 : ByteArray := prog_10_method_32_code
def yJ5_append_c97b9 : MethodName := ⟨RJ5, "append", "(I)Ljava/lang/AbstractStringBuilder;"⟩
abbrev cJ5_getValue_6d5f1 : ByteArray := prog_10_method_64_code
def yJ5_getValue_6d5f1 : MethodName := ⟨RJ5, "getValue", "()[B"⟩
abbrev cJ5_isLatin1_aae02 : ByteArray := prog_10_method_68_code
def yJ5_isLatin1_aae02 : MethodName := ⟨RJ5, "isLatin1", "()Z"⟩
abbrev cJ5_inflateIfNeededFor_a7421 : ByteArray := prog_10_method_71_code
def yJ5_inflateIfNeededFor_a7421 : MethodName := ⟨RJ5, "inflateIfNeededFor", "(Ljava/lang/String;)V"⟩
abbrev cJ5_putStringAt_47b60 : ByteArray := prog_10_method_73_code
def yJ5_putStringAt_47b60 : MethodName := ⟨RJ5, "putStringAt", "(ILjava/lang/String;)V"⟩
def RJx2cfe8 : String := "java/lang/Appendable"
def TJx2cfe8 : u_T := fun k => match k with
  | _ => ("", "", "", false)
def tyJx2cfe8 : Nat → FieldType := fun k => match k with
  | _ => .int
abbrev wsJx2cfe80 : List Cond := u_ws RJx2cfe8 TJx2cfe8 0
theorem nmJx2cfe8 : ∀ a, a < 0 → ∀ b, b < 0 → a ≠ b → (TJx2cfe8 a).2.1 ≠ (TJx2cfe8 b).2.1 := by decide +kernel
theorem tyJx2cfe8_ok : ∀ k, k < 0 → parseFieldDescriptor (TJx2cfe8 k).2.2.1 = some (tyJx2cfe8 k) := by decide +kernel
def RJx00060 : String := "java/lang/ArrayIndexOutOfBoundsException"
def TJx00060 : u_T := fun k => match k with
  | 0 => ("java/lang/Throwable", "backtrace", "Ljava/lang/Object;", false)
  | 1 => ("java/lang/Throwable", "detailMessage", "Ljava/lang/String;", false)
  | 2 => ("java/lang/Throwable", "cause", "Ljava/lang/Throwable;", false)
  | 3 => ("java/lang/Throwable", "stackTrace", "[Ljava/lang/StackTraceElement;", false)
  | 4 => ("java/lang/Throwable", "depth", "I", false)
  | _ => ("java/lang/Throwable", "suppressedExceptions", "Ljava/util/List;", false)
def tyJx00060 : Nat → FieldType := fun k => match k with
  | 0 => .object "java/lang/Object"
  | 1 => .object "java/lang/String"
  | 2 => .object "java/lang/Throwable"
  | 3 => .array (.object "java/lang/StackTraceElement")
  | 4 => .int
  | _ => .object "java/util/List"
abbrev wsJx000600 : List Cond := u_ws RJx00060 TJx00060 6
theorem nmJx00060 : ∀ a, a < 6 → ∀ b, b < 6 → a ≠ b → (TJx00060 a).2.1 ≠ (TJx00060 b).2.1 := by decide +kernel
theorem tyJx00060_ok : ∀ k, k < 6 → parseFieldDescriptor (TJx00060 k).2.2.1 = some (tyJx00060 k) := by decide +kernel
abbrev cJx00060_init_a7421 : ByteArray := prog_13_method_2_code
def yJx00060_init_a7421 : MethodName := ⟨RJx00060, "<init>", "(Ljava/lang/String;)V"⟩
abbrev cJx00060_init_d00df : ByteArray := prog_13_method_3_code
def yJx00060_init_d00df : MethodName := ⟨RJx00060, "<init>", "(I)V"⟩
def RJx9f9b0 : String := "java/lang/CharSequence"
def TJx9f9b0 : u_T := fun k => match k with
  | _ => ("", "", "", false)
def tyJx9f9b0 : Nat → FieldType := fun k => match k with
  | _ => .int
abbrev wsJx9f9b00 : List Cond := u_ws RJx9f9b0 TJx9f9b0 0
theorem nmJx9f9b0 : ∀ a, a < 0 → ∀ b, b < 0 → a ≠ b → (TJx9f9b0 a).2.1 ≠ (TJx9f9b0 b).2.1 := by decide +kernel
theorem tyJx9f9b0_ok : ∀ k, k < 0 → parseFieldDescriptor (TJx9f9b0 k).2.2.1 = some (tyJx9f9b0 k) := by decide +kernel
def RJx8e188 : String := "java/lang/Cloneable"
def TJx8e188 : u_T := fun k => match k with
  | _ => ("", "", "", false)
def tyJx8e188 : Nat → FieldType := fun k => match k with
  | _ => .int
abbrev wsJx8e1880 : List Cond := u_ws RJx8e188 TJx8e188 0
theorem nmJx8e188 : ∀ a, a < 0 → ∀ b, b < 0 → a ≠ b → (TJx8e188 a).2.1 ≠ (TJx8e188 b).2.1 := by decide +kernel
theorem tyJx8e188_ok : ∀ k, k < 0 → parseFieldDescriptor (TJx8e188 k).2.2.1 = some (tyJx8e188 k) := by decide +kernel
def RJxb160c : String := "java/lang/Comparable"
def TJxb160c : u_T := fun k => match k with
  | _ => ("", "", "", false)
def tyJxb160c : Nat → FieldType := fun k => match k with
  | _ => .int
abbrev wsJxb160c0 : List Cond := u_ws RJxb160c TJxb160c 0
theorem nmJxb160c : ∀ a, a < 0 → ∀ b, b < 0 → a ≠ b → (TJxb160c a).2.1 ≠ (TJxb160c b).2.1 := by decide +kernel
theorem tyJxb160c_ok : ∀ k, k < 0 → parseFieldDescriptor (TJxb160c k).2.2.1 = some (tyJxb160c k) := by decide +kernel
def RJxe99ae : String := "java/lang/Double"
def TJxe99ae : u_T := fun k => match k with
  | _ => ("", "", "", false)
def tyJxe99ae : Nat → FieldType := fun k => match k with
  | _ => .int
abbrev wsJxe99ae0 : List Cond := u_ws RJxe99ae TJxe99ae 0
theorem nmJxe99ae : ∀ a, a < 0 → ∀ b, b < 0 → a ≠ b → (TJxe99ae a).2.1 ≠ (TJxe99ae b).2.1 := by decide +kernel
theorem tyJxe99ae_ok : ∀ k, k < 0 → parseFieldDescriptor (TJxe99ae k).2.2.1 = some (tyJxe99ae k) := by decide +kernel
abbrev cJxe99ae_isNaN_b9ae7 : ByteArray := prog_17_method_6_code
def yJxe99ae_isNaN_b9ae7 : MethodName := ⟨RJxe99ae, "isNaN", "(D)Z"⟩
abbrev cJxe99ae_doubleToLongBits_ccdee : ByteArray := prog_17_method_23_code
def yJxe99ae_doubleToLongBits_ccdee : MethodName := ⟨RJxe99ae, "doubleToLongBits", "(D)J"⟩
def RJxf58ca : String := "java/lang/Float"
def TJxf58ca : u_T := fun k => match k with
  | _ => ("", "", "", false)
def tyJxf58ca : Nat → FieldType := fun k => match k with
  | _ => .int
abbrev wsJxf58ca0 : List Cond := u_ws RJxf58ca TJxf58ca 0
theorem nmJxf58ca : ∀ a, a < 0 → ∀ b, b < 0 → a ≠ b → (TJxf58ca a).2.1 ≠ (TJxf58ca b).2.1 := by decide +kernel
theorem tyJxf58ca_ok : ∀ k, k < 0 → parseFieldDescriptor (TJxf58ca k).2.2.1 = some (tyJxf58ca k) := by decide +kernel
abbrev cJxf58ca_isNaN_12338 : ByteArray := prog_19_method_6_code
def yJxf58ca_isNaN_12338 : MethodName := ⟨RJxf58ca, "isNaN", "(F)Z"⟩
abbrev cJxf58ca_floatToIntBits_5c35a : ByteArray := prog_19_method_24_code
def yJxf58ca_floatToIntBits_5c35a : MethodName := ⟨RJxf58ca, "floatToIntBits", "(F)I"⟩
def RJ6 : String := "java/lang/Integer"
def TJ6 : u_T := fun k => match k with
  | _ => ("", "", "", false)
def tyJ6 : Nat → FieldType := fun k => match k with
  | _ => .int
abbrev wsJ60 : List Cond := u_ws RJ6 TJ6 0
theorem nmJ6 : ∀ a, a < 0 → ∀ b, b < 0 → a ≠ b → (TJ6 a).2.1 ≠ (TJ6 b).2.1 := by decide +kernel
theorem tyJ6_ok : ∀ k, k < 0 → parseFieldDescriptor (TJ6 k).2.2.1 = some (tyJ6 k) := by decide +kernel
abbrev cJ6_getChars_ba4f3 : ByteArray := prog_23_method_12_code
def yJ6_getChars_ba4f3 : MethodName := ⟨RJ6, "getChars", "(II[B)I"⟩
abbrev cJ6_stringSize_0f7a4 : ByteArray := prog_23_method_13_code
def yJ6_stringSize_0f7a4 : MethodName := ⟨RJ6, "stringSize", "(I)I"⟩
def RJ9 : String := "java/lang/Math"
def TJ9 : u_T := fun k => match k with
  | _ => ("", "", "", false)
def tyJ9 : Nat → FieldType := fun k => match k with
  | _ => .int
abbrev wsJ90 : List Cond := u_ws RJ9 TJ9 0
theorem nmJ9 : ∀ a, a < 0 → ∀ b, b < 0 → a ≠ b → (TJ9 a).2.1 ≠ (TJ9 b).2.1 := by decide +kernel
theorem tyJ9_ok : ∀ k, k < 0 → parseFieldDescriptor (TJ9 k).2.2.1 = some (tyJ9 k) := by decide +kernel
abbrev cJ9_max_7cf53 : ByteArray := prog_24_method_65_code
def yJ9_max_7cf53 : MethodName := ⟨RJ9, "max", "(II)I"⟩
abbrev cJ9_min_7cf53 : ByteArray := prog_24_method_69_code
def yJ9_min_7cf53 : MethodName := ⟨RJ9, "min", "(II)I"⟩
def RJxd2413 : String := "java/lang/Number"
def TJxd2413 : u_T := fun k => match k with
  | _ => ("", "", "", false)
def tyJxd2413 : Nat → FieldType := fun k => match k with
  | _ => .int
abbrev wsJxd24130 : List Cond := u_ws RJxd2413 TJxd2413 0
theorem nmJxd2413 : ∀ a, a < 0 → ∀ b, b < 0 → a ≠ b → (TJxd2413 a).2.1 ≠ (TJxd2413 b).2.1 := by decide +kernel
theorem tyJxd2413_ok : ∀ k, k < 0 → parseFieldDescriptor (TJxd2413 k).2.2.1 = some (tyJxd2413 k) := by decide +kernel
def RJ0 : String := "java/lang/String"
def TJ0 : u_T := fun k => match k with
  | 0 => ("java/lang/String", "value", "[B", true)
  | 1 => ("java/lang/String", "coder", "B", true)
  | 2 => ("java/lang/String", "hash", "I", false)
  | _ => ("java/lang/String", "hashIsZero", "Z", false)
def tyJ0 : Nat → FieldType := fun k => match k with
  | 0 => .array .byte
  | 1 => .byte
  | 2 => .int
  | _ => .boolean
abbrev wsJ00 : List Cond := u_ws RJ0 TJ0 4
theorem nmJ0 : ∀ a, a < 4 → ∀ b, b < 4 → a ≠ b → (TJ0 a).2.1 ≠ (TJ0 b).2.1 := by decide +kernel
theorem tyJ0_ok : ∀ k, k < 4 → parseFieldDescriptor (TJ0 k).2.2.1 = some (tyJ0 k) := by decide +kernel
abbrev cJ0_init_81219 : ByteArray := prog_27_method_53_code
def yJ0_init_81219 : MethodName := ⟨RJ0, "<init>", "(Ljava/lang/StringBuilder;)V"⟩
abbrev cJ0_length_8abf5 : ByteArray := prog_27_method_54_code
def yJ0_length_8abf5 : MethodName := ⟨RJ0, "length", "()I"⟩
abbrev cJ0_charAt_5068e : ByteArray := prog_27_method_56_code
def yJ0_charAt_5068e : MethodName := ⟨RJ0, "charAt", "(I)C"⟩
abbrev cJ0_getBytes_840e7 : ByteArray := prog_27_method_147_code
def yJ0_getBytes_840e7 : MethodName := ⟨RJ0, "getBytes", "([BIB)V"⟩
abbrev cJ0_init_db425 : ByteArray := prog_27_method_150_code
def yJ0_init_db425 : MethodName := ⟨RJ0, "<init>", "(Ljava/lang/AbstractStringBuilder;Ljava/lang/Void;)V"⟩
abbrev cJ0_coder_7d493 : ByteArray := prog_27_method_152_code
def yJ0_coder_7d493 : MethodName := ⟨RJ0, "coder", "()B"⟩
abbrev cJ0_isLatin1_aae02 : ByteArray := prog_27_method_154_code
def yJ0_isLatin1_aae02 : MethodName := ⟨RJ0, "isLatin1", "()Z"⟩
abbrev cJ0_checkIndex_df160 : ByteArray := prog_27_method_155_code
def yJ0_checkIndex_df160 : MethodName := ⟨RJ0, "checkIndex", "(II)V"⟩
abbrev cJ0_checkBoundsOffCount_cabcc : ByteArray := prog_27_method_157_code
def yJ0_checkBoundsOffCount_cabcc : MethodName := ⟨RJ0, "checkBoundsOffCount", "(III)I"⟩
abbrev cJ0_checkBoundsBeginEnd_23922 : ByteArray := prog_27_method_158_code
def yJ0_checkBoundsBeginEnd_23922 : MethodName := ⟨RJ0, "checkBoundsBeginEnd", "(III)V"⟩
def RJ4 : String := "java/lang/StringBuilder"
def TJ4 : u_T := fun k => match k with
  | 0 => ("java/lang/AbstractStringBuilder", "value", "[B", false)
  | 1 => ("java/lang/AbstractStringBuilder", "coder", "B", false)
  | 2 => ("java/lang/AbstractStringBuilder", "maybeLatin1", "Z", false)
  | _ => ("java/lang/AbstractStringBuilder", "count", "I", false)
def tyJ4 : Nat → FieldType := fun k => match k with
  | 0 => .array .byte
  | 1 => .byte
  | 2 => .boolean
  | _ => .int
abbrev wsJ40 : List Cond := u_ws RJ4 TJ4 4
theorem nmJ4 : ∀ a, a < 4 → ∀ b, b < 4 → a ≠ b → (TJ4 a).2.1 ≠ (TJ4 b).2.1 := by decide +kernel
theorem tyJ4_ok : ∀ k, k < 4 → parseFieldDescriptor (TJ4 k).2.2.1 = some (tyJ4 k) := by decide +kernel
abbrev cJ4_init_da8c8 : ByteArray := prog_28_method_1_code
def yJ4_init_da8c8 : MethodName := ⟨RJ4, "<init>", "()V"⟩
abbrev cJ4_append_15ec4 : ByteArray := prog_28_method_7_code
def yJ4_append_15ec4 : MethodName := ⟨RJ4, "append", "(Ljava/lang/String;)Ljava/lang/StringBuilder;"⟩
abbrev cJ4_append_cf468 : ByteArray := prog_28_method_14_code
def yJ4_append_cf468 : MethodName := ⟨RJ4, "append", "(C)Ljava/lang/StringBuilder;"⟩
abbrev cJ4_append_bf812 : ByteArray := prog_28_method_15_code
def yJ4_append_bf812 : MethodName := ⟨RJ4, "append", "(I)Ljava/lang/StringBuilder;"⟩
abbrev cJ4_toString_0e30d : ByteArray := prog_28_method_42_code
def yJ4_toString_0e30d : MethodName := ⟨RJ4, "toString", "()Ljava/lang/String;"⟩
abbrev cJ4_charAt_5068e : ByteArray := prog_28_method_88_code
def yJ4_charAt_5068e : MethodName := ⟨RJ4, "charAt", "(I)C"⟩
abbrev cJ4_setLength_d00df : ByteArray := prog_28_method_89_code
def yJ4_setLength_d00df : MethodName := ⟨RJ4, "setLength", "(I)V"⟩
abbrev cJ4_length_8abf5 : ByteArray := prog_28_method_93_code
def yJ4_length_8abf5 : MethodName := ⟨RJ4, "length", "()I"⟩
def RJx7c733 : String := "java/lang/StringIndexOutOfBoundsException"
def TJx7c733 : u_T := fun k => match k with
  | 0 => ("java/lang/Throwable", "backtrace", "Ljava/lang/Object;", false)
  | 1 => ("java/lang/Throwable", "detailMessage", "Ljava/lang/String;", false)
  | 2 => ("java/lang/Throwable", "cause", "Ljava/lang/Throwable;", false)
  | 3 => ("java/lang/Throwable", "stackTrace", "[Ljava/lang/StackTraceElement;", false)
  | 4 => ("java/lang/Throwable", "depth", "I", false)
  | _ => ("java/lang/Throwable", "suppressedExceptions", "Ljava/util/List;", false)
def tyJx7c733 : Nat → FieldType := fun k => match k with
  | 0 => .object "java/lang/Object"
  | 1 => .object "java/lang/String"
  | 2 => .object "java/lang/Throwable"
  | 3 => .array (.object "java/lang/StackTraceElement")
  | 4 => .int
  | _ => .object "java/util/List"
abbrev wsJx7c7330 : List Cond := u_ws RJx7c733 TJx7c733 6
theorem nmJx7c733 : ∀ a, a < 6 → ∀ b, b < 6 → a ≠ b → (TJx7c733 a).2.1 ≠ (TJx7c733 b).2.1 := by decide +kernel
theorem tyJx7c733_ok : ∀ k, k < 6 → parseFieldDescriptor (TJx7c733 k).2.2.1 = some (tyJx7c733 k) := by decide +kernel
abbrev cJx7c733_init_d00df : ByteArray := prog_29_method_3_code
def yJx7c733_init_d00df : MethodName := ⟨RJx7c733, "<init>", "(I)V"⟩
def RJ1 : String := "java/lang/StringLatin1"
def TJ1 : u_T := fun k => match k with
  | _ => ("", "", "", false)
def tyJ1 : Nat → FieldType := fun k => match k with
  | _ => .int
abbrev wsJ10 : List Cond := u_ws RJ1 TJ1 0
theorem nmJ1 : ∀ a, a < 0 → ∀ b, b < 0 → a ≠ b → (TJ1 a).2.1 ≠ (TJ1 b).2.1 := by decide +kernel
theorem tyJ1_ok : ∀ k, k < 0 → parseFieldDescriptor (TJ1 k).2.2.1 = some (tyJ1 k) := by decide +kernel
abbrev cJ1_charAt_3b067 : ByteArray := prog_30_method_2_code
def yJ1_charAt_3b067 : MethodName := ⟨RJ1, "charAt", "([BI)C"⟩
abbrev cJ1_canEncode_fc78d : ByteArray := prog_30_method_3_code
def yJ1_canEncode_fc78d : MethodName := ⟨RJ1, "canEncode", "(C)Z"⟩
abbrev cJ1_fillNull_b72d1 : ByteArray := prog_30_method_48_code
def yJ1_fillNull_b72d1 : MethodName := ⟨RJ1, "fillNull", "([BII)V"⟩
abbrev cJ1_inflate_0e8fd : ByteArray := prog_30_method_50_code
def yJ1_inflate_0e8fd : MethodName := ⟨RJ1, "inflate", "([BI[BII)V"⟩
def RJ2 : String := "java/lang/StringUTF16"
def TJ2 : u_T := fun k => match k with
  | _ => ("", "", "", false)
def tyJ2 : Nat → FieldType := fun k => match k with
  | _ => .int
abbrev wsJ20 : List Cond := u_ws RJ2 TJ2 0
theorem nmJ2 : ∀ a, a < 0 → ∀ b, b < 0 → a ≠ b → (TJ2 a).2.1 ≠ (TJ2 b).2.1 := by decide +kernel
theorem tyJ2_ok : ∀ k, k < 0 → parseFieldDescriptor (TJ2 k).2.2.1 = some (tyJ2 k) := by decide +kernel
abbrev cJ2_newBytesFor_77867 : ByteArray := prog_31_method_2_code
def yJ2_newBytesFor_77867 : MethodName := ⟨RJ2, "newBytesFor", "(I)[B"⟩
abbrev cJ2_newBytesLength_0f7a4 : ByteArray := prog_31_method_3_code
def yJ2_newBytesLength_0f7a4 : MethodName := ⟨RJ2, "newBytesLength", "(I)I"⟩
abbrev cJ2_putChar_b72d1 : ByteArray := prog_31_method_4_code
def yJ2_putChar_b72d1 : MethodName := ⟨RJ2, "putChar", "([BII)V"⟩
abbrev cJ2_getChar_3b067 : ByteArray := prog_31_method_5_code
def yJ2_getChar_3b067 : MethodName := ⟨RJ2, "getChar", "([BI)C"⟩
abbrev cJ2_length_9d52b : ByteArray := prog_31_method_6_code
def yJ2_length_9d52b : MethodName := ⟨RJ2, "length", "([B)I"⟩
abbrev cJ2_coderFromArrayLen_85cad : ByteArray := prog_31_method_15_code
def yJ2_coderFromArrayLen_85cad : MethodName := ⟨RJ2, "coderFromArrayLen", "([BI)B"⟩
abbrev cJ2_compress_39247 : ByteArray := prog_31_method_17_code
def yJ2_compress_39247 : MethodName := ⟨RJ2, "compress", "([BII)[B"⟩
abbrev cJ2_compress_5af95 : ByteArray := prog_31_method_22_code
def yJ2_compress_5af95 : MethodName := ⟨RJ2, "compress", "([BI[BII)I"⟩
abbrev cJ2_fillNull_b72d1 : ByteArray := prog_31_method_70_code
def yJ2_fillNull_b72d1 : MethodName := ⟨RJ2, "fillNull", "([BII)V"⟩
abbrev cJ2_putCharSB_b72d1 : ByteArray := prog_31_method_71_code
def yJ2_putCharSB_b72d1 : MethodName := ⟨RJ2, "putCharSB", "([BII)V"⟩
abbrev cJ2_getChars_46870 : ByteArray := prog_31_method_77_code
def yJ2_getChars_46870 : MethodName := ⟨RJ2, "getChars", "(III[B)I"⟩
abbrev cJ2_putCharsAt_cd4e5 : ByteArray := prog_31_method_81_code
def yJ2_putCharsAt_cd4e5 : MethodName := ⟨RJ2, "putCharsAt", "([BICCCC)I"⟩
abbrev cJ2_charAt_3b067 : ByteArray := prog_31_method_83_code
def yJ2_charAt_3b067 : MethodName := ⟨RJ2, "charAt", "([BI)C"⟩
abbrev cJ2_inflate_0e8fd : ByteArray := prog_31_method_86_code
def yJ2_inflate_0e8fd : MethodName := ⟨RJ2, "inflate", "([BI[BII)V"⟩
abbrev cJ2_getChars_ba4f3 : ByteArray := prog_31_method_89_code
def yJ2_getChars_ba4f3 : MethodName := ⟨RJ2, "getChars", "(II[B)I"⟩
abbrev cJ2_checkIndex_2214a : ByteArray := prog_31_method_91_code
def yJ2_checkIndex_2214a : MethodName := ⟨RJ2, "checkIndex", "(I[B)V"⟩
abbrev cJ2_checkBoundsBeginEnd_d044e : ByteArray := prog_31_method_93_code
def yJ2_checkBoundsBeginEnd_d044e : MethodName := ⟨RJ2, "checkBoundsBeginEnd", "(II[B)V"⟩
abbrev cJ2_checkBoundsOffCount_d044e : ByteArray := prog_31_method_94_code
def yJ2_checkBoundsOffCount_d044e : MethodName := ⟨RJ2, "checkBoundsOffCount", "(II[B)V"⟩
def RJ10 : String := "java/lang/System"
def TJ10 : u_T := fun k => match k with
  | _ => ("", "", "", false)
def tyJ10 : Nat → FieldType := fun k => match k with
  | _ => .int
abbrev wsJ100 : List Cond := u_ws RJ10 TJ10 0
theorem nmJ10 : ∀ a, a < 0 → ∀ b, b < 0 → a ≠ b → (TJ10 a).2.1 ≠ (TJ10 b).2.1 := by decide +kernel
theorem tyJ10_ok : ∀ k, k < 0 → parseFieldDescriptor (TJ10 k).2.2.1 = some (tyJ10 k) := by decide +kernel
def RJxfd54e : String := "java/lang/constant/Constable"
def TJxfd54e : u_T := fun k => match k with
  | _ => ("", "", "", false)
def tyJxfd54e : Nat → FieldType := fun k => match k with
  | _ => .int
abbrev wsJxfd54e0 : List Cond := u_ws RJxfd54e TJxfd54e 0
theorem nmJxfd54e : ∀ a, a < 0 → ∀ b, b < 0 → a ≠ b → (TJxfd54e a).2.1 ≠ (TJxfd54e b).2.1 := by decide +kernel
theorem tyJxfd54e_ok : ∀ k, k < 0 → parseFieldDescriptor (TJxfd54e k).2.2.1 = some (tyJxfd54e k) := by decide +kernel
def RJx3cf43 : String := "java/lang/constant/ConstantDesc"
def TJx3cf43 : u_T := fun k => match k with
  | _ => ("", "", "", false)
def tyJx3cf43 : Nat → FieldType := fun k => match k with
  | _ => .int
abbrev wsJx3cf430 : List Cond := u_ws RJx3cf43 TJx3cf43 0
theorem nmJx3cf43 : ∀ a, a < 0 → ∀ b, b < 0 → a ≠ b → (TJx3cf43 a).2.1 ≠ (TJx3cf43 b).2.1 := by decide +kernel
theorem tyJx3cf43_ok : ∀ k, k < 0 → parseFieldDescriptor (TJx3cf43 k).2.2.1 = some (tyJx3cf43 k) := by decide +kernel
def RJ7 : String := "java/util/Arrays"
def TJ7 : u_T := fun k => match k with
  | _ => ("", "", "", false)
def tyJ7 : Nat → FieldType := fun k => match k with
  | _ => .int
abbrev wsJ70 : List Cond := u_ws RJ7 TJ7 0
theorem nmJ7 : ∀ a, a < 0 → ∀ b, b < 0 → a ≠ b → (TJ7 a).2.1 ≠ (TJ7 b).2.1 := by decide +kernel
theorem tyJ7_ok : ∀ k, k < 0 → parseFieldDescriptor (TJ7 k).2.2.1 = some (tyJ7 k) := by decide +kernel
abbrev cJ7_rangeCheck_23922 : ByteArray := prog_37_method_30_code
def yJ7_rangeCheck_23922 : MethodName := ⟨RJ7, "rangeCheck", "(III)V"⟩
abbrev cJ7_fill_eb02e : ByteArray := prog_37_method_110_code
def yJ7_fill_eb02e : MethodName := ⟨RJ7, "fill", "([BIIB)V"⟩
abbrev cJ7_copyOf_9075b : ByteArray := prog_37_method_121_code
def yJ7_copyOf_9075b : MethodName := ⟨RJ7, "copyOf", "([BI)[B"⟩
abbrev cJ7_checkLength_df160 : ByteArray := prog_37_method_131_code
def yJ7_checkLength_df160 : MethodName := ⟨RJ7, "checkLength", "(II)V"⟩
abbrev cJ7_copyOfRange_39247 : ByteArray := prog_37_method_132_code
def yJ7_copyOfRange_39247 : MethodName := ⟨RJ7, "copyOfRange", "([BII)[B"⟩
abbrev cJ7_copyOfRangeByte_39247 : ByteArray := prog_37_method_133_code
def yJ7_copyOfRangeByte_39247 : MethodName := ⟨RJ7, "copyOfRangeByte", "([BII)[B"⟩
def RJ8 : String := "jdk/internal/util/ArraysSupport"
def TJ8 : u_T := fun k => match k with
  | _ => ("", "", "", false)
def tyJ8 : Nat → FieldType := fun k => match k with
  | _ => .int
abbrev wsJ80 : List Cond := u_ws RJ8 TJ8 0
theorem nmJ8 : ∀ a, a < 0 → ∀ b, b < 0 → a ≠ b → (TJ8 a).2.1 ≠ (TJ8 b).2.1 := by decide +kernel
theorem tyJ8_ok : ∀ k, k < 0 → parseFieldDescriptor (TJ8 k).2.2.1 = some (tyJ8 k) := by decide +kernel
abbrev cJ8_newLength_cabcc : ByteArray := prog_39_method_27_code
def yJ8_newLength_cabcc : MethodName := ⟨RJ8, "newLength", "(III)I"⟩
abbrev cJ8_hugeLength_7cf53 : ByteArray := prog_39_method_28_code
def yJ8_hugeLength_7cf53 : MethodName := ⟨RJ8, "hugeLength", "(II)I"⟩
def RJ3 : String := "jdk/internal/util/Preconditions"
def TJ3 : u_T := fun k => match k with
  | _ => ("", "", "", false)
def tyJ3 : Nat → FieldType := fun k => match k with
  | _ => .int
abbrev wsJ30 : List Cond := u_ws RJ3 TJ3 0
theorem nmJ3 : ∀ a, a < 0 → ∀ b, b < 0 → a ≠ b → (TJ3 a).2.1 ≠ (TJ3 b).2.1 := by decide +kernel
theorem tyJ3_ok : ∀ k, k < 0 → parseFieldDescriptor (TJ3 k).2.2.1 = some (tyJ3 k) := by decide +kernel
abbrev cJ3_checkIndex_8e157 : ByteArray := prog_40_method_11_code
def yJ3_checkIndex_8e157 : MethodName := ⟨RJ3, "checkIndex", "(IILjava/util/function/BiFunction;)I"⟩
abbrev cJ3_checkFromToIndex_8c36e : ByteArray := prog_40_method_12_code
def yJ3_checkFromToIndex_8c36e : MethodName := ⟨RJ3, "checkFromToIndex", "(IIILjava/util/function/BiFunction;)I"⟩
abbrev cJ3_checkFromIndexSize_8c36e : ByteArray := prog_40_method_13_code
def yJ3_checkFromIndexSize_8c36e : MethodName := ⟨RJ3, "checkFromIndexSize", "(IIILjava/util/function/BiFunction;)I"⟩
def RL : String := "LeagueTablesLaw"
abbrev cL_at : ByteArray := method_2_code
def yL_at : MethodName := ⟨RL, "at", "([II)I"⟩
abbrev cL_some : ByteArray := method_3_code
def yL_some : MethodName := ⟨RL, "some", "(II)I"⟩
abbrev cL_team : ByteArray := method_4_code
def yL_team : MethodName := ⟨RL, "team", "(LLeagueTables;I)I"⟩
abbrev cL_ground : ByteArray := method_5_code
def yL_ground : MethodName := ⟨RL, "ground", "(LLeagueTables;II)I"⟩
abbrev cL_draw : ByteArray := method_6_code
def yL_draw : MethodName := ⟨RL, "draw", "(LLeagueTables;)I"⟩
abbrev cL_give : ByteArray := method_7_code
def yL_give : MethodName := ⟨RL, "give", "(LLeagueTables;II)I"⟩
abbrev cL_rules : ByteArray := method_8_code
def yL_rules : MethodName := ⟨RL, "rules", "(LLeagueTables;III)I"⟩
abbrev cL_result : ByteArray := method_9_code
def yL_result : MethodName := ⟨RL, "result", "(LLeagueTables;III)I"⟩
abbrev cL_back : ByteArray := method_10_code
def yL_back : MethodName := ⟨RL, "back", "(LLeagueTables;I)I"⟩
abbrev cL_putOff : ByteArray := method_11_code
def yL_putOff : MethodName := ⟨RL, "putOff", "(LLeagueTables;II)I"⟩
abbrev cL_next : ByteArray := method_12_code
def yL_next : MethodName := ⟨RL, "next", "(LLeagueTables;)I"⟩
abbrev cL_teamOf : ByteArray := method_13_code
def yL_teamOf : MethodName := ⟨RL, "teamOf", "(LLeagueTables;II)I"⟩
abbrev cL_pointsAgain : ByteArray := method_14_code
def yL_pointsAgain : MethodName := ⟨RL, "pointsAgain", "(LLeagueTables;I)I"⟩
abbrev cL_meetingOf : ByteArray := method_15_code
def yL_meetingOf : MethodName := ⟨RL, "meetingOf", "(LLeagueTables;II)I"⟩
abbrev cL_find : ByteArray := method_16_code
def yL_find : MethodName := ⟨RL, "find", "(LLeagueTables;II)I"⟩
abbrev cL_byeIn : ByteArray := method_17_code
def yL_byeIn : MethodName := ⟨RL, "byeIn", "(LLeagueTables;I)I"⟩
abbrev cL_meetingsIn : ByteArray := method_18_code
def yL_meetingsIn : MethodName := ⟨RL, "meetingsIn", "(LLeagueTables;I)I"⟩
abbrev cL_clashes : ByteArray := method_19_code
def yL_clashes : MethodName := ⟨RL, "clashes", "(LLeagueTables;I)I"⟩
abbrev cL_freeWeek : ByteArray := method_20_code
def yL_freeWeek : MethodName := ⟨RL, "freeWeek", "(LLeagueTables;I)I"⟩
abbrev cL_ranked : ByteArray := method_21_code
def yL_ranked : MethodName := ⟨RL, "ranked", "(LLeagueTables;I)I"⟩
abbrev cL_placeOf : ByteArray := method_22_code
def yL_placeOf : MethodName := ⟨RL, "placeOf", "(LLeagueTables;I)I"⟩
abbrev cL_valueOf : ByteArray := method_23_code
def yL_valueOf : MethodName := ⟨RL, "valueOf", "(LLeagueTables;II)I"⟩
abbrev cL_tied : ByteArray := method_24_code
def yL_tied : MethodName := ⟨RL, "tied", "(LLeagueTables;I)I"⟩
abbrev cL_most : ByteArray := method_25_code
def yL_most : MethodName := ⟨RL, "most", "(LLeagueTables;I)I"⟩
abbrev cL_isSafe : ByteArray := method_26_code
def yL_isSafe : MethodName := ⟨RL, "isSafe", "(LLeagueTables;I)I"⟩
abbrev cL_isOut : ByteArray := method_27_code
def yL_isOut : MethodName := ⟨RL, "isOut", "(LLeagueTables;I)I"⟩
abbrev cL_run : ByteArray := method_28_code
def yL_run : MethodName := ⟨RL, "run", "(LLeagueTables;I)I"⟩
abbrev cL_append : ByteArray := method_29_code
def yL_append : MethodName := ⟨RL, "append", "(LLeagueTables;C)I"⟩
abbrev cL_commands : ByteArray := method_30_code
def yL_commands : MethodName := ⟨RL, "commands", "(LLeagueTables;)I"⟩
abbrev cL_reason : ByteArray := method_31_code
def yL_reason : MethodName := ⟨RL, "reason", "(LLeagueTables;I)I"⟩
abbrev cL_line : ByteArray := method_32_code
def yL_line : MethodName := ⟨RL, "line", "(LLeagueTables;I)I"⟩
abbrev cL_character : ByteArray := method_33_code
def yL_character : MethodName := ⟨RL, "character", "(LLeagueTables;I)I"⟩
abbrev cL_meanGoals : ByteArray := method_34_code
def yL_meanGoals : MethodName := ⟨RL, "meanGoals", "(LLeagueTables;)F"⟩
abbrev cL_homeShare : ByteArray := method_35_code
def yL_homeShare : MethodName := ⟨RL, "homeShare", "(LLeagueTables;)D"⟩
abbrev cL_account : ByteArray := method_36_code
def yL_account : MethodName := ⟨RL, "account", "(LLeagueTables;I)I"⟩
abbrev cL_undo : ByteArray := method_37_code
def yL_undo : MethodName := ⟨RL, "undo", "(LLeagueTables;)I"⟩
abbrev cL_restore : ByteArray := method_38_code
def yL_restore : MethodName := ⟨RL, "restore", "(LLeagueTables;)I"⟩
abbrev cL_reads : ByteArray := method_39_code
def yL_reads : MethodName := ⟨RL, "reads", "(LLeagueTables;Ljava/lang/String;)I"⟩
abbrev cL_is : ByteArray := method_40_code
def yL_is : MethodName := ⟨RL, "is", "(LLeagueTables;III)Z"⟩
abbrev cL_makes : ByteArray := method_42_code
def yL_makes : MethodName := ⟨RL, "makes", "(LLeagueTables;[I)Z"⟩
abbrev cL_asks : ByteArray := method_43_code
def yL_asks : MethodName := ⟨RL, "asks", "(LLeagueTables;)J"⟩
abbrev cL_changes : ByteArray := method_44_code
def yL_changes : MethodName := ⟨RL, "changes", "(LLeagueTables;I)Z"⟩
abbrev cL_refused : ByteArray := method_45_code
def yL_refused : MethodName := ⟨RL, "refused", "(LLeagueTables;)Z"⟩
abbrev cL_law : ByteArray := code
def yL_law : MethodName := ⟨RL, "law", "([I)Z"⟩
abbrev vwCl : List vw_C := [(RJ0, TJ0, 4), (RJ4, TJ4, 4), (RJx00060, TJx00060, 6), (RJx7c733, TJx7c733, 6), (RX0, TX0, 7), (RX1, TX1, 3), (RX2, TX2, 11), (RX3, TX3, 12), (RX4, TX4, 8), (RX5, TX5, 14)]
