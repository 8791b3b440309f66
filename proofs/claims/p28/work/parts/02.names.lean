def RX0 : String := "PeatBanks$DayText"
def TX0 : u_T := fun k => match k with
  | 0 => ("PeatBanks$DayText", "characters", "[C", true)
  | 1 => ("PeatBanks$DayText", "length", "I", false)
  | 2 => ("PeatBanks$DayText", "groupWeather", "[I", true)
  | 3 => ("PeatBanks$DayText", "groupDays", "[I", true)
  | _ => ("PeatBanks$DayText", "groups", "I", false)
def tyX0 : Nat → FieldType := fun k => match k with
  | 0 => .array .char
  | 1 => .int
  | 2 => .array .int
  | 3 => .array .int
  | _ => .int
abbrev wsX00 : List Cond := u_ws RX0 TX0 5
theorem nmX0 : ∀ a, a < 5 → ∀ b, b < 5 → a ≠ b → (TX0 a).2.1 ≠ (TX0 b).2.1 := by decide +kernel
theorem tyX0_ok : ∀ k, k < 5 → parseFieldDescriptor (TX0 k).2.2.1 = some (tyX0 k) := by decide +kernel
abbrev cX0_init : ByteArray := prog_2_method_1_code
def yX0_init : MethodName := ⟨RX0, "<init>", "()V"⟩
abbrev cX0_append : ByteArray := prog_2_method_2_code
def yX0_append : MethodName := ⟨RX0, "append", "(C)Z"⟩
abbrev cX0_readGroups : ByteArray := prog_2_method_3_code
def yX0_readGroups : MethodName := ⟨RX0, "readGroups", "()I"⟩
abbrev cX0_openGroup : ByteArray := prog_2_method_4_code
def yX0_openGroup : MethodName := ⟨RX0, "openGroup", "(I)V"⟩
abbrev cX0_isDigit : ByteArray := prog_2_method_5_code
def yX0_isDigit : MethodName := ⟨RX0, "isDigit", "(C)Z"⟩
abbrev cX0_isWeatherLetter : ByteArray := prog_2_method_6_code
def yX0_isWeatherLetter : MethodName := ⟨RX0, "isWeatherLetter", "(C)Z"⟩
abbrev cX0_weatherOf : ByteArray := prog_2_method_7_code
def yX0_weatherOf : MethodName := ⟨RX0, "weatherOf", "(C)I"⟩
def RX1 : String := "PeatBanks$Disputes"
def TX1 : u_T := fun k => match k with
  | 0 => ("PeatBanks$Disputes", "cutter", "[I", true)
  | 1 => ("PeatBanks$Disputes", "wronged", "[I", true)
  | 2 => ("PeatBanks$Disputes", "row", "[I", true)
  | 3 => ("PeatBanks$Disputes", "plot", "[I", true)
  | 4 => ("PeatBanks$Disputes", "settled", "I", false)
  | _ => ("PeatBanks$Disputes", "soFar", "I", false)
def tyX1 : Nat → FieldType := fun k => match k with
  | 0 => .array .int
  | 1 => .array .int
  | 2 => .array .int
  | 3 => .array .int
  | 4 => .int
  | _ => .int
abbrev wsX10 : List Cond := u_ws RX1 TX1 6
theorem nmX1 : ∀ a, a < 6 → ∀ b, b < 6 → a ≠ b → (TX1 a).2.1 ≠ (TX1 b).2.1 := by decide +kernel
theorem tyX1_ok : ∀ k, k < 6 → parseFieldDescriptor (TX1 k).2.2.1 = some (tyX1 k) := by decide +kernel
abbrev cX1_init : ByteArray := prog_3_method_1_code
def yX1_init : MethodName := ⟨RX1, "<init>", "()V"⟩
abbrev cX1_copyFrom : ByteArray := prog_3_method_2_code
def yX1_copyFrom : MethodName := ⟨RX1, "copyFrom", "(LPeatBanks$Disputes;)V"⟩
abbrev cX1_open : ByteArray := prog_3_method_3_code
def yX1_open : MethodName := ⟨RX1, "open", "(IIII)V"⟩
abbrev cX1_end : ByteArray := prog_3_method_4_code
def yX1_end : MethodName := ⟨RX1, "end", "()I"⟩
abbrev cX1_countOpen : ByteArray := prog_3_method_5_code
def yX1_countOpen : MethodName := ⟨RX1, "countOpen", "()I"⟩
abbrev cX1_openOfRank : ByteArray := prog_3_method_6_code
def yX1_openOfRank : MethodName := ⟨RX1, "openOfRank", "(I)I"⟩
abbrev cX1_countOpenWith : ByteArray := prog_3_method_7_code
def yX1_countOpenWith : MethodName := ⟨RX1, "countOpenWith", "(I)I"⟩
def RX2 : String := "PeatBanks$History"
def TX2 : u_T := fun k => match k with
  | 0 => ("PeatBanks$History", "latest", "LPeatBanks$Moss;", false)
  | 1 => ("PeatBanks$History", "second", "LPeatBanks$Moss;", false)
  | 2 => ("PeatBanks$History", "third", "LPeatBanks$Moss;", false)
  | 3 => ("PeatBanks$History", "oldest", "LPeatBanks$Moss;", false)
  | _ => ("PeatBanks$History", "states", "I", false)
def tyX2 : Nat → FieldType := fun k => match k with
  | 0 => .object "PeatBanks$Moss"
  | 1 => .object "PeatBanks$Moss"
  | 2 => .object "PeatBanks$Moss"
  | 3 => .object "PeatBanks$Moss"
  | _ => .int
abbrev wsX20 : List Cond := u_ws RX2 TX2 5
theorem nmX2 : ∀ a, a < 5 → ∀ b, b < 5 → a ≠ b → (TX2 a).2.1 ≠ (TX2 b).2.1 := by decide +kernel
theorem tyX2_ok : ∀ k, k < 5 → parseFieldDescriptor (TX2 k).2.2.1 = some (tyX2 k) := by decide +kernel
abbrev cX2_init : ByteArray := prog_4_method_1_code
def yX2_init : MethodName := ⟨RX2, "<init>", "()V"⟩
abbrev cX2_record : ByteArray := prog_4_method_2_code
def yX2_record : MethodName := ⟨RX2, "record", "(LPeatBanks$Moss;)V"⟩
abbrev cX2_takeBack : ByteArray := prog_4_method_3_code
def yX2_takeBack : MethodName := ⟨RX2, "takeBack", "(LPeatBanks$Moss;)V"⟩
def RX3 : String := "PeatBanks$Moss"
def TX3 : u_T := fun k => match k with
  | 0 => ("PeatBanks$Moss", "layers", "[I", true)
  | 1 => ("PeatBanks$Moss", "owners", "[I", true)
  | 2 => ("PeatBanks$Moss", "rights", "[I", true)
  | 3 => ("PeatBanks$Moss", "days", "[I", true)
  | 4 => ("PeatBanks$Moss", "used", "[I", true)
  | 5 => ("PeatBanks$Moss", "hearths", "[I", true)
  | 6 => ("PeatBanks$Moss", "rows", "LPeatBanks$Rows;", true)
  | 7 => ("PeatBanks$Moss", "disputes", "LPeatBanks$Disputes;", true)
  | 8 => ("PeatBanks$Moss", "cartRows", "I", false)
  | 9 => ("PeatBanks$Moss", "stakes", "I", false)
  | 10 => ("PeatBanks$Moss", "rota", "I", false)
  | 11 => ("PeatBanks$Moss", "dayOfYear", "I", false)
  | 12 => ("PeatBanks$Moss", "years", "I", false)
  | _ => ("PeatBanks$Moss", "rowsHome", "I", false)
def tyX3 : Nat → FieldType := fun k => match k with
  | 0 => .array .int
  | 1 => .array .int
  | 2 => .array .int
  | 3 => .array .int
  | 4 => .array .int
  | 5 => .array .int
  | 6 => .object "PeatBanks$Rows"
  | 7 => .object "PeatBanks$Disputes"
  | 8 => .int
  | 9 => .int
  | 10 => .int
  | 11 => .int
  | 12 => .int
  | _ => .int
abbrev wsX30 : List Cond := u_ws RX3 TX3 14
theorem nmX3 : ∀ a, a < 14 → ∀ b, b < 14 → a ≠ b → (TX3 a).2.1 ≠ (TX3 b).2.1 := by decide +kernel
theorem tyX3_ok : ∀ k, k < 14 → parseFieldDescriptor (TX3 k).2.2.1 = some (tyX3 k) := by decide +kernel
abbrev cX3_init : ByteArray := prog_5_method_1_code
def yX3_init : MethodName := ⟨RX3, "<init>", "()V"⟩
abbrev cX3_copyFrom : ByteArray := prog_5_method_2_code
def yX3_copyFrom : MethodName := ⟨RX3, "copyFrom", "(LPeatBanks$Moss;)V"⟩
abbrev cX3_reasonAgainst : ByteArray := prog_5_method_3_code
def yX3_reasonAgainst : MethodName := ⟨RX3, "reasonAgainst", "(II)I"⟩
abbrev cX3_hasDayLeft : ByteArray := prog_5_method_4_code
def yX3_hasDayLeft : MethodName := ⟨RX3, "hasDayLeft", "(I)Z"⟩
abbrev cX3_hasRight : ByteArray := prog_5_method_5_code
def yX3_hasRight : MethodName := ⟨RX3, "hasRight", "(II)Z"⟩
abbrev cX3_takeLayer : ByteArray := prog_5_method_6_code
def yX3_takeLayer : MethodName := ⟨RX3, "takeLayer", "(II)I"⟩
abbrev cX3_passDays : ByteArray := prog_5_method_7_code
def yX3_passDays : MethodName := ⟨RX3, "passDays", "(II)I"⟩
abbrev cX3_commonerOfCart : ByteArray := prog_5_method_8_code
def yX3_commonerOfCart : MethodName := ⟨RX3, "commonerOfCart", "(I)I"⟩
abbrev cX3_serve : ByteArray := prog_5_method_9_code
def yX3_serve : MethodName := ⟨RX3, "serve", "(I)V"⟩
abbrev cX3_settleOldest : ByteArray := prog_5_method_10_code
def yX3_settleOldest : MethodName := ⟨RX3, "settleOldest", "()I"⟩
abbrev cX3_useDayIfLeft : ByteArray := prog_5_method_11_code
def yX3_useDayIfLeft : MethodName := ⟨RX3, "useDayIfLeft", "(I)V"⟩
abbrev cX3_givePeats : ByteArray := prog_5_method_12_code
def yX3_givePeats : MethodName := ⟨RX3, "givePeats", "(II)V"⟩
abbrev cX3_closeYear : ByteArray := prog_5_method_13_code
def yX3_closeYear : MethodName := ⟨RX3, "closeYear", "()I"⟩
def RX4 : String := "PeatBanks$Rows"
def TX4 : u_T := fun k => match k with
  | 0 => ("PeatBanks$Rows", "owner", "[I", true)
  | 1 => ("PeatBanks$Rows", "plot", "[I", true)
  | 2 => ("PeatBanks$Rows", "wetness", "[I", true)
  | 3 => ("PeatBanks$Rows", "turned", "[Z", true)
  | 4 => ("PeatBanks$Rows", "stacked", "[Z", true)
  | 5 => ("PeatBanks$Rows", "lying", "[Z", true)
  | _ => ("PeatBanks$Rows", "soFar", "I", false)
def tyX4 : Nat → FieldType := fun k => match k with
  | 0 => .array .int
  | 1 => .array .int
  | 2 => .array .int
  | 3 => .array .boolean
  | 4 => .array .boolean
  | 5 => .array .boolean
  | _ => .int
abbrev wsX40 : List Cond := u_ws RX4 TX4 7
theorem nmX4 : ∀ a, a < 7 → ∀ b, b < 7 → a ≠ b → (TX4 a).2.1 ≠ (TX4 b).2.1 := by decide +kernel
theorem tyX4_ok : ∀ k, k < 7 → parseFieldDescriptor (TX4 k).2.2.1 = some (tyX4 k) := by decide +kernel
abbrev cX4_init : ByteArray := prog_6_method_1_code
def yX4_init : MethodName := ⟨RX4, "<init>", "()V"⟩
abbrev cX4_copyFrom : ByteArray := prog_6_method_2_code
def yX4_copyFrom : MethodName := ⟨RX4, "copyFrom", "(LPeatBanks$Rows;)V"⟩
abbrev cX4_hasNumberLeft : ByteArray := prog_6_method_3_code
def yX4_hasNumberLeft : MethodName := ⟨RX4, "hasNumberLeft", "()Z"⟩
abbrev cX4_end : ByteArray := prog_6_method_4_code
def yX4_end : MethodName := ⟨RX4, "end", "()I"⟩
abbrev cX4_lay : ByteArray := prog_6_method_5_code
def yX4_lay : MethodName := ⟨RX4, "lay", "(II)I"⟩
abbrev cX4_isLying : ByteArray := prog_6_method_6_code
def yX4_isLying : MethodName := ⟨RX4, "isLying", "(I)Z"⟩
abbrev cX4_isLyingOf : ByteArray := prog_6_method_7_code
def yX4_isLyingOf : MethodName := ⟨RX4, "isLyingOf", "(II)Z"⟩
abbrev cX4_isStacked : ByteArray := prog_6_method_8_code
def yX4_isStacked : MethodName := ⟨RX4, "isStacked", "(I)Z"⟩
abbrev cX4_isDry : ByteArray := prog_6_method_9_code
def yX4_isDry : MethodName := ⟨RX4, "isDry", "(I)Z"⟩
abbrev cX4_peatsAtHearth : ByteArray := prog_6_method_10_code
def yX4_peatsAtHearth : MethodName := ⟨RX4, "peatsAtHearth", "(I)I"⟩
abbrev cX4_countLying : ByteArray := prog_6_method_11_code
def yX4_countLying : MethodName := ⟨RX4, "countLying", "()I"⟩
abbrev cX4_countStacked : ByteArray := prog_6_method_12_code
def yX4_countStacked : MethodName := ⟨RX4, "countStacked", "()I"⟩
abbrev cX4_countDry : ByteArray := prog_6_method_13_code
def yX4_countDry : MethodName := ⟨RX4, "countDry", "()I"⟩
abbrev cX4_countLyingOf : ByteArray := prog_6_method_14_code
def yX4_countLyingOf : MethodName := ⟨RX4, "countLyingOf", "(I)I"⟩
abbrev cX4_countStackedOf : ByteArray := prog_6_method_15_code
def yX4_countStackedOf : MethodName := ⟨RX4, "countStackedOf", "(I)I"⟩
abbrev cX4_driestStackedOf : ByteArray := prog_6_method_19_code
def yX4_driestStackedOf : MethodName := ⟨RX4, "driestStackedOf", "(I)I"⟩
abbrev cX4_dryOrWet : ByteArray := prog_6_method_20_code
def yX4_dryOrWet : MethodName := ⟨RX4, "dryOrWet", "(I)V"⟩
abbrev cX4_changeBy : ByteArray := prog_6_method_21_code
def yX4_changeBy : MethodName := ⟨RX4, "changeBy", "(IZ)I"⟩
abbrev cX4_loseAll : ByteArray := prog_6_method_22_code
def yX4_loseAll : MethodName := ⟨RX4, "loseAll", "()I"⟩
def RX5 : String := "PeatBanks"
def TX5 : u_T := fun k => match k with
  | 0 => ("PeatBanks", "now", "LPeatBanks$Moss;", true)
  | 1 => ("PeatBanks", "kept", "LPeatBanks$Moss;", true)
  | 2 => ("PeatBanks", "trial", "LPeatBanks$Moss;", true)
  | 3 => ("PeatBanks", "history", "LPeatBanks$History;", true)
  | 4 => ("PeatBanks", "text", "LPeatBanks$DayText;", true)
  | _ => ("PeatBanks", "hasKept", "Z", false)
def tyX5 : Nat → FieldType := fun k => match k with
  | 0 => .object "PeatBanks$Moss"
  | 1 => .object "PeatBanks$Moss"
  | 2 => .object "PeatBanks$Moss"
  | 3 => .object "PeatBanks$History"
  | 4 => .object "PeatBanks$DayText"
  | _ => .boolean
abbrev wsX50 : List Cond := u_ws RX5 TX5 6
theorem nmX5 : ∀ a, a < 6 → ∀ b, b < 6 → a ≠ b → (TX5 a).2.1 ≠ (TX5 b).2.1 := by decide +kernel
theorem tyX5_ok : ∀ k, k < 6 → parseFieldDescriptor (TX5 k).2.2.1 = some (tyX5 k) := by decide +kernel
abbrev cX5_init : ByteArray := prog_1_method_1_code
def yX5_init : MethodName := ⟨RX5, "<init>", "()V"⟩
abbrev cX5_lend : ByteArray := prog_1_method_2_code
def yX5_lend : MethodName := ⟨RX5, "lend", "(II)I"⟩
abbrev cX5_handOver : ByteArray := prog_1_method_3_code
def yX5_handOver : MethodName := ⟨RX5, "handOver", "(II)I"⟩
abbrev cX5_setDays : ByteArray := prog_1_method_4_code
def yX5_setDays : MethodName := ⟨RX5, "setDays", "(II)I"⟩
abbrev cX5_set : ByteArray := prog_1_method_5_code
def yX5_set : MethodName := ⟨RX5, "set", "(II)I"⟩
abbrev cX5_cut : ByteArray := prog_1_method_6_code
def yX5_cut : MethodName := ⟨RX5, "cut", "(II)I"⟩
abbrev cX5_turn : ByteArray := prog_1_method_7_code
def yX5_turn : MethodName := ⟨RX5, "turn", "(I)I"⟩
abbrev cX5_stack : ByteArray := prog_1_method_8_code
def yX5_stack : MethodName := ⟨RX5, "stack", "(I)I"⟩
abbrev cX5_pass : ByteArray := prog_1_method_9_code
def yX5_pass : MethodName := ⟨RX5, "pass", "(I)I"⟩
abbrev cX5_passAll : ByteArray := prog_1_method_10_code
def yX5_passAll : MethodName := ⟨RX5, "passAll", "()I"⟩
abbrev cX5_settle : ByteArray := prog_1_method_11_code
def yX5_settle : MethodName := ⟨RX5, "settle", "()I"⟩
abbrev cX5_endYear : ByteArray := prog_1_method_12_code
def yX5_endYear : MethodName := ⟨RX5, "endYear", "()I"⟩
abbrev cX5_type : ByteArray := prog_1_method_13_code
def yX5_type : MethodName := ⟨RX5, "type", "(C)I"⟩
abbrev cX5_clearText : ByteArray := prog_1_method_14_code
def yX5_clearText : MethodName := ⟨RX5, "clearText", "()I"⟩
abbrev cX5_undo : ByteArray := prog_1_method_15_code
def yX5_undo : MethodName := ⟨RX5, "undo", "()I"⟩
abbrev cX5_keep : ByteArray := prog_1_method_16_code
def yX5_keep : MethodName := ⟨RX5, "keep", "()I"⟩
abbrev cX5_restore : ByteArray := prog_1_method_17_code
def yX5_restore : MethodName := ⟨RX5, "restore", "()I"⟩
abbrev cX5_commoner : ByteArray := prog_1_method_18_code
def yX5_commoner : MethodName := ⟨RX5, "commoner", "(II)I"⟩
abbrev cX5_plot : ByteArray := prog_1_method_19_code
def yX5_plot : MethodName := ⟨RX5, "plot", "(II)I"⟩
abbrev cX5_row : ByteArray := prog_1_method_20_code
def yX5_row : MethodName := ⟨RX5, "row", "(II)I"⟩
abbrev cX5_why : ByteArray := prog_1_method_22_code
def yX5_why : MethodName := ⟨RX5, "why", "(II)I"⟩
abbrev cX5_dispute : ByteArray := prog_1_method_23_code
def yX5_dispute : MethodName := ⟨RX5, "dispute", "(II)I"⟩
abbrev cX5_cart : ByteArray := prog_1_method_24_code
def yX5_cart : MethodName := ⟨RX5, "cart", "(I)I"⟩
abbrev cX5_count : ByteArray := prog_1_method_26_code
def yX5_count : MethodName := ⟨RX5, "count", "(I)I"⟩
abbrev cX5_isWithin : ByteArray := prog_1_method_27_code
def yX5_isWithin : MethodName := ⟨RX5, "isWithin", "(III)Z"⟩
abbrev cX5_isCommoner : ByteArray := prog_1_method_28_code
def yX5_isCommoner : MethodName := ⟨RX5, "isCommoner", "(I)Z"⟩
abbrev cX5_isPlot : ByteArray := prog_1_method_29_code
def yX5_isPlot : MethodName := ⟨RX5, "isPlot", "(I)Z"⟩
abbrev cX5_isWeather : ByteArray := prog_1_method_30_code
def yX5_isWeather : MethodName := ⟨RX5, "isWeather", "(I)Z"⟩
abbrev cX5_isSettingValue : ByteArray := prog_1_method_31_code
def yX5_isSettingValue : MethodName := ⟨RX5, "isSettingValue", "(II)Z"⟩
abbrev cX5_oneIf : ByteArray := prog_1_method_32_code
def yX5_oneIf : MethodName := ⟨RX5, "oneIf", "(Z)I"⟩
abbrev cX5_countEqual : ByteArray := prog_1_method_33_code
def yX5_countEqual : MethodName := ⟨RX5, "countEqual", "([II)I"⟩
abbrev cX5_sumOf : ByteArray := prog_1_method_34_code
def yX5_sumOf : MethodName := ⟨RX5, "sumOf", "([I)I"⟩
abbrev cX5_copyNumbers : ByteArray := prog_1_method_35_code
def yX5_copyNumbers : MethodName := ⟨RX5, "copyNumbers", "([I[I)V"⟩
abbrev cX5_copyFlags : ByteArray := prog_1_method_36_code
def yX5_copyFlags : MethodName := ⟨RX5, "copyFlags", "([Z[Z)V"⟩
def RX6 : String := "PeatBanksModel"
def TX6 : u_T := fun k => match k with
  | _ => ("", "", "", false)
def tyX6 : Nat → FieldType := fun k => match k with
  | _ => .int
abbrev wsX60 : List Cond := u_ws RX6 TX6 0
theorem nmX6 : ∀ a, a < 0 → ∀ b, b < 0 → a ≠ b → (TX6 a).2.1 ≠ (TX6 b).2.1 := by decide +kernel
theorem tyX6_ok : ∀ k, k < 0 → parseFieldDescriptor (TX6 k).2.2.1 = some (tyX6 k) := by decide +kernel
def RJ9 : String := "java/lang/Math"
def TJ9 : u_T := fun k => match k with
  | _ => ("", "", "", false)
def tyJ9 : Nat → FieldType := fun k => match k with
  | _ => .int
abbrev cJ9_max_7cf53 : ByteArray := prog_9_method_65_code
def yJ9_max_7cf53 : MethodName := ⟨RJ9, "max", "(II)I"⟩
abbrev cJ9_min_7cf53 : ByteArray := prog_9_method_69_code
def yJ9_min_7cf53 : MethodName := ⟨RJ9, "min", "(II)I"⟩
def RJ10 : String := "java/lang/System"
def TJ10 : u_T := fun k => match k with
  | _ => ("", "", "", false)
def tyJ10 : Nat → FieldType := fun k => match k with
  | _ => .int
def RL : String := "PeatBanksLaw"
abbrev cL_cell : ByteArray := method_2_code
def yL_cell : MethodName := ⟨RL, "cell", "([II)I"⟩
abbrev cL_low : ByteArray := method_3_code
def yL_low : MethodName := ⟨RL, "low", "(II)I"⟩
abbrev cL_told : ByteArray := method_4_code
def yL_told : MethodName := ⟨RL, "told", "(LPeatBanks;)J"⟩
abbrev cL_act : ByteArray := method_5_code
def yL_act : MethodName := ⟨RL, "act", "(LPeatBanks;II)I"⟩
abbrev cL_holds : ByteArray := method_6_code
def yL_holds : MethodName := ⟨RL, "holds", "(LPeatBanks;)Z"⟩
abbrev cL_law : ByteArray := code
def yL_law : MethodName := ⟨RL, "law", "([I)Z"⟩
abbrev vwCl : List vw_C := [(RX0, TX0, 5), (RX1, TX1, 6), (RX2, TX2, 5), (RX3, TX3, 14), (RX4, TX4, 7), (RX5, TX5, 6)]
/-! the words of the tables that a method may carry; a method's own word list is its code and all of them -/
theorem goodIn_app {big a b : List Cond} (ha : GoodIn big a) (hb : GoodIn big b) : GoodIn big (a ++ b) := fun w h => (List.mem_append.mp h).elim (ha w) (hb w)
def wsG : List Cond := lw_tbl.filter goodWord
theorem kG {w : Cond} (n : Nat) (h : lw_tbl[n]? = some w) (g : goodWord w = true) : w ∈ wsG := List.mem_filter.mpr ⟨List.mem_of_getElem? h, g⟩
theorem wsG_in : ∀ w ∈ wsG, w ∈ lw_tbl := fun _ h => (List.mem_filter.mp h).1
theorem wsG_good : ∀ w ∈ wsG, (w.onTables && w.keeps) = true ∨ ∃ ty, w = .arrayClass ty := fun _ h => good_of_word (List.mem_filter.mp h).2
def wU (y : MethodName) (cc : ByteArray) (n : Nat) (ret : Option FieldType) : List Cond := .code y cc n ret :: wsG
theorem wU_in {y : MethodName} {cc : ByteArray} {n : Nat} {ret : Option FieldType} {w : Cond} (h : w ∈ wsG) : w ∈ wU y cc n ret := List.mem_cons_of_mem _ h
theorem gU {Ts : List Cond} (hT : ∀ w ∈ wsG, w ∈ Ts) {y : MethodName} {cc : ByteArray} {n : Nat} {ret : Option FieldType} (h : Cond.code y cc n ret ∈ wsG) : GoodIn Ts (wU y cc n ret) := by
  intro w hw
  rcases List.mem_cons.mp hw with rfl | hw
  · exact ⟨hT _ h, wsG_good _ h⟩
  · exact ⟨hT _ hw, wsG_good _ hw⟩
theorem gV {Ts : List Cond} (hT : ∀ w ∈ wsG, w ∈ Ts) {own C : String} {idx : Nat} {y : MethodName} {cc : ByteArray} {n : Nat} {ret : Option FieldType} (h1 : Cond.methodLink own idx y ∈ wsG) (h2 : Cond.instanceMethod y ∈ wsG) (h3 : Cond.selects C y y ∈ wsG) (h4 : Cond.initialized C ∈ wsG) (h : Cond.code y cc n ret ∈ wsG) : GoodIn Ts (wsV own idx C y (wU y cc n ret)) := by
  refine goodIn_app (fun w hw => ?_) (gU hT h)
  have hw : w ∈ wsG := by
    simp only [List.mem_cons, List.not_mem_nil, or_false] at hw
    rcases hw with rfl | rfl | rfl | rfl <;> assumption
  exact ⟨hT _ hw, wsG_good _ hw⟩
theorem gS {Ts : List Cond} (hT : ∀ w ∈ wsG, w ∈ Ts) {own : String} {idx : Nat} {y : MethodName} {cc : ByteArray} {n : Nat} {ret : Option FieldType} (h1 : Cond.methodLink own idx y ∈ wsG) (h2 : Cond.static y ∈ wsG) (h4 : Cond.initialized y.cls ∈ wsG) (h : Cond.code y cc n ret ∈ wsG) : GoodIn Ts (va_wsS own idx y (wU y cc n ret)) := by
  refine goodIn_app (fun w hw => ?_) (gU hT h)
  have hw : w ∈ wsG := by
    simp only [List.mem_cons, List.not_mem_nil, or_false] at hw
    rcases hw with rfl | rfl | rfl <;> assumption
  exact ⟨hT _ hw, wsG_good _ hw⟩
theorem hiX0 : ∀ w ∈ u_ws RX0 TX0 5, w ∈ wsG := fun w h => List.mem_filter.mpr ((show ∀ w ∈ u_ws RX0 TX0 5, w ∈ lw_tbl ∧ goodWord w = true from by decide +kernel) w h)
theorem hiX1 : ∀ w ∈ u_ws RX1 TX1 6, w ∈ wsG := fun w h => List.mem_filter.mpr ((show ∀ w ∈ u_ws RX1 TX1 6, w ∈ lw_tbl ∧ goodWord w = true from by decide +kernel) w h)
theorem hiX2 : ∀ w ∈ u_ws RX2 TX2 5, w ∈ wsG := fun w h => List.mem_filter.mpr ((show ∀ w ∈ u_ws RX2 TX2 5, w ∈ lw_tbl ∧ goodWord w = true from by decide +kernel) w h)
theorem hiX3 : ∀ w ∈ u_ws RX3 TX3 14, w ∈ wsG := fun w h => List.mem_filter.mpr ((show ∀ w ∈ u_ws RX3 TX3 14, w ∈ lw_tbl ∧ goodWord w = true from by decide +kernel) w h)
theorem hiX4 : ∀ w ∈ u_ws RX4 TX4 7, w ∈ wsG := fun w h => List.mem_filter.mpr ((show ∀ w ∈ u_ws RX4 TX4 7, w ∈ lw_tbl ∧ goodWord w = true from by decide +kernel) w h)
theorem hiX5 : ∀ w ∈ u_ws RX5 TX5 6, w ∈ wsG := fun w h => List.mem_filter.mpr ((show ∀ w ∈ u_ws RX5 TX5 6, w ∈ lw_tbl ∧ goodWord w = true from by decide +kernel) w h)
