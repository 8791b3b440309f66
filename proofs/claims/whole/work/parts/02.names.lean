/-! ===== BEGIN words of one list among another's, by their places ===== -/
theorem goodIn_r {big : List Cond} (ws : List Cond) (ps : List Nat) (hp : ws = ps.filterMap (fun i => big[i]?)) (h : ws.all goodWord = true) : GoodIn big ws := by
  intro w hw
  have h1 := List.all_eq_true.mp h w hw
  rw [hp] at hw
  obtain ⟨i, -, hi⟩ := List.mem_filterMap.mp hw
  have hm : w ∈ big := by first | exact List.mem_of_getElem? hi | exact List.getElem?_mem hi
  exact ⟨hm, good_of_word h1⟩
theorem goodIn_app {big a b : List Cond} (ha : GoodIn big a) (hb : GoodIn big b) : GoodIn big (a ++ b) := fun w h => (List.mem_append.mp h).elim (ha w) (hb w)
theorem goodIn_ca {big a b : List Cond} {c : Cond} (ha : GoodIn big (c :: a)) (hb : GoodIn big b) : GoodIn big (c :: (a ++ b)) := fun w h => (List.mem_cons.mp h).elim (fun e => ha w (List.mem_cons.mpr (Or.inl e))) (fun h => (List.mem_append.mp h).elim (fun h => ha w (List.mem_cons.mpr (Or.inr h))) (hb w))
theorem goodIn_sub {big ws : List Cond} (hm : ∀ w ∈ ws, w ∈ big) (h : ws.all goodWord = true) : GoodIn big ws := fun w hw => ⟨hm w hw, good_of_word (List.all_eq_true.mp h w hw)⟩
/-! ===== END ===== -/

/-! ===== BEGIN printed: names, fields, word lists, decode rows ===== -/
def RX0 : String := "PeatBanks$DayText"
def TX0 : u_T := fun k => match k with
  | 0 => ("PeatBanks$DayText", "characters", "[C", true)
  | 1 => ("PeatBanks$DayText", "length", "I", false)
  | 2 => ("PeatBanks$DayText", "groupWeather", "[I", true)
  | 3 => ("PeatBanks$DayText", "groupDays", "[I", true)
  | _ => ("PeatBanks$DayText", "groups", "I", false)
def tyX0 : Nat → FieldType := fun k => match k with
  | 0 => .array .char
  | 1 => .int
  | 2 => .array .int
  | 3 => .array .int
  | _ => .int
abbrev wsX00 : List Cond := u_ws RX0 TX0 5
theorem nmX0 : ∀ a, a < 5 → ∀ b, b < 5 → a ≠ b → (TX0 a).2.1 ≠ (TX0 b).2.1 := by decide +kernel
theorem tyX0_ok : ∀ k, k < 5 → parseFieldDescriptor (TX0 k).2.2.1 = some (tyX0 k) := by decide +kernel
abbrev cX0_init : ByteArray := prog_2_method_1_code
def yX0_init : MethodName := ⟨RX0, "<init>", "()V"⟩
abbrev cX0_append : ByteArray := prog_2_method_2_code
def yX0_append : MethodName := ⟨RX0, "append", "(C)Z"⟩
abbrev cX0_readGroups : ByteArray := prog_2_method_3_code
def yX0_readGroups : MethodName := ⟨RX0, "readGroups", "()I"⟩
abbrev cX0_openGroup : ByteArray := prog_2_method_4_code
def yX0_openGroup : MethodName := ⟨RX0, "openGroup", "(I)V"⟩
abbrev cX0_isDigit : ByteArray := prog_2_method_5_code
def yX0_isDigit : MethodName := ⟨RX0, "isDigit", "(C)Z"⟩
abbrev cX0_isWeatherLetter : ByteArray := prog_2_method_6_code
def yX0_isWeatherLetter : MethodName := ⟨RX0, "isWeatherLetter", "(C)Z"⟩
abbrev cX0_weatherOf : ByteArray := prog_2_method_7_code
def yX0_weatherOf : MethodName := ⟨RX0, "weatherOf", "(C)I"⟩
def RX1 : String := "PeatBanks$Disputes"
def TX1 : u_T := fun k => match k with
  | 0 => ("PeatBanks$Disputes", "cutter", "[I", true)
  | 1 => ("PeatBanks$Disputes", "wronged", "[I", true)
  | 2 => ("PeatBanks$Disputes", "row", "[I", true)
  | 3 => ("PeatBanks$Disputes", "plot", "[I", true)
  | 4 => ("PeatBanks$Disputes", "settled", "I", false)
  | _ => ("PeatBanks$Disputes", "soFar", "I", false)
def tyX1 : Nat → FieldType := fun k => match k with
  | 0 => .array .int
  | 1 => .array .int
  | 2 => .array .int
  | 3 => .array .int
  | 4 => .int
  | _ => .int
abbrev wsX10 : List Cond := u_ws RX1 TX1 6
theorem nmX1 : ∀ a, a < 6 → ∀ b, b < 6 → a ≠ b → (TX1 a).2.1 ≠ (TX1 b).2.1 := by decide +kernel
theorem tyX1_ok : ∀ k, k < 6 → parseFieldDescriptor (TX1 k).2.2.1 = some (tyX1 k) := by decide +kernel
abbrev cX1_init : ByteArray := prog_3_method_1_code
def yX1_init : MethodName := ⟨RX1, "<init>", "()V"⟩
abbrev cX1_copyFrom : ByteArray := prog_3_method_2_code
def yX1_copyFrom : MethodName := ⟨RX1, "copyFrom", "(LPeatBanks$Disputes;)V"⟩
abbrev cX1_open : ByteArray := prog_3_method_3_code
def yX1_open : MethodName := ⟨RX1, "open", "(IIII)V"⟩
abbrev cX1_countOpen : ByteArray := prog_3_method_4_code
def yX1_countOpen : MethodName := ⟨RX1, "countOpen", "()I"⟩
abbrev cX1_countOpenWith : ByteArray := prog_3_method_5_code
def yX1_countOpenWith : MethodName := ⟨RX1, "countOpenWith", "(I)I"⟩
def RX2 : String := "PeatBanks$History"
def TX2 : u_T := fun k => match k with
  | 0 => ("PeatBanks$History", "latest", "LPeatBanks$Moss;", false)
  | 1 => ("PeatBanks$History", "second", "LPeatBanks$Moss;", false)
  | 2 => ("PeatBanks$History", "third", "LPeatBanks$Moss;", false)
  | 3 => ("PeatBanks$History", "oldest", "LPeatBanks$Moss;", false)
  | _ => ("PeatBanks$History", "states", "I", false)
def tyX2 : Nat → FieldType := fun k => match k with
  | 0 => .object "PeatBanks$Moss"
  | 1 => .object "PeatBanks$Moss"
  | 2 => .object "PeatBanks$Moss"
  | 3 => .object "PeatBanks$Moss"
  | _ => .int
abbrev wsX20 : List Cond := u_ws RX2 TX2 5
theorem nmX2 : ∀ a, a < 5 → ∀ b, b < 5 → a ≠ b → (TX2 a).2.1 ≠ (TX2 b).2.1 := by decide +kernel
theorem tyX2_ok : ∀ k, k < 5 → parseFieldDescriptor (TX2 k).2.2.1 = some (tyX2 k) := by decide +kernel
abbrev cX2_init : ByteArray := prog_4_method_1_code
def yX2_init : MethodName := ⟨RX2, "<init>", "()V"⟩
abbrev cX2_record : ByteArray := prog_4_method_2_code
def yX2_record : MethodName := ⟨RX2, "record", "(LPeatBanks$Moss;)V"⟩
abbrev cX2_takeBack : ByteArray := prog_4_method_3_code
def yX2_takeBack : MethodName := ⟨RX2, "takeBack", "(LPeatBanks$Moss;)V"⟩
def RX3 : String := "PeatBanks$Moss"
def TX3 : u_T := fun k => match k with
  | 0 => ("PeatBanks$Moss", "layers", "[I", true)
  | 1 => ("PeatBanks$Moss", "owners", "[I", true)
  | 2 => ("PeatBanks$Moss", "rights", "[I", true)
  | 3 => ("PeatBanks$Moss", "days", "[I", true)
  | 4 => ("PeatBanks$Moss", "used", "[I", true)
  | 5 => ("PeatBanks$Moss", "hearths", "[I", true)
  | 6 => ("PeatBanks$Moss", "rows", "LPeatBanks$Rows;", true)
  | 7 => ("PeatBanks$Moss", "disputes", "LPeatBanks$Disputes;", true)
  | 8 => ("PeatBanks$Moss", "cartRows", "I", false)
  | 9 => ("PeatBanks$Moss", "stakes", "I", false)
  | 10 => ("PeatBanks$Moss", "rota", "I", false)
  | 11 => ("PeatBanks$Moss", "dayOfYear", "I", false)
  | 12 => ("PeatBanks$Moss", "years", "I", false)
  | _ => ("PeatBanks$Moss", "rowsHome", "I", false)
def tyX3 : Nat → FieldType := fun k => match k with
  | 0 => .array .int
  | 1 => .array .int
  | 2 => .array .int
  | 3 => .array .int
  | 4 => .array .int
  | 5 => .array .int
  | 6 => .object "PeatBanks$Rows"
  | 7 => .object "PeatBanks$Disputes"
  | 8 => .int
  | 9 => .int
  | 10 => .int
  | 11 => .int
  | 12 => .int
  | _ => .int
abbrev wsX30 : List Cond := u_ws RX3 TX3 14
theorem nmX3 : ∀ a, a < 14 → ∀ b, b < 14 → a ≠ b → (TX3 a).2.1 ≠ (TX3 b).2.1 := by decide +kernel
theorem tyX3_ok : ∀ k, k < 14 → parseFieldDescriptor (TX3 k).2.2.1 = some (tyX3 k) := by decide +kernel
abbrev cX3_init : ByteArray := prog_5_method_1_code
def yX3_init : MethodName := ⟨RX3, "<init>", "()V"⟩
abbrev cX3_copyFrom : ByteArray := prog_5_method_2_code
def yX3_copyFrom : MethodName := ⟨RX3, "copyFrom", "(LPeatBanks$Moss;)V"⟩
abbrev cX3_reasonAgainst : ByteArray := prog_5_method_3_code
def yX3_reasonAgainst : MethodName := ⟨RX3, "reasonAgainst", "(II)I"⟩
abbrev cX3_hasDayLeft : ByteArray := prog_5_method_4_code
def yX3_hasDayLeft : MethodName := ⟨RX3, "hasDayLeft", "(I)Z"⟩
abbrev cX3_hasRight : ByteArray := prog_5_method_5_code
def yX3_hasRight : MethodName := ⟨RX3, "hasRight", "(II)Z"⟩
abbrev cX3_takeLayer : ByteArray := prog_5_method_6_code
def yX3_takeLayer : MethodName := ⟨RX3, "takeLayer", "(II)I"⟩
abbrev cX3_passDays : ByteArray := prog_5_method_7_code
def yX3_passDays : MethodName := ⟨RX3, "passDays", "(II)I"⟩
abbrev cX3_commonerOfCart : ByteArray := prog_5_method_8_code
def yX3_commonerOfCart : MethodName := ⟨RX3, "commonerOfCart", "(I)I"⟩
abbrev cX3_serve : ByteArray := prog_5_method_9_code
def yX3_serve : MethodName := ⟨RX3, "serve", "(I)V"⟩
abbrev cX3_settleOldest : ByteArray := prog_5_method_10_code
def yX3_settleOldest : MethodName := ⟨RX3, "settleOldest", "()I"⟩
abbrev cX3_useDayIfLeft : ByteArray := prog_5_method_11_code
def yX3_useDayIfLeft : MethodName := ⟨RX3, "useDayIfLeft", "(I)V"⟩
abbrev cX3_givePeats : ByteArray := prog_5_method_12_code
def yX3_givePeats : MethodName := ⟨RX3, "givePeats", "(II)V"⟩
abbrev cX3_closeYear : ByteArray := prog_5_method_13_code
def yX3_closeYear : MethodName := ⟨RX3, "closeYear", "()I"⟩
def RX4 : String := "PeatBanks$Rows"
def TX4 : u_T := fun k => match k with
  | 0 => ("PeatBanks$Rows", "owner", "[I", true)
  | 1 => ("PeatBanks$Rows", "plot", "[I", true)
  | 2 => ("PeatBanks$Rows", "wetness", "[I", true)
  | 3 => ("PeatBanks$Rows", "turned", "[Z", true)
  | 4 => ("PeatBanks$Rows", "stacked", "[Z", true)
  | 5 => ("PeatBanks$Rows", "lying", "[Z", true)
  | _ => ("PeatBanks$Rows", "soFar", "I", false)
def tyX4 : Nat → FieldType := fun k => match k with
  | 0 => .array .int
  | 1 => .array .int
  | 2 => .array .int
  | 3 => .array .boolean
  | 4 => .array .boolean
  | 5 => .array .boolean
  | _ => .int
abbrev wsX40 : List Cond := u_ws RX4 TX4 7
theorem nmX4 : ∀ a, a < 7 → ∀ b, b < 7 → a ≠ b → (TX4 a).2.1 ≠ (TX4 b).2.1 := by decide +kernel
theorem tyX4_ok : ∀ k, k < 7 → parseFieldDescriptor (TX4 k).2.2.1 = some (tyX4 k) := by decide +kernel
abbrev cX4_init : ByteArray := prog_6_method_1_code
def yX4_init : MethodName := ⟨RX4, "<init>", "()V"⟩
abbrev cX4_copyFrom : ByteArray := prog_6_method_2_code
def yX4_copyFrom : MethodName := ⟨RX4, "copyFrom", "(LPeatBanks$Rows;)V"⟩
abbrev cX4_hasNumberLeft : ByteArray := prog_6_method_3_code
def yX4_hasNumberLeft : MethodName := ⟨RX4, "hasNumberLeft", "()Z"⟩
abbrev cX4_lay : ByteArray := prog_6_method_4_code
def yX4_lay : MethodName := ⟨RX4, "lay", "(II)I"⟩
abbrev cX4_isLying : ByteArray := prog_6_method_5_code
def yX4_isLying : MethodName := ⟨RX4, "isLying", "(I)Z"⟩
abbrev cX4_isLyingOf : ByteArray := prog_6_method_6_code
def yX4_isLyingOf : MethodName := ⟨RX4, "isLyingOf", "(II)Z"⟩
abbrev cX4_isStacked : ByteArray := prog_6_method_7_code
def yX4_isStacked : MethodName := ⟨RX4, "isStacked", "(I)Z"⟩
abbrev cX4_isDry : ByteArray := prog_6_method_8_code
def yX4_isDry : MethodName := ⟨RX4, "isDry", "(I)Z"⟩
abbrev cX4_peatsAtHearth : ByteArray := prog_6_method_9_code
def yX4_peatsAtHearth : MethodName := ⟨RX4, "peatsAtHearth", "(I)I"⟩
abbrev cX4_countLying : ByteArray := prog_6_method_10_code
def yX4_countLying : MethodName := ⟨RX4, "countLying", "()I"⟩
abbrev cX4_countStacked : ByteArray := prog_6_method_11_code
def yX4_countStacked : MethodName := ⟨RX4, "countStacked", "()I"⟩
abbrev cX4_countDry : ByteArray := prog_6_method_12_code
def yX4_countDry : MethodName := ⟨RX4, "countDry", "()I"⟩
abbrev cX4_countLyingOf : ByteArray := prog_6_method_13_code
def yX4_countLyingOf : MethodName := ⟨RX4, "countLyingOf", "(I)I"⟩
abbrev cX4_countStackedOf : ByteArray := prog_6_method_14_code
def yX4_countStackedOf : MethodName := ⟨RX4, "countStackedOf", "(I)I"⟩
abbrev cX4_driestOf : ByteArray := prog_6_method_15_code
def yX4_driestOf : MethodName := ⟨RX4, "driestOf", "(II)I"⟩
abbrev cX4_countDrierThan : ByteArray := prog_6_method_16_code
def yX4_countDrierThan : MethodName := ⟨RX4, "countDrierThan", "(II)I"⟩
abbrev cX4_comesBefore : ByteArray := prog_6_method_17_code
def yX4_comesBefore : MethodName := ⟨RX4, "comesBefore", "(II)Z"⟩
abbrev cX4_driestStackedOf : ByteArray := prog_6_method_18_code
def yX4_driestStackedOf : MethodName := ⟨RX4, "driestStackedOf", "(I)I"⟩
abbrev cX4_dryOrWet : ByteArray := prog_6_method_19_code
def yX4_dryOrWet : MethodName := ⟨RX4, "dryOrWet", "(I)V"⟩
abbrev cX4_changeBy : ByteArray := prog_6_method_20_code
def yX4_changeBy : MethodName := ⟨RX4, "changeBy", "(IZ)I"⟩
abbrev cX4_loseAll : ByteArray := prog_6_method_21_code
def yX4_loseAll : MethodName := ⟨RX4, "loseAll", "()I"⟩
def RX5 : String := "PeatBanks"
def TX5 : u_T := fun k => match k with
  | 0 => ("PeatBanks", "now", "LPeatBanks$Moss;", true)
  | 1 => ("PeatBanks", "kept", "LPeatBanks$Moss;", true)
  | 2 => ("PeatBanks", "trial", "LPeatBanks$Moss;", true)
  | 3 => ("PeatBanks", "history", "LPeatBanks$History;", true)
  | 4 => ("PeatBanks", "text", "LPeatBanks$DayText;", true)
  | _ => ("PeatBanks", "hasKept", "Z", false)
def tyX5 : Nat → FieldType := fun k => match k with
  | 0 => .object "PeatBanks$Moss"
  | 1 => .object "PeatBanks$Moss"
  | 2 => .object "PeatBanks$Moss"
  | 3 => .object "PeatBanks$History"
  | 4 => .object "PeatBanks$DayText"
  | _ => .boolean
abbrev wsX50 : List Cond := u_ws RX5 TX5 6
theorem nmX5 : ∀ a, a < 6 → ∀ b, b < 6 → a ≠ b → (TX5 a).2.1 ≠ (TX5 b).2.1 := by decide +kernel
theorem tyX5_ok : ∀ k, k < 6 → parseFieldDescriptor (TX5 k).2.2.1 = some (tyX5 k) := by decide +kernel
abbrev cX5_init : ByteArray := prog_1_method_1_code
def yX5_init : MethodName := ⟨RX5, "<init>", "()V"⟩
abbrev cX5_lend : ByteArray := prog_1_method_2_code
def yX5_lend : MethodName := ⟨RX5, "lend", "(II)I"⟩
abbrev cX5_handOver : ByteArray := prog_1_method_3_code
def yX5_handOver : MethodName := ⟨RX5, "handOver", "(II)I"⟩
abbrev cX5_setDays : ByteArray := prog_1_method_4_code
def yX5_setDays : MethodName := ⟨RX5, "setDays", "(II)I"⟩
abbrev cX5_set : ByteArray := prog_1_method_5_code
def yX5_set : MethodName := ⟨RX5, "set", "(II)I"⟩
abbrev cX5_cut : ByteArray := prog_1_method_6_code
def yX5_cut : MethodName := ⟨RX5, "cut", "(II)I"⟩
abbrev cX5_turn : ByteArray := prog_1_method_7_code
def yX5_turn : MethodName := ⟨RX5, "turn", "(I)I"⟩
abbrev cX5_stack : ByteArray := prog_1_method_8_code
def yX5_stack : MethodName := ⟨RX5, "stack", "(I)I"⟩
abbrev cX5_pass : ByteArray := prog_1_method_9_code
def yX5_pass : MethodName := ⟨RX5, "pass", "(I)I"⟩
abbrev cX5_passAll : ByteArray := prog_1_method_10_code
def yX5_passAll : MethodName := ⟨RX5, "passAll", "()I"⟩
abbrev cX5_settle : ByteArray := prog_1_method_11_code
def yX5_settle : MethodName := ⟨RX5, "settle", "()I"⟩
abbrev cX5_endYear : ByteArray := prog_1_method_12_code
def yX5_endYear : MethodName := ⟨RX5, "endYear", "()I"⟩
abbrev cX5_type : ByteArray := prog_1_method_13_code
def yX5_type : MethodName := ⟨RX5, "type", "(C)I"⟩
abbrev cX5_clearText : ByteArray := prog_1_method_14_code
def yX5_clearText : MethodName := ⟨RX5, "clearText", "()I"⟩
abbrev cX5_undo : ByteArray := prog_1_method_15_code
def yX5_undo : MethodName := ⟨RX5, "undo", "()I"⟩
abbrev cX5_keep : ByteArray := prog_1_method_16_code
def yX5_keep : MethodName := ⟨RX5, "keep", "()I"⟩
abbrev cX5_restore : ByteArray := prog_1_method_17_code
def yX5_restore : MethodName := ⟨RX5, "restore", "()I"⟩
abbrev cX5_commoner : ByteArray := prog_1_method_18_code
def yX5_commoner : MethodName := ⟨RX5, "commoner", "(II)I"⟩
abbrev cX5_plot : ByteArray := prog_1_method_19_code
def yX5_plot : MethodName := ⟨RX5, "plot", "(II)I"⟩
abbrev cX5_row : ByteArray := prog_1_method_20_code
def yX5_row : MethodName := ⟨RX5, "row", "(II)I"⟩
abbrev cX5_driest : ByteArray := prog_1_method_21_code
def yX5_driest : MethodName := ⟨RX5, "driest", "(II)I"⟩
abbrev cX5_why : ByteArray := prog_1_method_22_code
def yX5_why : MethodName := ⟨RX5, "why", "(II)I"⟩
abbrev cX5_dispute : ByteArray := prog_1_method_23_code
def yX5_dispute : MethodName := ⟨RX5, "dispute", "(II)I"⟩
abbrev cX5_cart : ByteArray := prog_1_method_24_code
def yX5_cart : MethodName := ⟨RX5, "cart", "(I)I"⟩
abbrev cX5_would : ByteArray := prog_1_method_25_code
def yX5_would : MethodName := ⟨RX5, "would", "(II)I"⟩
abbrev cX5_count : ByteArray := prog_1_method_26_code
def yX5_count : MethodName := ⟨RX5, "count", "(I)I"⟩
abbrev cX5_isWithin : ByteArray := prog_1_method_27_code
def yX5_isWithin : MethodName := ⟨RX5, "isWithin", "(III)Z"⟩
abbrev cX5_isCommoner : ByteArray := prog_1_method_28_code
def yX5_isCommoner : MethodName := ⟨RX5, "isCommoner", "(I)Z"⟩
abbrev cX5_isPlot : ByteArray := prog_1_method_29_code
def yX5_isPlot : MethodName := ⟨RX5, "isPlot", "(I)Z"⟩
abbrev cX5_isWeather : ByteArray := prog_1_method_30_code
def yX5_isWeather : MethodName := ⟨RX5, "isWeather", "(I)Z"⟩
abbrev cX5_isSettingValue : ByteArray := prog_1_method_31_code
def yX5_isSettingValue : MethodName := ⟨RX5, "isSettingValue", "(II)Z"⟩
abbrev cX5_oneIf : ByteArray := prog_1_method_32_code
def yX5_oneIf : MethodName := ⟨RX5, "oneIf", "(Z)I"⟩
abbrev cX5_countEqual : ByteArray := prog_1_method_33_code
def yX5_countEqual : MethodName := ⟨RX5, "countEqual", "([II)I"⟩
abbrev cX5_sumOf : ByteArray := prog_1_method_34_code
def yX5_sumOf : MethodName := ⟨RX5, "sumOf", "([I)I"⟩
abbrev cX5_copyNumbers : ByteArray := prog_1_method_35_code
def yX5_copyNumbers : MethodName := ⟨RX5, "copyNumbers", "([I[I)V"⟩
abbrev cX5_copyFlags : ByteArray := prog_1_method_36_code
def yX5_copyFlags : MethodName := ⟨RX5, "copyFlags", "([Z[Z)V"⟩
def RX6 : String := "PeatBanksModel"
def TX6 : u_T := fun k => match k with
  | 0 => ("PeatBanksModel", "thrown", "I", false)
  | 1 => ("PeatBanksModel", "s", "[I", true)
  | 2 => ("PeatBanksModel", "aside", "[I", true)
  | 3 => ("PeatBanksModel", "saved", "[I", true)
  | 4 => ("PeatBanksModel", "savedMany", "I", false)
  | 5 => ("PeatBanksModel", "snapshot", "[I", true)
  | 6 => ("PeatBanksModel", "hasSnapshot", "Z", false)
  | 7 => ("PeatBanksModel", "text", "[I", true)
  | 8 => ("PeatBanksModel", "length", "I", false)
  | 9 => ("PeatBanksModel", "at", "I", false)
  | 10 => ("PeatBanksModel", "isWell", "Z", false)
  | 11 => ("PeatBanksModel", "groups", "[I", true)
  | _ => ("PeatBanksModel", "groupMany", "I", false)
def tyX6 : Nat → FieldType := fun k => match k with
  | 0 => .int
  | 1 => .array .int
  | 2 => .array .int
  | 3 => .array .int
  | 4 => .int
  | 5 => .array .int
  | 6 => .boolean
  | 7 => .array .int
  | 8 => .int
  | 9 => .int
  | 10 => .boolean
  | 11 => .array .int
  | _ => .int
abbrev wsX60 : List Cond := u_ws RX6 TX6 13
theorem nmX6 : ∀ a, a < 13 → ∀ b, b < 13 → a ≠ b → (TX6 a).2.1 ≠ (TX6 b).2.1 := by decide +kernel
theorem tyX6_ok : ∀ k, k < 13 → parseFieldDescriptor (TX6 k).2.2.1 = some (tyX6 k) := by decide +kernel
abbrev cX6_init : ByteArray := prog_8_method_1_code
def yX6_init : MethodName := ⟨RX6, "<init>", "()V"⟩
abbrev cX6_in : ByteArray := prog_8_method_3_code
def yX6_in : MethodName := ⟨RX6, "in", "(III)Z"⟩
abbrev cX6_isCommoner : ByteArray := prog_8_method_4_code
def yX6_isCommoner : MethodName := ⟨RX6, "isCommoner", "(I)Z"⟩
abbrev cX6_isPlot : ByteArray := prog_8_method_5_code
def yX6_isPlot : MethodName := ⟨RX6, "isPlot", "(I)Z"⟩
abbrev cX6_ofCommoner : ByteArray := prog_8_method_6_code
def yX6_ofCommoner : MethodName := ⟨RX6, "ofCommoner", "(II)I"⟩
abbrev cX6_addCommoner : ByteArray := prog_8_method_7_code
def yX6_addCommoner : MethodName := ⟨RX6, "addCommoner", "(III)V"⟩
abbrev cX6_ofPlot : ByteArray := prog_8_method_8_code
def yX6_ofPlot : MethodName := ⟨RX6, "ofPlot", "(II)I"⟩
abbrev cX6_ofRow : ByteArray := prog_8_method_9_code
def yX6_ofRow : MethodName := ⟨RX6, "ofRow", "(II)I"⟩
abbrev cX6_layRow : ByteArray := prog_8_method_10_code
def yX6_layRow : MethodName := ⟨RX6, "layRow", "(III)V"⟩
abbrev cX6_ofDispute : ByteArray := prog_8_method_11_code
def yX6_ofDispute : MethodName := ⟨RX6, "ofDispute", "(II)I"⟩
abbrev cX6_placeOf : ByteArray := prog_8_method_12_code
def yX6_placeOf : MethodName := ⟨RX6, "placeOf", "(I)I"⟩
abbrev cX6_records : ByteArray := prog_8_method_13_code
def yX6_records : MethodName := ⟨RX6, "records", "()V"⟩
abbrev cX6_drier : ByteArray := prog_8_method_14_code
def yX6_drier : MethodName := ⟨RX6, "drier", "(II)I"⟩
abbrev cX6_weathers : ByteArray := prog_8_method_15_code
def yX6_weathers : MethodName := ⟨RX6, "weathers", "(I)V"⟩
abbrev cX6_brings : ByteArray := prog_8_method_16_code
def yX6_brings : MethodName := ⟨RX6, "brings", "(I)I"⟩
abbrev cX6_leaves : ByteArray := prog_8_method_17_code
def yX6_leaves : MethodName := ⟨RX6, "leaves", "(I)V"⟩
abbrev cX6_nextFor : ByteArray := prog_8_method_18_code
def yX6_nextFor : MethodName := ⟨RX6, "nextFor", "(I)I"⟩
abbrev cX6_serves : ByteArray := prog_8_method_19_code
def yX6_serves : MethodName := ⟨RX6, "serves", "(I)I"⟩
abbrev cX6_passes : ByteArray := prog_8_method_20_code
def yX6_passes : MethodName := ⟨RX6, "passes", "(I)I"⟩
abbrev cX6_lend : ByteArray := prog_8_method_21_code
def yX6_lend : MethodName := ⟨RX6, "lend", "(II)I"⟩
abbrev cX6_handOver : ByteArray := prog_8_method_22_code
def yX6_handOver : MethodName := ⟨RX6, "handOver", "(II)I"⟩
abbrev cX6_setDays : ByteArray := prog_8_method_23_code
def yX6_setDays : MethodName := ⟨RX6, "setDays", "(II)I"⟩
abbrev cX6_set : ByteArray := prog_8_method_24_code
def yX6_set : MethodName := ⟨RX6, "set", "(II)I"⟩
abbrev cX6_hasRight : ByteArray := prog_8_method_25_code
def yX6_hasRight : MethodName := ⟨RX6, "hasRight", "(II)Z"⟩
abbrev cX6_reason : ByteArray := prog_8_method_26_code
def yX6_reason : MethodName := ⟨RX6, "reason", "(II)I"⟩
abbrev cX6_opensDispute : ByteArray := prog_8_method_27_code
def yX6_opensDispute : MethodName := ⟨RX6, "opensDispute", "(III)V"⟩
abbrev cX6_cut : ByteArray := prog_8_method_28_code
def yX6_cut : MethodName := ⟨RX6, "cut", "(II)I"⟩
abbrev cX6_turn : ByteArray := prog_8_method_29_code
def yX6_turn : MethodName := ⟨RX6, "turn", "(I)I"⟩
abbrev cX6_rowsOf : ByteArray := prog_8_method_30_code
def yX6_rowsOf : MethodName := ⟨RX6, "rowsOf", "(IZ)I"⟩
abbrev cX6_stack : ByteArray := prog_8_method_31_code
def yX6_stack : MethodName := ⟨RX6, "stack", "(I)I"⟩
abbrev cX6_pass : ByteArray := prog_8_method_32_code
def yX6_pass : MethodName := ⟨RX6, "pass", "(I)I"⟩
abbrev cX6_passAll : ByteArray := prog_8_method_33_code
def yX6_passAll : MethodName := ⟨RX6, "passAll", "()I"⟩
abbrev cX6_dropsOldest : ByteArray := prog_8_method_34_code
def yX6_dropsOldest : MethodName := ⟨RX6, "dropsOldest", "()V"⟩
abbrev cX6_settle : ByteArray := prog_8_method_35_code
def yX6_settle : MethodName := ⟨RX6, "settle", "()I"⟩
abbrev cX6_endYear : ByteArray := prog_8_method_36_code
def yX6_endYear : MethodName := ⟨RX6, "endYear", "()I"⟩
abbrev cX6_type : ByteArray := prog_8_method_37_code
def yX6_type : MethodName := ⟨RX6, "type", "(C)I"⟩
abbrev cX6_clearText : ByteArray := prog_8_method_38_code
def yX6_clearText : MethodName := ⟨RX6, "clearText", "()I"⟩
abbrev cX6_sign : ByteArray := prog_8_method_39_code
def yX6_sign : MethodName := ⟨RX6, "sign", "()I"⟩
abbrev cX6_number : ByteArray := prog_8_method_40_code
def yX6_number : MethodName := ⟨RX6, "number", "()I"⟩
abbrev cX6_readsGroup : ByteArray := prog_8_method_41_code
def yX6_readsGroup : MethodName := ⟨RX6, "readsGroup", "()V"⟩
abbrev cX6_reads : ByteArray := prog_8_method_42_code
def yX6_reads : MethodName := ⟨RX6, "reads", "()I"⟩
abbrev cX6_undo : ByteArray := prog_8_method_43_code
def yX6_undo : MethodName := ⟨RX6, "undo", "()I"⟩
abbrev cX6_keep : ByteArray := prog_8_method_44_code
def yX6_keep : MethodName := ⟨RX6, "keep", "()I"⟩
abbrev cX6_restore : ByteArray := prog_8_method_45_code
def yX6_restore : MethodName := ⟨RX6, "restore", "()I"⟩
abbrev cX6_plotsOf : ByteArray := prog_8_method_46_code
def yX6_plotsOf : MethodName := ⟨RX6, "plotsOf", "(II)I"⟩
abbrev cX6_disputesOf : ByteArray := prog_8_method_47_code
def yX6_disputesOf : MethodName := ⟨RX6, "disputesOf", "(I)I"⟩
abbrev cX6_commoner : ByteArray := prog_8_method_48_code
def yX6_commoner : MethodName := ⟨RX6, "commoner", "(II)I"⟩
abbrev cX6_plot : ByteArray := prog_8_method_49_code
def yX6_plot : MethodName := ⟨RX6, "plot", "(II)I"⟩
abbrev cX6_row : ByteArray := prog_8_method_50_code
def yX6_row : MethodName := ⟨RX6, "row", "(II)I"⟩
abbrev cX6_ahead : ByteArray := prog_8_method_51_code
def yX6_ahead : MethodName := ⟨RX6, "ahead", "(I)I"⟩
abbrev cX6_driest : ByteArray := prog_8_method_52_code
def yX6_driest : MethodName := ⟨RX6, "driest", "(II)I"⟩
abbrev cX6_why : ByteArray := prog_8_method_53_code
def yX6_why : MethodName := ⟨RX6, "why", "(II)I"⟩
abbrev cX6_dispute : ByteArray := prog_8_method_54_code
def yX6_dispute : MethodName := ⟨RX6, "dispute", "(II)I"⟩
abbrev cX6_cart : ByteArray := prog_8_method_55_code
def yX6_cart : MethodName := ⟨RX6, "cart", "(I)I"⟩
abbrev cX6_would : ByteArray := prog_8_method_56_code
def yX6_would : MethodName := ⟨RX6, "would", "(II)I"⟩
abbrev cX6_rowsThat : ByteArray := prog_8_method_57_code
def yX6_rowsThat : MethodName := ⟨RX6, "rowsThat", "(I)I"⟩
abbrev cX6_allPeats : ByteArray := prog_8_method_58_code
def yX6_allPeats : MethodName := ⟨RX6, "allPeats", "()I"⟩
abbrev cX6_allLayers : ByteArray := prog_8_method_59_code
def yX6_allLayers : MethodName := ⟨RX6, "allLayers", "()I"⟩
abbrev cX6_count : ByteArray := prog_8_method_60_code
def yX6_count : MethodName := ⟨RX6, "count", "(I)I"⟩
def RJ9 : String := "java/lang/Math"
def TJ9 : u_T := fun k => match k with
  | _ => ("", "", "", false)
def tyJ9 : Nat → FieldType := fun k => match k with
  | _ => .int
abbrev wsJ90 : List Cond := u_ws RJ9 TJ9 0
theorem nmJ9 : ∀ a, a < 0 → ∀ b, b < 0 → a ≠ b → (TJ9 a).2.1 ≠ (TJ9 b).2.1 := by decide +kernel
theorem tyJ9_ok : ∀ k, k < 0 → parseFieldDescriptor (TJ9 k).2.2.1 = some (tyJ9 k) := by decide +kernel
abbrev cJ9_max_7cf53 : ByteArray := prog_9_method_65_code
def yJ9_max_7cf53 : MethodName := ⟨RJ9, "max", "(II)I"⟩
abbrev cJ9_min_7cf53 : ByteArray := prog_9_method_69_code
def yJ9_min_7cf53 : MethodName := ⟨RJ9, "min", "(II)I"⟩
def RJ10 : String := "java/lang/System"
def TJ10 : u_T := fun k => match k with
  | _ => ("", "", "", false)
def tyJ10 : Nat → FieldType := fun k => match k with
  | _ => .int
abbrev wsJ100 : List Cond := u_ws RJ10 TJ10 0
theorem nmJ10 : ∀ a, a < 0 → ∀ b, b < 0 → a ≠ b → (TJ10 a).2.1 ≠ (TJ10 b).2.1 := by decide +kernel
theorem tyJ10_ok : ∀ k, k < 0 → parseFieldDescriptor (TJ10 k).2.2.1 = some (tyJ10 k) := by decide +kernel
def RL : String := "PeatBanksLaw"
abbrev cL_law : ByteArray := code
def yL_law : MethodName := ⟨RL, "law", "([I)Z"⟩
def wsX0_init : List Cond := .code yX0_init cX0_init 1 none :: ([.methodLink RX0 3 objectInit, .instanceMethod objectInit, .code objectInit ⟨#[0xb1]⟩ 1 none, .arrayClass .char, .fieldLink RX0 9 "PeatBanks$DayText" "characters" "[C", .arrayClass .int, .fieldLink RX0 15 "PeatBanks$DayText" "groupWeather" "[I", .fieldLink RX0 19 "PeatBanks$DayText" "groupDays" "[I"] ++ wsX00)
def wsX0_append : List Cond := .code yX0_append cX0_append 2 (some .boolean) :: ([.fieldLink RX0 22 "PeatBanks$DayText" "length" "I", .fieldLink RX0 9 "PeatBanks$DayText" "characters" "[C"] ++ wsX00)
def wsX0_isWeatherLetter : List Cond := .code yX0_isWeatherLetter cX0_isWeatherLetter 1 (some .boolean) :: ([])
def wsX0_weatherOf : List Cond := .code yX0_weatherOf cX0_weatherOf 1 (some .int) :: ([])
def wsX0_openGroup : List Cond := .code yX0_openGroup cX0_openGroup 2 none :: ([.fieldLink RX0 26 "PeatBanks$DayText" "groups" "I", .fieldLink RX0 15 "PeatBanks$DayText" "groupWeather" "[I", .fieldLink RX0 19 "PeatBanks$DayText" "groupDays" "[I"] ++ wsX00)
def wsX0_isDigit : List Cond := .code yX0_isDigit cX0_isDigit 1 (some .boolean) :: ([])
def wsX0_readGroups : List Cond := .code yX0_readGroups cX0_readGroups 4 (some .int) :: ([.fieldLink RX0 26 "PeatBanks$DayText" "groups" "I", .fieldLink RX0 22 "PeatBanks$DayText" "length" "I", .fieldLink RX0 9 "PeatBanks$DayText" "characters" "[C", .fieldLink RX0 19 "PeatBanks$DayText" "groupDays" "[I", .methodLink RX0 29 yX0_isWeatherLetter, .static yX0_isWeatherLetter, .initialized RX0, .code yX0_isWeatherLetter cX0_isWeatherLetter 1 (some .boolean), .methodLink RX0 33 yX0_weatherOf, .static yX0_weatherOf, .code yX0_weatherOf cX0_weatherOf 1 (some .int), .methodLink RX0 37 yX0_openGroup, .instanceMethod yX0_openGroup, .selects RX0 yX0_openGroup yX0_openGroup, .code yX0_openGroup cX0_openGroup 2 none, .fieldLink RX0 15 "PeatBanks$DayText" "groupWeather" "[I", .methodLink RX0 41 yX0_isDigit, .static yX0_isDigit, .code yX0_isDigit cX0_isDigit 1 (some .boolean)] ++ wsX00)
def wsX1_init : List Cond := .code yX1_init cX1_init 1 none :: ([.methodLink RX1 3 objectInit, .instanceMethod objectInit, .code objectInit ⟨#[0xb1]⟩ 1 none, .arrayClass .int, .fieldLink RX1 9 "PeatBanks$Disputes" "cutter" "[I", .fieldLink RX1 15 "PeatBanks$Disputes" "wronged" "[I", .fieldLink RX1 18 "PeatBanks$Disputes" "row" "[I", .fieldLink RX1 21 "PeatBanks$Disputes" "plot" "[I"] ++ wsX10)
def wsX5_copyNumbers : List Cond := .code yX5_copyNumbers cX5_copyNumbers 2 none :: ([.methodLink RX5 240 Lib.Math.min.name, .static Lib.Math.min.name, .initialized "java/lang/Math", .code Lib.Math.min.name Lib.Math.min.code 2 (some .int), .methodLink RX5 245 arraycopyName, .native arraycopyName, .static arraycopyName, .initialized "java/lang/System"])
def wsX1_copyFrom : List Cond := .code yX1_copyFrom cX1_copyFrom 2 none :: ([.fieldLink RX1 9 "PeatBanks$Disputes" "cutter" "[I", .fieldLink RX1 15 "PeatBanks$Disputes" "wronged" "[I", .fieldLink RX1 18 "PeatBanks$Disputes" "row" "[I", .fieldLink RX1 21 "PeatBanks$Disputes" "plot" "[I", .fieldLink RX1 28 "PeatBanks$Disputes" "settled" "I", .fieldLink RX1 32 "PeatBanks$Disputes" "soFar" "I", .static yX5_copyNumbers, .initialized RX5, .code yX5_copyNumbers cX5_copyNumbers 2 none, .methodLink RX5 240 Lib.Math.min.name, .static Lib.Math.min.name, .initialized "java/lang/Math", .code Lib.Math.min.name Lib.Math.min.code 2 (some .int), .methodLink RX5 245 arraycopyName, .native arraycopyName, .static arraycopyName, .initialized "java/lang/System"] ++ wsX10)
def wsX1_open : List Cond := .code yX1_open cX1_open 5 none :: ([.fieldLink RX1 32 "PeatBanks$Disputes" "soFar" "I", .fieldLink RX1 9 "PeatBanks$Disputes" "cutter" "[I", .fieldLink RX1 15 "PeatBanks$Disputes" "wronged" "[I", .fieldLink RX1 18 "PeatBanks$Disputes" "row" "[I", .fieldLink RX1 21 "PeatBanks$Disputes" "plot" "[I"] ++ wsX10)
def wsX1_countOpen : List Cond := .code yX1_countOpen cX1_countOpen 1 (some .int) :: ([.fieldLink RX1 32 "PeatBanks$Disputes" "soFar" "I", .fieldLink RX1 28 "PeatBanks$Disputes" "settled" "I"] ++ wsX10)
def wsX5_oneIf : List Cond := .code yX5_oneIf cX5_oneIf 1 (some .int) :: ([])
def wsX1_countOpenWith : List Cond := .code yX1_countOpenWith cX1_countOpenWith 4 (some .int) :: ([.fieldLink RX1 28 "PeatBanks$Disputes" "settled" "I", .fieldLink RX1 32 "PeatBanks$Disputes" "soFar" "I", .fieldLink RX1 9 "PeatBanks$Disputes" "cutter" "[I", .fieldLink RX1 15 "PeatBanks$Disputes" "wronged" "[I", .static yX5_oneIf, .initialized RX5, .code yX5_oneIf cX5_oneIf 1 (some .int)] ++ wsX10)
def wsX4_init : List Cond := .code yX4_init cX4_init 1 none :: ([.methodLink RX4 3 objectInit, .instanceMethod objectInit, .code objectInit ⟨#[0xb1]⟩ 1 none, .arrayClass .int, .fieldLink RX4 9 "PeatBanks$Rows" "owner" "[I", .fieldLink RX4 15 "PeatBanks$Rows" "plot" "[I", .fieldLink RX4 18 "PeatBanks$Rows" "wetness" "[I", .arrayClass .boolean, .fieldLink RX4 21 "PeatBanks$Rows" "turned" "[Z", .fieldLink RX4 25 "PeatBanks$Rows" "stacked" "[Z", .fieldLink RX4 28 "PeatBanks$Rows" "lying" "[Z"] ++ wsX40)
def wsX3_init_r1 : List Cond := [Cond.methodLink RX3 3 objectInit, Cond.instanceMethod objectInit, Cond.code objectInit ⟨#[0xb1]⟩ 1 none, Cond.arrayClass .int, Cond.fieldLink RX3 9 "PeatBanks$Moss" "layers" "[I", Cond.fieldLink RX3 15 "PeatBanks$Moss" "owners" "[I", Cond.fieldLink RX3 18 "PeatBanks$Moss" "rights" "[I", Cond.fieldLink RX3 21 "PeatBanks$Moss" "days" "[I", Cond.fieldLink RX3 24 "PeatBanks$Moss" "used" "[I", Cond.fieldLink RX3 27 "PeatBanks$Moss" "hearths" "[I", Cond.classLink RX3 30 RX4, Cond.instantiable RX4 7, Cond.initialized RX4, Cond.fieldLink RX3 33 "PeatBanks$Moss" "rows" "LPeatBanks$Rows;", Cond.classLink RX3 37 RX1, Cond.instantiable RX1 6, Cond.initialized RX1, Cond.fieldLink RX3 40 "PeatBanks$Moss" "disputes" "LPeatBanks$Disputes;", Cond.fieldLink RX3 44 "PeatBanks$Moss" "cartRows" "I", Cond.methodLink RX3 32 yX4_init, Cond.instanceMethod yX4_init, Cond.code yX4_init cX4_init 1 none, Cond.methodLink RX4 3 objectInit, Cond.fieldLink RX4 9 "PeatBanks$Rows" "owner" "[I"]
def wsX3_init_r2 : List Cond := [Cond.fieldLink RX4 15 "PeatBanks$Rows" "plot" "[I", Cond.fieldLink RX4 18 "PeatBanks$Rows" "wetness" "[I", Cond.arrayClass .boolean, Cond.fieldLink RX4 21 "PeatBanks$Rows" "turned" "[Z", Cond.fieldLink RX4 25 "PeatBanks$Rows" "stacked" "[Z", Cond.fieldLink RX4 28 "PeatBanks$Rows" "lying" "[Z", Cond.methodLink RX3 39 yX1_init, Cond.instanceMethod yX1_init, Cond.code yX1_init cX1_init 1 none, Cond.methodLink RX1 3 objectInit, Cond.fieldLink RX1 9 "PeatBanks$Disputes" "cutter" "[I", Cond.fieldLink RX1 15 "PeatBanks$Disputes" "wronged" "[I", Cond.fieldLink RX1 18 "PeatBanks$Disputes" "row" "[I", Cond.fieldLink RX1 21 "PeatBanks$Disputes" "plot" "[I"]
def wsX3_init : List Cond := .code yX3_init cX3_init 2 none :: ((wsX3_init_r1 ++ wsX3_init_r2) ++ wsX30 ++ wsX40 ++ wsX10)
def wsX2_init_r1 : List Cond := [Cond.methodLink RX2 3 objectInit, Cond.instanceMethod objectInit, Cond.code objectInit ⟨#[0xb1]⟩ 1 none, Cond.classLink RX2 9 RX3, Cond.instantiable RX3 14, Cond.initialized RX3, Cond.fieldLink RX2 12 "PeatBanks$History" "latest" "LPeatBanks$Moss;", Cond.fieldLink RX2 18 "PeatBanks$History" "second" "LPeatBanks$Moss;", Cond.fieldLink RX2 21 "PeatBanks$History" "third" "LPeatBanks$Moss;", Cond.fieldLink RX2 24 "PeatBanks$History" "oldest" "LPeatBanks$Moss;", Cond.methodLink RX2 11 yX3_init, Cond.instanceMethod yX3_init, Cond.code yX3_init cX3_init 2 none, Cond.methodLink RX3 3 objectInit, Cond.arrayClass .int, Cond.fieldLink RX3 9 "PeatBanks$Moss" "layers" "[I", Cond.fieldLink RX3 15 "PeatBanks$Moss" "owners" "[I", Cond.fieldLink RX3 18 "PeatBanks$Moss" "rights" "[I", Cond.fieldLink RX3 21 "PeatBanks$Moss" "days" "[I", Cond.fieldLink RX3 24 "PeatBanks$Moss" "used" "[I", Cond.fieldLink RX3 27 "PeatBanks$Moss" "hearths" "[I", Cond.classLink RX3 30 RX4, Cond.instantiable RX4 7, Cond.initialized RX4]
def wsX2_init_r2 : List Cond := [Cond.fieldLink RX3 33 "PeatBanks$Moss" "rows" "LPeatBanks$Rows;", Cond.classLink RX3 37 RX1, Cond.instantiable RX1 6, Cond.initialized RX1, Cond.fieldLink RX3 40 "PeatBanks$Moss" "disputes" "LPeatBanks$Disputes;", Cond.fieldLink RX3 44 "PeatBanks$Moss" "cartRows" "I", Cond.methodLink RX3 32 yX4_init, Cond.instanceMethod yX4_init, Cond.code yX4_init cX4_init 1 none, Cond.methodLink RX4 3 objectInit, Cond.fieldLink RX4 9 "PeatBanks$Rows" "owner" "[I", Cond.fieldLink RX4 15 "PeatBanks$Rows" "plot" "[I", Cond.fieldLink RX4 18 "PeatBanks$Rows" "wetness" "[I", Cond.arrayClass .boolean, Cond.fieldLink RX4 21 "PeatBanks$Rows" "turned" "[Z", Cond.fieldLink RX4 25 "PeatBanks$Rows" "stacked" "[Z", Cond.fieldLink RX4 28 "PeatBanks$Rows" "lying" "[Z", Cond.methodLink RX3 39 yX1_init, Cond.instanceMethod yX1_init, Cond.code yX1_init cX1_init 1 none, Cond.methodLink RX1 3 objectInit, Cond.fieldLink RX1 9 "PeatBanks$Disputes" "cutter" "[I", Cond.fieldLink RX1 15 "PeatBanks$Disputes" "wronged" "[I", Cond.fieldLink RX1 18 "PeatBanks$Disputes" "row" "[I"]
def wsX2_init_r3 : List Cond := [Cond.fieldLink RX1 21 "PeatBanks$Disputes" "plot" "[I"]
def wsX2_init : List Cond := .code yX2_init cX2_init 1 none :: ((wsX2_init_r1 ++ (wsX2_init_r2 ++ wsX2_init_r3)) ++ wsX30 ++ wsX20 ++ wsX40 ++ wsX10)
def wsX5_copyFlags : List Cond := .code yX5_copyFlags cX5_copyFlags 2 none :: ([.methodLink RX5 240 Lib.Math.min.name, .static Lib.Math.min.name, .initialized "java/lang/Math", .code Lib.Math.min.name Lib.Math.min.code 2 (some .int), .methodLink RX5 245 arraycopyName, .native arraycopyName, .static arraycopyName, .initialized "java/lang/System"])
def wsX4_copyFrom : List Cond := .code yX4_copyFrom cX4_copyFrom 2 none :: ([.fieldLink RX4 9 "PeatBanks$Rows" "owner" "[I", .fieldLink RX4 15 "PeatBanks$Rows" "plot" "[I", .fieldLink RX4 18 "PeatBanks$Rows" "wetness" "[I", .fieldLink RX4 21 "PeatBanks$Rows" "turned" "[Z", .fieldLink RX4 25 "PeatBanks$Rows" "stacked" "[Z", .fieldLink RX4 28 "PeatBanks$Rows" "lying" "[Z", .fieldLink RX4 39 "PeatBanks$Rows" "soFar" "I", .static yX5_copyNumbers, .initialized RX5, .code yX5_copyNumbers cX5_copyNumbers 2 none, .methodLink RX5 240 Lib.Math.min.name, .static Lib.Math.min.name, .initialized "java/lang/Math", .code Lib.Math.min.name Lib.Math.min.code 2 (some .int), .methodLink RX5 245 arraycopyName, .native arraycopyName, .static arraycopyName, .initialized "java/lang/System", .static yX5_copyFlags, .code yX5_copyFlags cX5_copyFlags 2 none] ++ wsX40)
def wsX3_copyFrom_r1 : List Cond := [Cond.fieldLink RX3 9 "PeatBanks$Moss" "layers" "[I", Cond.fieldLink RX3 15 "PeatBanks$Moss" "owners" "[I", Cond.fieldLink RX3 18 "PeatBanks$Moss" "rights" "[I", Cond.fieldLink RX3 21 "PeatBanks$Moss" "days" "[I", Cond.fieldLink RX3 24 "PeatBanks$Moss" "used" "[I", Cond.fieldLink RX3 27 "PeatBanks$Moss" "hearths" "[I", Cond.fieldLink RX3 33 "PeatBanks$Moss" "rows" "LPeatBanks$Rows;", Cond.fieldLink RX3 40 "PeatBanks$Moss" "disputes" "LPeatBanks$Disputes;", Cond.fieldLink RX3 44 "PeatBanks$Moss" "cartRows" "I", Cond.fieldLink RX3 59 "PeatBanks$Moss" "stakes" "I", Cond.fieldLink RX3 62 "PeatBanks$Moss" "rota" "I", Cond.fieldLink RX3 65 "PeatBanks$Moss" "dayOfYear" "I", Cond.fieldLink RX3 68 "PeatBanks$Moss" "years" "I", Cond.fieldLink RX3 71 "PeatBanks$Moss" "rowsHome" "I", Cond.static yX5_copyNumbers, Cond.initialized RX5, Cond.code yX5_copyNumbers cX5_copyNumbers 2 none, Cond.methodLink RX5 240 Lib.Math.min.name, Cond.static Lib.Math.min.name, Cond.initialized "java/lang/Math", Cond.code Lib.Math.min.name Lib.Math.min.code 2 (some .int), Cond.methodLink RX5 245 arraycopyName, Cond.native arraycopyName, Cond.static arraycopyName]
def wsX3_copyFrom_r2 : List Cond := [Cond.initialized "java/lang/System", Cond.methodLink RX3 52 yX4_copyFrom, Cond.instanceMethod yX4_copyFrom, Cond.selects RX4 yX4_copyFrom yX4_copyFrom, Cond.initialized RX4, Cond.code yX4_copyFrom cX4_copyFrom 2 none, Cond.fieldLink RX4 9 "PeatBanks$Rows" "owner" "[I", Cond.fieldLink RX4 15 "PeatBanks$Rows" "plot" "[I", Cond.fieldLink RX4 18 "PeatBanks$Rows" "wetness" "[I", Cond.fieldLink RX4 21 "PeatBanks$Rows" "turned" "[Z", Cond.fieldLink RX4 25 "PeatBanks$Rows" "stacked" "[Z", Cond.fieldLink RX4 28 "PeatBanks$Rows" "lying" "[Z", Cond.fieldLink RX4 39 "PeatBanks$Rows" "soFar" "I", Cond.static yX5_copyFlags, Cond.code yX5_copyFlags cX5_copyFlags 2 none, Cond.methodLink RX3 56 yX1_copyFrom, Cond.instanceMethod yX1_copyFrom, Cond.selects RX1 yX1_copyFrom yX1_copyFrom, Cond.initialized RX1, Cond.code yX1_copyFrom cX1_copyFrom 2 none, Cond.fieldLink RX1 9 "PeatBanks$Disputes" "cutter" "[I", Cond.fieldLink RX1 15 "PeatBanks$Disputes" "wronged" "[I", Cond.fieldLink RX1 18 "PeatBanks$Disputes" "row" "[I", Cond.fieldLink RX1 21 "PeatBanks$Disputes" "plot" "[I"]
def wsX3_copyFrom_r3 : List Cond := [Cond.fieldLink RX1 28 "PeatBanks$Disputes" "settled" "I", Cond.fieldLink RX1 32 "PeatBanks$Disputes" "soFar" "I"]
def wsX3_copyFrom : List Cond := .code yX3_copyFrom cX3_copyFrom 2 none :: ((wsX3_copyFrom_r1 ++ (wsX3_copyFrom_r2 ++ wsX3_copyFrom_r3)) ++ wsX30 ++ wsX40 ++ wsX10)
def wsX2_record_r1 : List Cond := [Cond.fieldLink RX2 24 "PeatBanks$History" "oldest" "LPeatBanks$Moss;", Cond.fieldLink RX2 21 "PeatBanks$History" "third" "LPeatBanks$Moss;", Cond.fieldLink RX2 18 "PeatBanks$History" "second" "LPeatBanks$Moss;", Cond.fieldLink RX2 12 "PeatBanks$History" "latest" "LPeatBanks$Moss;", Cond.fieldLink RX2 31 "PeatBanks$History" "states" "I", Cond.methodLink RX2 35 Lib.Math.min.name, Cond.static Lib.Math.min.name, Cond.initialized "java/lang/Math", Cond.code Lib.Math.min.name Lib.Math.min.code 2 (some .int), Cond.methodLink RX2 27 yX3_copyFrom, Cond.instanceMethod yX3_copyFrom, Cond.selects RX3 yX3_copyFrom yX3_copyFrom, Cond.initialized RX3, Cond.code yX3_copyFrom cX3_copyFrom 2 none, Cond.fieldLink RX3 9 "PeatBanks$Moss" "layers" "[I", Cond.fieldLink RX3 15 "PeatBanks$Moss" "owners" "[I", Cond.fieldLink RX3 18 "PeatBanks$Moss" "rights" "[I", Cond.fieldLink RX3 21 "PeatBanks$Moss" "days" "[I", Cond.fieldLink RX3 24 "PeatBanks$Moss" "used" "[I", Cond.fieldLink RX3 27 "PeatBanks$Moss" "hearths" "[I", Cond.fieldLink RX3 33 "PeatBanks$Moss" "rows" "LPeatBanks$Rows;", Cond.fieldLink RX3 40 "PeatBanks$Moss" "disputes" "LPeatBanks$Disputes;", Cond.fieldLink RX3 44 "PeatBanks$Moss" "cartRows" "I", Cond.fieldLink RX3 59 "PeatBanks$Moss" "stakes" "I"]
def wsX2_record_r2 : List Cond := [Cond.fieldLink RX3 62 "PeatBanks$Moss" "rota" "I", Cond.fieldLink RX3 65 "PeatBanks$Moss" "dayOfYear" "I", Cond.fieldLink RX3 68 "PeatBanks$Moss" "years" "I", Cond.fieldLink RX3 71 "PeatBanks$Moss" "rowsHome" "I", Cond.static yX5_copyNumbers, Cond.initialized RX5, Cond.code yX5_copyNumbers cX5_copyNumbers 2 none, Cond.methodLink RX5 240 Lib.Math.min.name, Cond.methodLink RX5 245 arraycopyName, Cond.native arraycopyName, Cond.static arraycopyName, Cond.initialized "java/lang/System", Cond.methodLink RX3 52 yX4_copyFrom, Cond.instanceMethod yX4_copyFrom, Cond.selects RX4 yX4_copyFrom yX4_copyFrom, Cond.initialized RX4, Cond.code yX4_copyFrom cX4_copyFrom 2 none, Cond.fieldLink RX4 9 "PeatBanks$Rows" "owner" "[I", Cond.fieldLink RX4 15 "PeatBanks$Rows" "plot" "[I", Cond.fieldLink RX4 18 "PeatBanks$Rows" "wetness" "[I", Cond.fieldLink RX4 21 "PeatBanks$Rows" "turned" "[Z", Cond.fieldLink RX4 25 "PeatBanks$Rows" "stacked" "[Z", Cond.fieldLink RX4 28 "PeatBanks$Rows" "lying" "[Z", Cond.fieldLink RX4 39 "PeatBanks$Rows" "soFar" "I"]
def wsX2_record_r3 : List Cond := [Cond.static yX5_copyFlags, Cond.code yX5_copyFlags cX5_copyFlags 2 none, Cond.methodLink RX3 56 yX1_copyFrom, Cond.instanceMethod yX1_copyFrom, Cond.selects RX1 yX1_copyFrom yX1_copyFrom, Cond.initialized RX1, Cond.code yX1_copyFrom cX1_copyFrom 2 none, Cond.fieldLink RX1 9 "PeatBanks$Disputes" "cutter" "[I", Cond.fieldLink RX1 15 "PeatBanks$Disputes" "wronged" "[I", Cond.fieldLink RX1 18 "PeatBanks$Disputes" "row" "[I", Cond.fieldLink RX1 21 "PeatBanks$Disputes" "plot" "[I", Cond.fieldLink RX1 28 "PeatBanks$Disputes" "settled" "I", Cond.fieldLink RX1 32 "PeatBanks$Disputes" "soFar" "I"]
def wsX2_record : List Cond := .code yX2_record cX2_record 3 none :: ((wsX2_record_r1 ++ (wsX2_record_r2 ++ wsX2_record_r3)) ++ wsX20 ++ wsX30 ++ wsX40 ++ wsX10)
def wsX2_takeBack_r1 : List Cond := [Cond.fieldLink RX2 31 "PeatBanks$History" "states" "I", Cond.fieldLink RX2 12 "PeatBanks$History" "latest" "LPeatBanks$Moss;", Cond.fieldLink RX2 18 "PeatBanks$History" "second" "LPeatBanks$Moss;", Cond.fieldLink RX2 21 "PeatBanks$History" "third" "LPeatBanks$Moss;", Cond.fieldLink RX2 24 "PeatBanks$History" "oldest" "LPeatBanks$Moss;", Cond.methodLink RX2 27 yX3_copyFrom, Cond.instanceMethod yX3_copyFrom, Cond.selects RX3 yX3_copyFrom yX3_copyFrom, Cond.initialized RX3, Cond.code yX3_copyFrom cX3_copyFrom 2 none, Cond.fieldLink RX3 9 "PeatBanks$Moss" "layers" "[I", Cond.fieldLink RX3 15 "PeatBanks$Moss" "owners" "[I", Cond.fieldLink RX3 18 "PeatBanks$Moss" "rights" "[I", Cond.fieldLink RX3 21 "PeatBanks$Moss" "days" "[I", Cond.fieldLink RX3 24 "PeatBanks$Moss" "used" "[I", Cond.fieldLink RX3 27 "PeatBanks$Moss" "hearths" "[I", Cond.fieldLink RX3 33 "PeatBanks$Moss" "rows" "LPeatBanks$Rows;", Cond.fieldLink RX3 40 "PeatBanks$Moss" "disputes" "LPeatBanks$Disputes;", Cond.fieldLink RX3 44 "PeatBanks$Moss" "cartRows" "I", Cond.fieldLink RX3 59 "PeatBanks$Moss" "stakes" "I", Cond.fieldLink RX3 62 "PeatBanks$Moss" "rota" "I", Cond.fieldLink RX3 65 "PeatBanks$Moss" "dayOfYear" "I", Cond.fieldLink RX3 68 "PeatBanks$Moss" "years" "I", Cond.fieldLink RX3 71 "PeatBanks$Moss" "rowsHome" "I"]
def wsX2_takeBack_r2 : List Cond := [Cond.static yX5_copyNumbers, Cond.initialized RX5, Cond.code yX5_copyNumbers cX5_copyNumbers 2 none, Cond.methodLink RX5 240 Lib.Math.min.name, Cond.static Lib.Math.min.name, Cond.initialized "java/lang/Math", Cond.code Lib.Math.min.name Lib.Math.min.code 2 (some .int), Cond.methodLink RX5 245 arraycopyName, Cond.native arraycopyName, Cond.static arraycopyName, Cond.initialized "java/lang/System", Cond.methodLink RX3 52 yX4_copyFrom, Cond.instanceMethod yX4_copyFrom, Cond.selects RX4 yX4_copyFrom yX4_copyFrom, Cond.initialized RX4, Cond.code yX4_copyFrom cX4_copyFrom 2 none, Cond.fieldLink RX4 9 "PeatBanks$Rows" "owner" "[I", Cond.fieldLink RX4 15 "PeatBanks$Rows" "plot" "[I", Cond.fieldLink RX4 18 "PeatBanks$Rows" "wetness" "[I", Cond.fieldLink RX4 21 "PeatBanks$Rows" "turned" "[Z", Cond.fieldLink RX4 25 "PeatBanks$Rows" "stacked" "[Z", Cond.fieldLink RX4 28 "PeatBanks$Rows" "lying" "[Z", Cond.fieldLink RX4 39 "PeatBanks$Rows" "soFar" "I", Cond.static yX5_copyFlags]
def wsX2_takeBack_r3 : List Cond := [Cond.code yX5_copyFlags cX5_copyFlags 2 none, Cond.methodLink RX3 56 yX1_copyFrom, Cond.instanceMethod yX1_copyFrom, Cond.selects RX1 yX1_copyFrom yX1_copyFrom, Cond.initialized RX1, Cond.code yX1_copyFrom cX1_copyFrom 2 none, Cond.fieldLink RX1 9 "PeatBanks$Disputes" "cutter" "[I", Cond.fieldLink RX1 15 "PeatBanks$Disputes" "wronged" "[I", Cond.fieldLink RX1 18 "PeatBanks$Disputes" "row" "[I", Cond.fieldLink RX1 21 "PeatBanks$Disputes" "plot" "[I", Cond.fieldLink RX1 28 "PeatBanks$Disputes" "settled" "I", Cond.fieldLink RX1 32 "PeatBanks$Disputes" "soFar" "I"]
def wsX2_takeBack : List Cond := .code yX2_takeBack cX2_takeBack 3 none :: ((wsX2_takeBack_r1 ++ (wsX2_takeBack_r2 ++ wsX2_takeBack_r3)) ++ wsX20 ++ wsX30 ++ wsX40 ++ wsX10)
def wsX5_isWithin : List Cond := .code yX5_isWithin cX5_isWithin 3 (some .boolean) :: ([])
def wsX5_isCommoner : List Cond := .code yX5_isCommoner cX5_isCommoner 1 (some .boolean) :: ([.methodLink RX5 58 yX5_isWithin, .static yX5_isWithin, .initialized RX5, .code yX5_isWithin cX5_isWithin 3 (some .boolean)])
def wsX3_hasDayLeft : List Cond := .code yX3_hasDayLeft cX3_hasDayLeft 2 (some .boolean) :: ([.fieldLink RX3 24 "PeatBanks$Moss" "used" "[I", .fieldLink RX3 21 "PeatBanks$Moss" "days" "[I", .static yX5_isCommoner, .initialized RX5, .code yX5_isCommoner cX5_isCommoner 1 (some .boolean), .methodLink RX5 58 yX5_isWithin, .static yX5_isWithin, .code yX5_isWithin cX5_isWithin 3 (some .boolean)] ++ wsX30)
def wsX5_isPlot : List Cond := .code yX5_isPlot cX5_isPlot 1 (some .boolean) :: ([.methodLink RX5 58 yX5_isWithin, .static yX5_isWithin, .initialized RX5, .code yX5_isWithin cX5_isWithin 3 (some .boolean)])
def wsX4_countLying : List Cond := .code yX4_countLying cX4_countLying 3 (some .int) :: ([.fieldLink RX4 39 "PeatBanks$Rows" "soFar" "I", .fieldLink RX4 28 "PeatBanks$Rows" "lying" "[Z", .static yX5_oneIf, .initialized RX5, .code yX5_oneIf cX5_oneIf 1 (some .int)] ++ wsX40)
def wsX3_hasRight : List Cond := .code yX3_hasRight cX3_hasRight 3 (some .boolean) :: ([.fieldLink RX3 18 "PeatBanks$Moss" "rights" "[I", .static yX5_isPlot, .initialized RX5, .code yX5_isPlot cX5_isPlot 1 (some .boolean), .methodLink RX5 58 yX5_isWithin, .static yX5_isWithin, .code yX5_isWithin cX5_isWithin 3 (some .boolean)] ++ wsX30)
def wsX3_reasonAgainst_r1 : List Cond := [Cond.fieldLink RX3 9 "PeatBanks$Moss" "layers" "[I", Cond.fieldLink RX3 33 "PeatBanks$Moss" "rows" "LPeatBanks$Rows;", Cond.methodLink RX3 74 yX3_hasDayLeft, Cond.instanceMethod yX3_hasDayLeft, Cond.selects RX3 yX3_hasDayLeft yX3_hasDayLeft, Cond.initialized RX3, Cond.code yX3_hasDayLeft cX3_hasDayLeft 2 (some .boolean), Cond.fieldLink RX3 24 "PeatBanks$Moss" "used" "[I", Cond.fieldLink RX3 21 "PeatBanks$Moss" "days" "[I", Cond.static yX5_isCommoner, Cond.initialized RX5, Cond.code yX5_isCommoner cX5_isCommoner 1 (some .boolean), Cond.methodLink RX5 58 yX5_isWithin, Cond.static yX5_isWithin, Cond.code yX5_isWithin cX5_isWithin 3 (some .boolean), Cond.static yX5_isPlot, Cond.code yX5_isPlot cX5_isPlot 1 (some .boolean), Cond.methodLink RX3 81 yX4_countLying, Cond.instanceMethod yX4_countLying, Cond.selects RX4 yX4_countLying yX4_countLying, Cond.initialized RX4, Cond.code yX4_countLying cX4_countLying 3 (some .int), Cond.fieldLink RX4 39 "PeatBanks$Rows" "soFar" "I", Cond.fieldLink RX4 28 "PeatBanks$Rows" "lying" "[Z"]
def wsX3_reasonAgainst_r2 : List Cond := [Cond.static yX5_oneIf, Cond.code yX5_oneIf cX5_oneIf 1 (some .int), Cond.methodLink RX3 85 yX3_hasRight, Cond.instanceMethod yX3_hasRight, Cond.selects RX3 yX3_hasRight yX3_hasRight, Cond.code yX3_hasRight cX3_hasRight 3 (some .boolean), Cond.fieldLink RX3 18 "PeatBanks$Moss" "rights" "[I"]
def wsX3_reasonAgainst : List Cond := .code yX3_reasonAgainst cX3_reasonAgainst 4 (some .int) :: ((wsX3_reasonAgainst_r1 ++ wsX3_reasonAgainst_r2) ++ wsX30 ++ wsX40)
def wsX4_hasNumberLeft : List Cond := .code yX4_hasNumberLeft cX4_hasNumberLeft 1 (some .boolean) :: ([.fieldLink RX4 39 "PeatBanks$Rows" "soFar" "I"] ++ wsX40)
def wsX4_lay : List Cond := .code yX4_lay cX4_lay 4 (some .int) :: ([.fieldLink RX4 39 "PeatBanks$Rows" "soFar" "I", .fieldLink RX4 9 "PeatBanks$Rows" "owner" "[I", .fieldLink RX4 15 "PeatBanks$Rows" "plot" "[I", .fieldLink RX4 18 "PeatBanks$Rows" "wetness" "[I", .fieldLink RX4 21 "PeatBanks$Rows" "turned" "[Z", .fieldLink RX4 25 "PeatBanks$Rows" "stacked" "[Z", .fieldLink RX4 28 "PeatBanks$Rows" "lying" "[Z", .methodLink RX4 43 yX4_hasNumberLeft, .instanceMethod yX4_hasNumberLeft, .selects RX4 yX4_hasNumberLeft yX4_hasNumberLeft, .initialized RX4, .code yX4_hasNumberLeft cX4_hasNumberLeft 1 (some .boolean)] ++ wsX40)
def wsX3_takeLayer_r1 : List Cond := [Cond.fieldLink RX3 9 "PeatBanks$Moss" "layers" "[I", Cond.fieldLink RX3 24 "PeatBanks$Moss" "used" "[I", Cond.fieldLink RX3 33 "PeatBanks$Moss" "rows" "LPeatBanks$Rows;", Cond.fieldLink RX3 18 "PeatBanks$Moss" "rights" "[I", Cond.fieldLink RX3 40 "PeatBanks$Moss" "disputes" "LPeatBanks$Disputes;", Cond.static yX5_isCommoner, Cond.initialized RX5, Cond.code yX5_isCommoner cX5_isCommoner 1 (some .boolean), Cond.methodLink RX5 58 yX5_isWithin, Cond.static yX5_isWithin, Cond.code yX5_isWithin cX5_isWithin 3 (some .boolean), Cond.static yX5_isPlot, Cond.code yX5_isPlot cX5_isPlot 1 (some .boolean), Cond.methodLink RX3 92 yX4_lay, Cond.instanceMethod yX4_lay, Cond.selects RX4 yX4_lay yX4_lay, Cond.initialized RX4, Cond.code yX4_lay cX4_lay 4 (some .int), Cond.fieldLink RX4 39 "PeatBanks$Rows" "soFar" "I", Cond.fieldLink RX4 9 "PeatBanks$Rows" "owner" "[I", Cond.fieldLink RX4 15 "PeatBanks$Rows" "plot" "[I", Cond.fieldLink RX4 18 "PeatBanks$Rows" "wetness" "[I", Cond.fieldLink RX4 21 "PeatBanks$Rows" "turned" "[Z", Cond.fieldLink RX4 25 "PeatBanks$Rows" "stacked" "[Z"]
def wsX3_takeLayer_r2 : List Cond := [Cond.fieldLink RX4 28 "PeatBanks$Rows" "lying" "[Z", Cond.methodLink RX4 43 yX4_hasNumberLeft, Cond.instanceMethod yX4_hasNumberLeft, Cond.selects RX4 yX4_hasNumberLeft yX4_hasNumberLeft, Cond.code yX4_hasNumberLeft cX4_hasNumberLeft 1 (some .boolean), Cond.methodLink RX3 96 yX1_open, Cond.instanceMethod yX1_open, Cond.selects RX1 yX1_open yX1_open, Cond.initialized RX1, Cond.code yX1_open cX1_open 5 none, Cond.fieldLink RX1 32 "PeatBanks$Disputes" "soFar" "I", Cond.fieldLink RX1 9 "PeatBanks$Disputes" "cutter" "[I", Cond.fieldLink RX1 15 "PeatBanks$Disputes" "wronged" "[I", Cond.fieldLink RX1 18 "PeatBanks$Disputes" "row" "[I", Cond.fieldLink RX1 21 "PeatBanks$Disputes" "plot" "[I"]
def wsX3_takeLayer : List Cond := .code yX3_takeLayer cX3_takeLayer 4 (some .int) :: ((wsX3_takeLayer_r1 ++ wsX3_takeLayer_r2) ++ wsX30 ++ wsX40 ++ wsX10)
def wsX4_changeBy : List Cond := .code yX4_changeBy cX4_changeBy 2 (some .int) :: ([])
def wsX4_dryOrWet : List Cond := .code yX4_dryOrWet cX4_dryOrWet 4 none :: ([.fieldLink RX4 39 "PeatBanks$Rows" "soFar" "I", .fieldLink RX4 28 "PeatBanks$Rows" "lying" "[Z", .fieldLink RX4 25 "PeatBanks$Rows" "stacked" "[Z", .fieldLink RX4 18 "PeatBanks$Rows" "wetness" "[I", .fieldLink RX4 21 "PeatBanks$Rows" "turned" "[Z", .methodLink RX4 85 Lib.Math.min.name, .static Lib.Math.min.name, .initialized "java/lang/Math", .code Lib.Math.min.name Lib.Math.min.code 2 (some .int), .methodLink RX4 55 Lib.Math.max.name, .static Lib.Math.max.name, .code Lib.Math.max.name Lib.Math.max.code 2 (some .int), .methodLink RX4 81 yX4_changeBy, .static yX4_changeBy, .initialized RX4, .code yX4_changeBy cX4_changeBy 2 (some .int)] ++ wsX40)
def wsX3_commonerOfCart : List Cond := .code yX3_commonerOfCart cX3_commonerOfCart 2 (some .int) :: ([.fieldLink RX3 62 "PeatBanks$Moss" "rota" "I"] ++ wsX30)
def wsX4_driestStackedOf : List Cond := .code yX4_driestStackedOf cX4_driestStackedOf 4 (some .int) :: ([.fieldLink RX4 39 "PeatBanks$Rows" "soFar" "I", .fieldLink RX4 28 "PeatBanks$Rows" "lying" "[Z", .fieldLink RX4 25 "PeatBanks$Rows" "stacked" "[Z", .fieldLink RX4 9 "PeatBanks$Rows" "owner" "[I", .fieldLink RX4 18 "PeatBanks$Rows" "wetness" "[I"] ++ wsX40)
def wsX4_isLying : List Cond := .code yX4_isLying cX4_isLying 2 (some .boolean) :: ([.fieldLink RX4 39 "PeatBanks$Rows" "soFar" "I", .fieldLink RX4 28 "PeatBanks$Rows" "lying" "[Z", .static yX5_isWithin, .initialized RX5, .code yX5_isWithin cX5_isWithin 3 (some .boolean)] ++ wsX40)
def wsX4_peatsAtHearth : List Cond := .code yX4_peatsAtHearth cX4_peatsAtHearth 2 (some .int) :: ([.fieldLink RX4 18 "PeatBanks$Rows" "wetness" "[I", .methodLink RX4 55 Lib.Math.max.name, .static Lib.Math.max.name, .initialized "java/lang/Math", .code Lib.Math.max.name Lib.Math.max.code 2 (some .int), .methodLink RX4 51 yX4_isLying, .instanceMethod yX4_isLying, .selects RX4 yX4_isLying yX4_isLying, .initialized RX4, .code yX4_isLying cX4_isLying 2 (some .boolean), .fieldLink RX4 39 "PeatBanks$Rows" "soFar" "I", .fieldLink RX4 28 "PeatBanks$Rows" "lying" "[Z", .static yX5_isWithin, .initialized RX5, .code yX5_isWithin cX5_isWithin 3 (some .boolean)] ++ wsX40)
def wsX3_serve_r1 : List Cond := [Cond.fieldLink RX3 44 "PeatBanks$Moss" "cartRows" "I", Cond.fieldLink RX3 33 "PeatBanks$Moss" "rows" "LPeatBanks$Rows;", Cond.fieldLink RX3 27 "PeatBanks$Moss" "hearths" "[I", Cond.fieldLink RX3 120 "PeatBanks$Rows" "lying" "[Z", Cond.fieldLink RX3 71 "PeatBanks$Moss" "rowsHome" "I", Cond.methodLink RX3 111 yX4_driestStackedOf, Cond.instanceMethod yX4_driestStackedOf, Cond.selects RX4 yX4_driestStackedOf yX4_driestStackedOf, Cond.initialized RX4, Cond.code yX4_driestStackedOf cX4_driestStackedOf 4 (some .int), Cond.fieldLink RX4 39 "PeatBanks$Rows" "soFar" "I", Cond.fieldLink RX4 28 "PeatBanks$Rows" "lying" "[Z", Cond.fieldLink RX4 25 "PeatBanks$Rows" "stacked" "[Z", Cond.fieldLink RX4 9 "PeatBanks$Rows" "owner" "[I", Cond.fieldLink RX4 18 "PeatBanks$Rows" "wetness" "[I", Cond.static yX5_isCommoner, Cond.initialized RX5, Cond.code yX5_isCommoner cX5_isCommoner 1 (some .boolean), Cond.methodLink RX5 58 yX5_isWithin, Cond.static yX5_isWithin, Cond.code yX5_isWithin cX5_isWithin 3 (some .boolean), Cond.methodLink RX3 114 yX4_isLying, Cond.instanceMethod yX4_isLying, Cond.selects RX4 yX4_isLying yX4_isLying]
def wsX3_serve_r2 : List Cond := [Cond.code yX4_isLying cX4_isLying 2 (some .boolean), Cond.methodLink RX3 117 yX4_peatsAtHearth, Cond.instanceMethod yX4_peatsAtHearth, Cond.selects RX4 yX4_peatsAtHearth yX4_peatsAtHearth, Cond.code yX4_peatsAtHearth cX4_peatsAtHearth 2 (some .int), Cond.methodLink RX4 55 Lib.Math.max.name, Cond.static Lib.Math.max.name, Cond.initialized "java/lang/Math", Cond.code Lib.Math.max.name Lib.Math.max.code 2 (some .int), Cond.methodLink RX4 51 yX4_isLying]
def wsX3_serve : List Cond := .code yX3_serve cX3_serve 4 none :: ((wsX3_serve_r1 ++ wsX3_serve_r2) ++ wsX30 ++ wsX40)
def wsX3_passDays_r1 : List Cond := [Cond.fieldLink RX3 71 "PeatBanks$Moss" "rowsHome" "I", Cond.fieldLink RX3 33 "PeatBanks$Moss" "rows" "LPeatBanks$Rows;", Cond.fieldLink RX3 62 "PeatBanks$Moss" "rota" "I", Cond.fieldLink RX3 65 "PeatBanks$Moss" "dayOfYear" "I", Cond.methodLink RX3 100 yX4_dryOrWet, Cond.instanceMethod yX4_dryOrWet, Cond.selects RX4 yX4_dryOrWet yX4_dryOrWet, Cond.initialized RX4, Cond.code yX4_dryOrWet cX4_dryOrWet 4 none, Cond.fieldLink RX4 39 "PeatBanks$Rows" "soFar" "I", Cond.fieldLink RX4 28 "PeatBanks$Rows" "lying" "[Z", Cond.fieldLink RX4 25 "PeatBanks$Rows" "stacked" "[Z", Cond.fieldLink RX4 18 "PeatBanks$Rows" "wetness" "[I", Cond.fieldLink RX4 21 "PeatBanks$Rows" "turned" "[Z", Cond.methodLink RX4 85 Lib.Math.min.name, Cond.static Lib.Math.min.name, Cond.initialized "java/lang/Math", Cond.code Lib.Math.min.name Lib.Math.min.code 2 (some .int), Cond.methodLink RX4 55 Lib.Math.max.name, Cond.static Lib.Math.max.name, Cond.code Lib.Math.max.name Lib.Math.max.code 2 (some .int), Cond.methodLink RX4 81 yX4_changeBy, Cond.static yX4_changeBy, Cond.code yX4_changeBy cX4_changeBy 2 (some .int)]
def wsX3_passDays_r2 : List Cond := [Cond.methodLink RX3 104 yX3_commonerOfCart, Cond.instanceMethod yX3_commonerOfCart, Cond.selects RX3 yX3_commonerOfCart yX3_commonerOfCart, Cond.initialized RX3, Cond.code yX3_commonerOfCart cX3_commonerOfCart 2 (some .int), Cond.methodLink RX3 108 yX3_serve, Cond.instanceMethod yX3_serve, Cond.selects RX3 yX3_serve yX3_serve, Cond.code yX3_serve cX3_serve 4 none, Cond.fieldLink RX3 44 "PeatBanks$Moss" "cartRows" "I", Cond.fieldLink RX3 27 "PeatBanks$Moss" "hearths" "[I", Cond.fieldLink RX3 120 "PeatBanks$Rows" "lying" "[Z", Cond.methodLink RX3 111 yX4_driestStackedOf, Cond.instanceMethod yX4_driestStackedOf, Cond.selects RX4 yX4_driestStackedOf yX4_driestStackedOf, Cond.code yX4_driestStackedOf cX4_driestStackedOf 4 (some .int), Cond.fieldLink RX4 9 "PeatBanks$Rows" "owner" "[I", Cond.static yX5_isCommoner, Cond.initialized RX5, Cond.code yX5_isCommoner cX5_isCommoner 1 (some .boolean), Cond.methodLink RX5 58 yX5_isWithin, Cond.static yX5_isWithin, Cond.code yX5_isWithin cX5_isWithin 3 (some .boolean), Cond.methodLink RX3 114 yX4_isLying]
def wsX3_passDays_r3 : List Cond := [Cond.instanceMethod yX4_isLying, Cond.selects RX4 yX4_isLying yX4_isLying, Cond.code yX4_isLying cX4_isLying 2 (some .boolean), Cond.methodLink RX3 117 yX4_peatsAtHearth, Cond.instanceMethod yX4_peatsAtHearth, Cond.selects RX4 yX4_peatsAtHearth yX4_peatsAtHearth, Cond.code yX4_peatsAtHearth cX4_peatsAtHearth 2 (some .int), Cond.methodLink RX4 51 yX4_isLying]
def wsX3_passDays : List Cond := .code yX3_passDays cX3_passDays 6 (some .int) :: ((wsX3_passDays_r1 ++ (wsX3_passDays_r2 ++ wsX3_passDays_r3)) ++ wsX30 ++ wsX40)
def wsX3_useDayIfLeft : List Cond := .code yX3_useDayIfLeft cX3_useDayIfLeft 2 none :: ([.fieldLink RX3 24 "PeatBanks$Moss" "used" "[I", .methodLink RX3 74 yX3_hasDayLeft, .instanceMethod yX3_hasDayLeft, .selects RX3 yX3_hasDayLeft yX3_hasDayLeft, .initialized RX3, .code yX3_hasDayLeft cX3_hasDayLeft 2 (some .boolean), .fieldLink RX3 21 "PeatBanks$Moss" "days" "[I", .static yX5_isCommoner, .initialized RX5, .code yX5_isCommoner cX5_isCommoner 1 (some .boolean), .methodLink RX5 58 yX5_isWithin, .static yX5_isWithin, .code yX5_isWithin cX5_isWithin 3 (some .boolean)] ++ wsX30)
def wsX3_givePeats : List Cond := .code yX3_givePeats cX3_givePeats 4 none :: ([.fieldLink RX3 27 "PeatBanks$Moss" "hearths" "[I", .methodLink RX3 149 Lib.Math.min.name, .static Lib.Math.min.name, .initialized "java/lang/Math", .code Lib.Math.min.name Lib.Math.min.code 2 (some .int), .static yX5_isCommoner, .initialized RX5, .code yX5_isCommoner cX5_isCommoner 1 (some .boolean), .methodLink RX5 58 yX5_isWithin, .static yX5_isWithin, .code yX5_isWithin cX5_isWithin 3 (some .boolean)] ++ wsX30)
def wsX3_settleOldest_r1 : List Cond := [Cond.fieldLink RX3 40 "PeatBanks$Moss" "disputes" "LPeatBanks$Disputes;", Cond.fieldLink RX3 127 "PeatBanks$Disputes" "settled" "I", Cond.fieldLink RX3 130 "PeatBanks$Disputes" "cutter" "[I", Cond.fieldLink RX3 59 "PeatBanks$Moss" "stakes" "I", Cond.fieldLink RX3 136 "PeatBanks$Disputes" "wronged" "[I", Cond.fieldLink RX3 139 "PeatBanks$Disputes" "row" "[I", Cond.fieldLink RX3 33 "PeatBanks$Moss" "rows" "LPeatBanks$Rows;", Cond.fieldLink RX3 142 "PeatBanks$Rows" "owner" "[I", Cond.methodLink RX3 124 yX1_countOpen, Cond.instanceMethod yX1_countOpen, Cond.selects RX1 yX1_countOpen yX1_countOpen, Cond.initialized RX1, Cond.code yX1_countOpen cX1_countOpen 1 (some .int), Cond.fieldLink RX1 32 "PeatBanks$Disputes" "soFar" "I", Cond.fieldLink RX1 28 "PeatBanks$Disputes" "settled" "I", Cond.methodLink RX3 133 yX3_useDayIfLeft, Cond.instanceMethod yX3_useDayIfLeft, Cond.selects RX3 yX3_useDayIfLeft yX3_useDayIfLeft, Cond.initialized RX3, Cond.code yX3_useDayIfLeft cX3_useDayIfLeft 2 none, Cond.fieldLink RX3 24 "PeatBanks$Moss" "used" "[I", Cond.methodLink RX3 74 yX3_hasDayLeft, Cond.instanceMethod yX3_hasDayLeft, Cond.selects RX3 yX3_hasDayLeft yX3_hasDayLeft]
def wsX3_settleOldest_r2 : List Cond := [Cond.code yX3_hasDayLeft cX3_hasDayLeft 2 (some .boolean), Cond.fieldLink RX3 21 "PeatBanks$Moss" "days" "[I", Cond.static yX5_isCommoner, Cond.initialized RX5, Cond.code yX5_isCommoner cX5_isCommoner 1 (some .boolean), Cond.methodLink RX5 58 yX5_isWithin, Cond.static yX5_isWithin, Cond.code yX5_isWithin cX5_isWithin 3 (some .boolean), Cond.methodLink RX3 114 yX4_isLying, Cond.instanceMethod yX4_isLying, Cond.selects RX4 yX4_isLying yX4_isLying, Cond.initialized RX4, Cond.code yX4_isLying cX4_isLying 2 (some .boolean), Cond.fieldLink RX4 39 "PeatBanks$Rows" "soFar" "I", Cond.fieldLink RX4 28 "PeatBanks$Rows" "lying" "[Z", Cond.methodLink RX3 145 yX3_givePeats, Cond.instanceMethod yX3_givePeats, Cond.selects RX3 yX3_givePeats yX3_givePeats, Cond.code yX3_givePeats cX3_givePeats 4 none, Cond.fieldLink RX3 27 "PeatBanks$Moss" "hearths" "[I", Cond.methodLink RX3 149 Lib.Math.min.name, Cond.static Lib.Math.min.name, Cond.initialized "java/lang/Math", Cond.code Lib.Math.min.name Lib.Math.min.code 2 (some .int)]
def wsX3_settleOldest : List Cond := .code yX3_settleOldest cX3_settleOldest 5 (some .int) :: ((wsX3_settleOldest_r1 ++ wsX3_settleOldest_r2) ++ wsX30 ++ wsX10 ++ wsX40)
def wsX4_loseAll : List Cond := .code yX4_loseAll cX4_loseAll 3 (some .int) :: ([.fieldLink RX4 39 "PeatBanks$Rows" "soFar" "I", .fieldLink RX4 28 "PeatBanks$Rows" "lying" "[Z", .methodLink RX4 88 yX4_countLying, .instanceMethod yX4_countLying, .selects RX4 yX4_countLying yX4_countLying, .initialized RX4, .code yX4_countLying cX4_countLying 3 (some .int), .static yX5_oneIf, .initialized RX5, .code yX5_oneIf cX5_oneIf 1 (some .int)] ++ wsX40)
def wsX3_closeYear_r1 : List Cond := [Cond.fieldLink RX3 33 "PeatBanks$Moss" "rows" "LPeatBanks$Rows;", Cond.fieldLink RX3 40 "PeatBanks$Moss" "disputes" "LPeatBanks$Disputes;", Cond.fieldLink RX3 157 "PeatBanks$Disputes" "soFar" "I", Cond.fieldLink RX3 127 "PeatBanks$Disputes" "settled" "I", Cond.fieldLink RX3 15 "PeatBanks$Moss" "owners" "[I", Cond.fieldLink RX3 18 "PeatBanks$Moss" "rights" "[I", Cond.fieldLink RX3 24 "PeatBanks$Moss" "used" "[I", Cond.fieldLink RX3 65 "PeatBanks$Moss" "dayOfYear" "I", Cond.fieldLink RX3 68 "PeatBanks$Moss" "years" "I", Cond.methodLink RX3 154 yX4_loseAll, Cond.instanceMethod yX4_loseAll, Cond.selects RX4 yX4_loseAll yX4_loseAll, Cond.initialized RX4, Cond.code yX4_loseAll cX4_loseAll 3 (some .int), Cond.fieldLink RX4 39 "PeatBanks$Rows" "soFar" "I", Cond.fieldLink RX4 28 "PeatBanks$Rows" "lying" "[Z", Cond.methodLink RX4 88 yX4_countLying, Cond.instanceMethod yX4_countLying, Cond.selects RX4 yX4_countLying yX4_countLying, Cond.code yX4_countLying cX4_countLying 3 (some .int), Cond.static yX5_oneIf, Cond.initialized RX5, Cond.code yX5_oneIf cX5_oneIf 1 (some .int), Cond.static yX5_copyNumbers]
def wsX3_closeYear_r2 : List Cond := [Cond.code yX5_copyNumbers cX5_copyNumbers 2 none, Cond.methodLink RX5 240 Lib.Math.min.name, Cond.static Lib.Math.min.name, Cond.initialized "java/lang/Math", Cond.code Lib.Math.min.name Lib.Math.min.code 2 (some .int), Cond.methodLink RX5 245 arraycopyName, Cond.native arraycopyName, Cond.static arraycopyName, Cond.initialized "java/lang/System"]
def wsX3_closeYear : List Cond := .code yX3_closeYear cX3_closeYear 3 (some .int) :: ((wsX3_closeYear_r1 ++ wsX3_closeYear_r2) ++ wsX30 ++ wsX10 ++ wsX40)
def wsX4_isLyingOf : List Cond := .code yX4_isLyingOf cX4_isLyingOf 3 (some .boolean) :: ([.fieldLink RX4 9 "PeatBanks$Rows" "owner" "[I", .methodLink RX4 51 yX4_isLying, .instanceMethod yX4_isLying, .selects RX4 yX4_isLying yX4_isLying, .initialized RX4, .code yX4_isLying cX4_isLying 2 (some .boolean), .fieldLink RX4 39 "PeatBanks$Rows" "soFar" "I", .fieldLink RX4 28 "PeatBanks$Rows" "lying" "[Z", .static yX5_isWithin, .initialized RX5, .code yX5_isWithin cX5_isWithin 3 (some .boolean)] ++ wsX40)
def wsX4_isStacked : List Cond := .code yX4_isStacked cX4_isStacked 2 (some .boolean) :: ([.fieldLink RX4 25 "PeatBanks$Rows" "stacked" "[Z", .methodLink RX4 51 yX4_isLying, .instanceMethod yX4_isLying, .selects RX4 yX4_isLying yX4_isLying, .initialized RX4, .code yX4_isLying cX4_isLying 2 (some .boolean), .fieldLink RX4 39 "PeatBanks$Rows" "soFar" "I", .fieldLink RX4 28 "PeatBanks$Rows" "lying" "[Z", .static yX5_isWithin, .initialized RX5, .code yX5_isWithin cX5_isWithin 3 (some .boolean)] ++ wsX40)
def wsX4_isDry : List Cond := .code yX4_isDry cX4_isDry 2 (some .boolean) :: ([.fieldLink RX4 18 "PeatBanks$Rows" "wetness" "[I", .methodLink RX4 51 yX4_isLying, .instanceMethod yX4_isLying, .selects RX4 yX4_isLying yX4_isLying, .initialized RX4, .code yX4_isLying cX4_isLying 2 (some .boolean), .fieldLink RX4 39 "PeatBanks$Rows" "soFar" "I", .fieldLink RX4 28 "PeatBanks$Rows" "lying" "[Z", .static yX5_isWithin, .initialized RX5, .code yX5_isWithin cX5_isWithin 3 (some .boolean)] ++ wsX40)
def wsX4_countStacked : List Cond := .code yX4_countStacked cX4_countStacked 3 (some .int) :: ([.fieldLink RX4 39 "PeatBanks$Rows" "soFar" "I", .methodLink RX4 65 yX4_isStacked, .instanceMethod yX4_isStacked, .selects RX4 yX4_isStacked yX4_isStacked, .initialized RX4, .code yX4_isStacked cX4_isStacked 2 (some .boolean), .fieldLink RX4 25 "PeatBanks$Rows" "stacked" "[Z", .methodLink RX4 51 yX4_isLying, .instanceMethod yX4_isLying, .selects RX4 yX4_isLying yX4_isLying, .code yX4_isLying cX4_isLying 2 (some .boolean), .fieldLink RX4 28 "PeatBanks$Rows" "lying" "[Z", .static yX5_isWithin, .initialized RX5, .code yX5_isWithin cX5_isWithin 3 (some .boolean), .static yX5_oneIf, .code yX5_oneIf cX5_oneIf 1 (some .int)] ++ wsX40)
def wsX4_countDry : List Cond := .code yX4_countDry cX4_countDry 3 (some .int) :: ([.fieldLink RX4 39 "PeatBanks$Rows" "soFar" "I", .methodLink RX4 68 yX4_isDry, .instanceMethod yX4_isDry, .selects RX4 yX4_isDry yX4_isDry, .initialized RX4, .code yX4_isDry cX4_isDry 2 (some .boolean), .fieldLink RX4 18 "PeatBanks$Rows" "wetness" "[I", .methodLink RX4 51 yX4_isLying, .instanceMethod yX4_isLying, .selects RX4 yX4_isLying yX4_isLying, .code yX4_isLying cX4_isLying 2 (some .boolean), .fieldLink RX4 28 "PeatBanks$Rows" "lying" "[Z", .static yX5_isWithin, .initialized RX5, .code yX5_isWithin cX5_isWithin 3 (some .boolean), .static yX5_oneIf, .code yX5_oneIf cX5_oneIf 1 (some .int)] ++ wsX40)
def wsX4_countLyingOf : List Cond := .code yX4_countLyingOf cX4_countLyingOf 4 (some .int) :: ([.fieldLink RX4 39 "PeatBanks$Rows" "soFar" "I", .methodLink RX4 71 yX4_isLyingOf, .instanceMethod yX4_isLyingOf, .selects RX4 yX4_isLyingOf yX4_isLyingOf, .initialized RX4, .code yX4_isLyingOf cX4_isLyingOf 3 (some .boolean), .fieldLink RX4 9 "PeatBanks$Rows" "owner" "[I", .methodLink RX4 51 yX4_isLying, .instanceMethod yX4_isLying, .selects RX4 yX4_isLying yX4_isLying, .code yX4_isLying cX4_isLying 2 (some .boolean), .fieldLink RX4 28 "PeatBanks$Rows" "lying" "[Z", .static yX5_isWithin, .initialized RX5, .code yX5_isWithin cX5_isWithin 3 (some .boolean), .static yX5_oneIf, .code yX5_oneIf cX5_oneIf 1 (some .int)] ++ wsX40)
def wsX4_countStackedOf : List Cond := .code yX4_countStackedOf cX4_countStackedOf 4 (some .int) :: ([.fieldLink RX4 39 "PeatBanks$Rows" "soFar" "I", .fieldLink RX4 9 "PeatBanks$Rows" "owner" "[I", .methodLink RX4 65 yX4_isStacked, .instanceMethod yX4_isStacked, .selects RX4 yX4_isStacked yX4_isStacked, .initialized RX4, .code yX4_isStacked cX4_isStacked 2 (some .boolean), .fieldLink RX4 25 "PeatBanks$Rows" "stacked" "[Z", .methodLink RX4 51 yX4_isLying, .instanceMethod yX4_isLying, .selects RX4 yX4_isLying yX4_isLying, .code yX4_isLying cX4_isLying 2 (some .boolean), .fieldLink RX4 28 "PeatBanks$Rows" "lying" "[Z", .static yX5_isWithin, .initialized RX5, .code yX5_isWithin cX5_isWithin 3 (some .boolean), .static yX5_oneIf, .code yX5_oneIf cX5_oneIf 1 (some .int)] ++ wsX40)
def wsX4_comesBefore : List Cond := .code yX4_comesBefore cX4_comesBefore 3 (some .boolean) :: ([.fieldLink RX4 18 "PeatBanks$Rows" "wetness" "[I"] ++ wsX40)
def wsX4_countDrierThan : List Cond := .code yX4_countDrierThan cX4_countDrierThan 5 (some .int) :: ([.fieldLink RX4 39 "PeatBanks$Rows" "soFar" "I", .methodLink RX4 71 yX4_isLyingOf, .instanceMethod yX4_isLyingOf, .selects RX4 yX4_isLyingOf yX4_isLyingOf, .initialized RX4, .code yX4_isLyingOf cX4_isLyingOf 3 (some .boolean), .fieldLink RX4 9 "PeatBanks$Rows" "owner" "[I", .methodLink RX4 51 yX4_isLying, .instanceMethod yX4_isLying, .selects RX4 yX4_isLying yX4_isLying, .code yX4_isLying cX4_isLying 2 (some .boolean), .fieldLink RX4 28 "PeatBanks$Rows" "lying" "[Z", .static yX5_isWithin, .initialized RX5, .code yX5_isWithin cX5_isWithin 3 (some .boolean), .methodLink RX4 78 yX4_comesBefore, .instanceMethod yX4_comesBefore, .selects RX4 yX4_comesBefore yX4_comesBefore, .code yX4_comesBefore cX4_comesBefore 3 (some .boolean), .fieldLink RX4 18 "PeatBanks$Rows" "wetness" "[I", .static yX5_oneIf, .code yX5_oneIf cX5_oneIf 1 (some .int)] ++ wsX40)
def wsX4_driestOf_r1 : List Cond := [Cond.fieldLink RX4 39 "PeatBanks$Rows" "soFar" "I", Cond.methodLink RX4 71 yX4_isLyingOf, Cond.instanceMethod yX4_isLyingOf, Cond.selects RX4 yX4_isLyingOf yX4_isLyingOf, Cond.initialized RX4, Cond.code yX4_isLyingOf cX4_isLyingOf 3 (some .boolean), Cond.fieldLink RX4 9 "PeatBanks$Rows" "owner" "[I", Cond.methodLink RX4 51 yX4_isLying, Cond.instanceMethod yX4_isLying, Cond.selects RX4 yX4_isLying yX4_isLying, Cond.code yX4_isLying cX4_isLying 2 (some .boolean), Cond.fieldLink RX4 28 "PeatBanks$Rows" "lying" "[Z", Cond.static yX5_isWithin, Cond.initialized RX5, Cond.code yX5_isWithin cX5_isWithin 3 (some .boolean), Cond.methodLink RX4 75 yX4_countDrierThan, Cond.instanceMethod yX4_countDrierThan, Cond.selects RX4 yX4_countDrierThan yX4_countDrierThan, Cond.code yX4_countDrierThan cX4_countDrierThan 5 (some .int), Cond.methodLink RX4 78 yX4_comesBefore, Cond.instanceMethod yX4_comesBefore, Cond.selects RX4 yX4_comesBefore yX4_comesBefore, Cond.code yX4_comesBefore cX4_comesBefore 3 (some .boolean), Cond.fieldLink RX4 18 "PeatBanks$Rows" "wetness" "[I"]
def wsX4_driestOf_r2 : List Cond := [Cond.static yX5_oneIf, Cond.code yX5_oneIf cX5_oneIf 1 (some .int)]
def wsX4_driestOf : List Cond := .code yX4_driestOf cX4_driestOf 4 (some .int) :: ((wsX4_driestOf_r1 ++ wsX4_driestOf_r2) ++ wsX40)
def wsX5_init_r1 : List Cond := [Cond.methodLink RX5 3 objectInit, Cond.instanceMethod objectInit, Cond.code objectInit ⟨#[0xb1]⟩ 1 none, Cond.classLink RX5 9 RX3, Cond.instantiable RX3 14, Cond.initialized RX3, Cond.fieldLink RX5 12 "PeatBanks" "now" "LPeatBanks$Moss;", Cond.fieldLink RX5 16 "PeatBanks" "kept" "LPeatBanks$Moss;", Cond.fieldLink RX5 19 "PeatBanks" "trial" "LPeatBanks$Moss;", Cond.classLink RX5 22 RX2, Cond.instantiable RX2 5, Cond.initialized RX2, Cond.fieldLink RX5 25 "PeatBanks" "history" "LPeatBanks$History;", Cond.classLink RX5 29 RX0, Cond.instantiable RX0 5, Cond.initialized RX0, Cond.fieldLink RX5 32 "PeatBanks" "text" "LPeatBanks$DayText;", Cond.fieldLink RX5 36 "PeatBanks" "hasKept" "Z", Cond.methodLink RX5 11 yX3_init, Cond.instanceMethod yX3_init, Cond.code yX3_init cX3_init 2 none, Cond.methodLink RX3 3 objectInit, Cond.arrayClass .int, Cond.fieldLink RX3 9 "PeatBanks$Moss" "layers" "[I"]
def wsX5_init_r2 : List Cond := [Cond.fieldLink RX3 15 "PeatBanks$Moss" "owners" "[I", Cond.fieldLink RX3 18 "PeatBanks$Moss" "rights" "[I", Cond.fieldLink RX3 21 "PeatBanks$Moss" "days" "[I", Cond.fieldLink RX3 24 "PeatBanks$Moss" "used" "[I", Cond.fieldLink RX3 27 "PeatBanks$Moss" "hearths" "[I", Cond.classLink RX3 30 RX4, Cond.instantiable RX4 7, Cond.initialized RX4, Cond.fieldLink RX3 33 "PeatBanks$Moss" "rows" "LPeatBanks$Rows;", Cond.classLink RX3 37 RX1, Cond.instantiable RX1 6, Cond.initialized RX1, Cond.fieldLink RX3 40 "PeatBanks$Moss" "disputes" "LPeatBanks$Disputes;", Cond.fieldLink RX3 44 "PeatBanks$Moss" "cartRows" "I", Cond.methodLink RX3 32 yX4_init, Cond.instanceMethod yX4_init, Cond.code yX4_init cX4_init 1 none, Cond.methodLink RX4 3 objectInit, Cond.fieldLink RX4 9 "PeatBanks$Rows" "owner" "[I", Cond.fieldLink RX4 15 "PeatBanks$Rows" "plot" "[I", Cond.fieldLink RX4 18 "PeatBanks$Rows" "wetness" "[I", Cond.arrayClass .boolean, Cond.fieldLink RX4 21 "PeatBanks$Rows" "turned" "[Z", Cond.fieldLink RX4 25 "PeatBanks$Rows" "stacked" "[Z"]
def wsX5_init_r3 : List Cond := [Cond.fieldLink RX4 28 "PeatBanks$Rows" "lying" "[Z", Cond.methodLink RX3 39 yX1_init, Cond.instanceMethod yX1_init, Cond.code yX1_init cX1_init 1 none, Cond.methodLink RX1 3 objectInit, Cond.fieldLink RX1 9 "PeatBanks$Disputes" "cutter" "[I", Cond.fieldLink RX1 15 "PeatBanks$Disputes" "wronged" "[I", Cond.fieldLink RX1 18 "PeatBanks$Disputes" "row" "[I", Cond.fieldLink RX1 21 "PeatBanks$Disputes" "plot" "[I", Cond.methodLink RX5 24 yX2_init, Cond.instanceMethod yX2_init, Cond.code yX2_init cX2_init 1 none, Cond.methodLink RX2 3 objectInit, Cond.classLink RX2 9 RX3, Cond.fieldLink RX2 12 "PeatBanks$History" "latest" "LPeatBanks$Moss;", Cond.fieldLink RX2 18 "PeatBanks$History" "second" "LPeatBanks$Moss;", Cond.fieldLink RX2 21 "PeatBanks$History" "third" "LPeatBanks$Moss;", Cond.fieldLink RX2 24 "PeatBanks$History" "oldest" "LPeatBanks$Moss;", Cond.methodLink RX2 11 yX3_init, Cond.methodLink RX5 31 yX0_init, Cond.instanceMethod yX0_init, Cond.code yX0_init cX0_init 1 none, Cond.methodLink RX0 3 objectInit, Cond.arrayClass .char]
def wsX5_init_r4 : List Cond := [Cond.fieldLink RX0 9 "PeatBanks$DayText" "characters" "[C", Cond.fieldLink RX0 15 "PeatBanks$DayText" "groupWeather" "[I", Cond.fieldLink RX0 19 "PeatBanks$DayText" "groupDays" "[I"]
def wsX5_init : List Cond := .code yX5_init cX5_init 1 none :: ((wsX5_init_r1 ++ (wsX5_init_r2 ++ (wsX5_init_r3 ++ wsX5_init_r4))) ++ wsX30 ++ wsX50 ++ wsX20 ++ wsX00 ++ wsX40 ++ wsX10)
def wsX5_lend_r1 : List Cond := [Cond.fieldLink RX5 12 "PeatBanks" "now" "LPeatBanks$Moss;", Cond.fieldLink RX5 47 "PeatBanks$Moss" "rights" "[I", Cond.fieldLink RX5 25 "PeatBanks" "history" "LPeatBanks$History;", Cond.methodLink RX5 40 yX5_isPlot, Cond.static yX5_isPlot, Cond.initialized RX5, Cond.code yX5_isPlot cX5_isPlot 1 (some .boolean), Cond.methodLink RX5 58 yX5_isWithin, Cond.static yX5_isWithin, Cond.code yX5_isWithin cX5_isWithin 3 (some .boolean), Cond.methodLink RX5 44 yX5_isCommoner, Cond.static yX5_isCommoner, Cond.code yX5_isCommoner cX5_isCommoner 1 (some .boolean), Cond.methodLink RX5 51 yX2_record, Cond.instanceMethod yX2_record, Cond.selects RX2 yX2_record yX2_record, Cond.initialized RX2, Cond.code yX2_record cX2_record 3 none, Cond.fieldLink RX2 24 "PeatBanks$History" "oldest" "LPeatBanks$Moss;", Cond.fieldLink RX2 21 "PeatBanks$History" "third" "LPeatBanks$Moss;", Cond.fieldLink RX2 18 "PeatBanks$History" "second" "LPeatBanks$Moss;", Cond.fieldLink RX2 12 "PeatBanks$History" "latest" "LPeatBanks$Moss;", Cond.fieldLink RX2 31 "PeatBanks$History" "states" "I", Cond.methodLink RX2 35 Lib.Math.min.name]
def wsX5_lend_r2 : List Cond := [Cond.static Lib.Math.min.name, Cond.initialized "java/lang/Math", Cond.code Lib.Math.min.name Lib.Math.min.code 2 (some .int), Cond.methodLink RX2 27 yX3_copyFrom, Cond.instanceMethod yX3_copyFrom, Cond.selects RX3 yX3_copyFrom yX3_copyFrom, Cond.initialized RX3, Cond.code yX3_copyFrom cX3_copyFrom 2 none, Cond.fieldLink RX3 9 "PeatBanks$Moss" "layers" "[I", Cond.fieldLink RX3 15 "PeatBanks$Moss" "owners" "[I", Cond.fieldLink RX3 18 "PeatBanks$Moss" "rights" "[I", Cond.fieldLink RX3 21 "PeatBanks$Moss" "days" "[I", Cond.fieldLink RX3 24 "PeatBanks$Moss" "used" "[I", Cond.fieldLink RX3 27 "PeatBanks$Moss" "hearths" "[I", Cond.fieldLink RX3 33 "PeatBanks$Moss" "rows" "LPeatBanks$Rows;", Cond.fieldLink RX3 40 "PeatBanks$Moss" "disputes" "LPeatBanks$Disputes;", Cond.fieldLink RX3 44 "PeatBanks$Moss" "cartRows" "I", Cond.fieldLink RX3 59 "PeatBanks$Moss" "stakes" "I", Cond.fieldLink RX3 62 "PeatBanks$Moss" "rota" "I", Cond.fieldLink RX3 65 "PeatBanks$Moss" "dayOfYear" "I", Cond.fieldLink RX3 68 "PeatBanks$Moss" "years" "I", Cond.fieldLink RX3 71 "PeatBanks$Moss" "rowsHome" "I", Cond.static yX5_copyNumbers, Cond.code yX5_copyNumbers cX5_copyNumbers 2 none]
def wsX5_lend_r3 : List Cond := [Cond.methodLink RX5 240 Lib.Math.min.name, Cond.methodLink RX5 245 arraycopyName, Cond.native arraycopyName, Cond.static arraycopyName, Cond.initialized "java/lang/System", Cond.methodLink RX3 52 yX4_copyFrom, Cond.instanceMethod yX4_copyFrom, Cond.selects RX4 yX4_copyFrom yX4_copyFrom, Cond.initialized RX4, Cond.code yX4_copyFrom cX4_copyFrom 2 none, Cond.fieldLink RX4 9 "PeatBanks$Rows" "owner" "[I", Cond.fieldLink RX4 15 "PeatBanks$Rows" "plot" "[I", Cond.fieldLink RX4 18 "PeatBanks$Rows" "wetness" "[I", Cond.fieldLink RX4 21 "PeatBanks$Rows" "turned" "[Z", Cond.fieldLink RX4 25 "PeatBanks$Rows" "stacked" "[Z", Cond.fieldLink RX4 28 "PeatBanks$Rows" "lying" "[Z", Cond.fieldLink RX4 39 "PeatBanks$Rows" "soFar" "I", Cond.static yX5_copyFlags, Cond.code yX5_copyFlags cX5_copyFlags 2 none, Cond.methodLink RX3 56 yX1_copyFrom, Cond.instanceMethod yX1_copyFrom, Cond.selects RX1 yX1_copyFrom yX1_copyFrom, Cond.initialized RX1, Cond.code yX1_copyFrom cX1_copyFrom 2 none]
def wsX5_lend_r4 : List Cond := [Cond.fieldLink RX1 9 "PeatBanks$Disputes" "cutter" "[I", Cond.fieldLink RX1 15 "PeatBanks$Disputes" "wronged" "[I", Cond.fieldLink RX1 18 "PeatBanks$Disputes" "row" "[I", Cond.fieldLink RX1 21 "PeatBanks$Disputes" "plot" "[I", Cond.fieldLink RX1 28 "PeatBanks$Disputes" "settled" "I", Cond.fieldLink RX1 32 "PeatBanks$Disputes" "soFar" "I"]
def wsX5_lend : List Cond := .code yX5_lend cX5_lend 4 (some .int) :: ((wsX5_lend_r1 ++ (wsX5_lend_r2 ++ (wsX5_lend_r3 ++ wsX5_lend_r4))) ++ wsX50 ++ wsX30 ++ wsX20 ++ wsX40 ++ wsX10)
def wsX5_handOver_r1 : List Cond := [Cond.fieldLink RX5 12 "PeatBanks" "now" "LPeatBanks$Moss;", Cond.fieldLink RX5 55 "PeatBanks$Moss" "owners" "[I", Cond.fieldLink RX5 25 "PeatBanks" "history" "LPeatBanks$History;", Cond.fieldLink RX5 47 "PeatBanks$Moss" "rights" "[I", Cond.methodLink RX5 40 yX5_isPlot, Cond.static yX5_isPlot, Cond.initialized RX5, Cond.code yX5_isPlot cX5_isPlot 1 (some .boolean), Cond.methodLink RX5 58 yX5_isWithin, Cond.static yX5_isWithin, Cond.code yX5_isWithin cX5_isWithin 3 (some .boolean), Cond.methodLink RX5 44 yX5_isCommoner, Cond.static yX5_isCommoner, Cond.code yX5_isCommoner cX5_isCommoner 1 (some .boolean), Cond.methodLink RX5 51 yX2_record, Cond.instanceMethod yX2_record, Cond.selects RX2 yX2_record yX2_record, Cond.initialized RX2, Cond.code yX2_record cX2_record 3 none, Cond.fieldLink RX2 24 "PeatBanks$History" "oldest" "LPeatBanks$Moss;", Cond.fieldLink RX2 21 "PeatBanks$History" "third" "LPeatBanks$Moss;", Cond.fieldLink RX2 18 "PeatBanks$History" "second" "LPeatBanks$Moss;", Cond.fieldLink RX2 12 "PeatBanks$History" "latest" "LPeatBanks$Moss;", Cond.fieldLink RX2 31 "PeatBanks$History" "states" "I"]
def wsX5_handOver_r2 : List Cond := [Cond.methodLink RX2 35 Lib.Math.min.name, Cond.static Lib.Math.min.name, Cond.initialized "java/lang/Math", Cond.code Lib.Math.min.name Lib.Math.min.code 2 (some .int), Cond.methodLink RX2 27 yX3_copyFrom, Cond.instanceMethod yX3_copyFrom, Cond.selects RX3 yX3_copyFrom yX3_copyFrom, Cond.initialized RX3, Cond.code yX3_copyFrom cX3_copyFrom 2 none, Cond.fieldLink RX3 9 "PeatBanks$Moss" "layers" "[I", Cond.fieldLink RX3 15 "PeatBanks$Moss" "owners" "[I", Cond.fieldLink RX3 18 "PeatBanks$Moss" "rights" "[I", Cond.fieldLink RX3 21 "PeatBanks$Moss" "days" "[I", Cond.fieldLink RX3 24 "PeatBanks$Moss" "used" "[I", Cond.fieldLink RX3 27 "PeatBanks$Moss" "hearths" "[I", Cond.fieldLink RX3 33 "PeatBanks$Moss" "rows" "LPeatBanks$Rows;", Cond.fieldLink RX3 40 "PeatBanks$Moss" "disputes" "LPeatBanks$Disputes;", Cond.fieldLink RX3 44 "PeatBanks$Moss" "cartRows" "I", Cond.fieldLink RX3 59 "PeatBanks$Moss" "stakes" "I", Cond.fieldLink RX3 62 "PeatBanks$Moss" "rota" "I", Cond.fieldLink RX3 65 "PeatBanks$Moss" "dayOfYear" "I", Cond.fieldLink RX3 68 "PeatBanks$Moss" "years" "I", Cond.fieldLink RX3 71 "PeatBanks$Moss" "rowsHome" "I", Cond.static yX5_copyNumbers]
def wsX5_handOver_r3 : List Cond := [Cond.code yX5_copyNumbers cX5_copyNumbers 2 none, Cond.methodLink RX5 240 Lib.Math.min.name, Cond.methodLink RX5 245 arraycopyName, Cond.native arraycopyName, Cond.static arraycopyName, Cond.initialized "java/lang/System", Cond.methodLink RX3 52 yX4_copyFrom, Cond.instanceMethod yX4_copyFrom, Cond.selects RX4 yX4_copyFrom yX4_copyFrom, Cond.initialized RX4, Cond.code yX4_copyFrom cX4_copyFrom 2 none, Cond.fieldLink RX4 9 "PeatBanks$Rows" "owner" "[I", Cond.fieldLink RX4 15 "PeatBanks$Rows" "plot" "[I", Cond.fieldLink RX4 18 "PeatBanks$Rows" "wetness" "[I", Cond.fieldLink RX4 21 "PeatBanks$Rows" "turned" "[Z", Cond.fieldLink RX4 25 "PeatBanks$Rows" "stacked" "[Z", Cond.fieldLink RX4 28 "PeatBanks$Rows" "lying" "[Z", Cond.fieldLink RX4 39 "PeatBanks$Rows" "soFar" "I", Cond.static yX5_copyFlags, Cond.code yX5_copyFlags cX5_copyFlags 2 none, Cond.methodLink RX3 56 yX1_copyFrom, Cond.instanceMethod yX1_copyFrom, Cond.selects RX1 yX1_copyFrom yX1_copyFrom, Cond.initialized RX1]
def wsX5_handOver_r4 : List Cond := [Cond.code yX1_copyFrom cX1_copyFrom 2 none, Cond.fieldLink RX1 9 "PeatBanks$Disputes" "cutter" "[I", Cond.fieldLink RX1 15 "PeatBanks$Disputes" "wronged" "[I", Cond.fieldLink RX1 18 "PeatBanks$Disputes" "row" "[I", Cond.fieldLink RX1 21 "PeatBanks$Disputes" "plot" "[I", Cond.fieldLink RX1 28 "PeatBanks$Disputes" "settled" "I", Cond.fieldLink RX1 32 "PeatBanks$Disputes" "soFar" "I"]
def wsX5_handOver : List Cond := .code yX5_handOver cX5_handOver 4 (some .int) :: ((wsX5_handOver_r1 ++ (wsX5_handOver_r2 ++ (wsX5_handOver_r3 ++ wsX5_handOver_r4))) ++ wsX50 ++ wsX30 ++ wsX20 ++ wsX40 ++ wsX10)
def wsX5_setDays_r1 : List Cond := [Cond.fieldLink RX5 12 "PeatBanks" "now" "LPeatBanks$Moss;", Cond.fieldLink RX5 62 "PeatBanks$Moss" "days" "[I", Cond.fieldLink RX5 25 "PeatBanks" "history" "LPeatBanks$History;", Cond.methodLink RX5 44 yX5_isCommoner, Cond.static yX5_isCommoner, Cond.initialized RX5, Cond.code yX5_isCommoner cX5_isCommoner 1 (some .boolean), Cond.methodLink RX5 58 yX5_isWithin, Cond.static yX5_isWithin, Cond.code yX5_isWithin cX5_isWithin 3 (some .boolean), Cond.methodLink RX5 51 yX2_record, Cond.instanceMethod yX2_record, Cond.selects RX2 yX2_record yX2_record, Cond.initialized RX2, Cond.code yX2_record cX2_record 3 none, Cond.fieldLink RX2 24 "PeatBanks$History" "oldest" "LPeatBanks$Moss;", Cond.fieldLink RX2 21 "PeatBanks$History" "third" "LPeatBanks$Moss;", Cond.fieldLink RX2 18 "PeatBanks$History" "second" "LPeatBanks$Moss;", Cond.fieldLink RX2 12 "PeatBanks$History" "latest" "LPeatBanks$Moss;", Cond.fieldLink RX2 31 "PeatBanks$History" "states" "I", Cond.methodLink RX2 35 Lib.Math.min.name, Cond.static Lib.Math.min.name, Cond.initialized "java/lang/Math", Cond.code Lib.Math.min.name Lib.Math.min.code 2 (some .int)]
def wsX5_setDays_r2 : List Cond := [Cond.methodLink RX2 27 yX3_copyFrom, Cond.instanceMethod yX3_copyFrom, Cond.selects RX3 yX3_copyFrom yX3_copyFrom, Cond.initialized RX3, Cond.code yX3_copyFrom cX3_copyFrom 2 none, Cond.fieldLink RX3 9 "PeatBanks$Moss" "layers" "[I", Cond.fieldLink RX3 15 "PeatBanks$Moss" "owners" "[I", Cond.fieldLink RX3 18 "PeatBanks$Moss" "rights" "[I", Cond.fieldLink RX3 21 "PeatBanks$Moss" "days" "[I", Cond.fieldLink RX3 24 "PeatBanks$Moss" "used" "[I", Cond.fieldLink RX3 27 "PeatBanks$Moss" "hearths" "[I", Cond.fieldLink RX3 33 "PeatBanks$Moss" "rows" "LPeatBanks$Rows;", Cond.fieldLink RX3 40 "PeatBanks$Moss" "disputes" "LPeatBanks$Disputes;", Cond.fieldLink RX3 44 "PeatBanks$Moss" "cartRows" "I", Cond.fieldLink RX3 59 "PeatBanks$Moss" "stakes" "I", Cond.fieldLink RX3 62 "PeatBanks$Moss" "rota" "I", Cond.fieldLink RX3 65 "PeatBanks$Moss" "dayOfYear" "I", Cond.fieldLink RX3 68 "PeatBanks$Moss" "years" "I", Cond.fieldLink RX3 71 "PeatBanks$Moss" "rowsHome" "I", Cond.static yX5_copyNumbers, Cond.code yX5_copyNumbers cX5_copyNumbers 2 none, Cond.methodLink RX5 240 Lib.Math.min.name, Cond.methodLink RX5 245 arraycopyName, Cond.native arraycopyName]
def wsX5_setDays_r3 : List Cond := [Cond.static arraycopyName, Cond.initialized "java/lang/System", Cond.methodLink RX3 52 yX4_copyFrom, Cond.instanceMethod yX4_copyFrom, Cond.selects RX4 yX4_copyFrom yX4_copyFrom, Cond.initialized RX4, Cond.code yX4_copyFrom cX4_copyFrom 2 none, Cond.fieldLink RX4 9 "PeatBanks$Rows" "owner" "[I", Cond.fieldLink RX4 15 "PeatBanks$Rows" "plot" "[I", Cond.fieldLink RX4 18 "PeatBanks$Rows" "wetness" "[I", Cond.fieldLink RX4 21 "PeatBanks$Rows" "turned" "[Z", Cond.fieldLink RX4 25 "PeatBanks$Rows" "stacked" "[Z", Cond.fieldLink RX4 28 "PeatBanks$Rows" "lying" "[Z", Cond.fieldLink RX4 39 "PeatBanks$Rows" "soFar" "I", Cond.static yX5_copyFlags, Cond.code yX5_copyFlags cX5_copyFlags 2 none, Cond.methodLink RX3 56 yX1_copyFrom, Cond.instanceMethod yX1_copyFrom, Cond.selects RX1 yX1_copyFrom yX1_copyFrom, Cond.initialized RX1, Cond.code yX1_copyFrom cX1_copyFrom 2 none, Cond.fieldLink RX1 9 "PeatBanks$Disputes" "cutter" "[I", Cond.fieldLink RX1 15 "PeatBanks$Disputes" "wronged" "[I", Cond.fieldLink RX1 18 "PeatBanks$Disputes" "row" "[I"]
def wsX5_setDays_r4 : List Cond := [Cond.fieldLink RX1 21 "PeatBanks$Disputes" "plot" "[I", Cond.fieldLink RX1 28 "PeatBanks$Disputes" "settled" "I", Cond.fieldLink RX1 32 "PeatBanks$Disputes" "soFar" "I"]
def wsX5_setDays : List Cond := .code yX5_setDays cX5_setDays 4 (some .int) :: ((wsX5_setDays_r1 ++ (wsX5_setDays_r2 ++ (wsX5_setDays_r3 ++ wsX5_setDays_r4))) ++ wsX50 ++ wsX30 ++ wsX20 ++ wsX40 ++ wsX10)
def wsX5_isSettingValue : List Cond := .code yX5_isSettingValue cX5_isSettingValue 2 (some .boolean) :: ([.methodLink RX5 58 yX5_isWithin, .static yX5_isWithin, .initialized RX5, .code yX5_isWithin cX5_isWithin 3 (some .boolean)])
def wsX5_set_r1 : List Cond := [Cond.fieldLink RX5 12 "PeatBanks" "now" "LPeatBanks$Moss;", Cond.fieldLink RX5 69 "PeatBanks$Moss" "cartRows" "I", Cond.fieldLink RX5 73 "PeatBanks$Moss" "stakes" "I", Cond.fieldLink RX5 25 "PeatBanks" "history" "LPeatBanks$History;", Cond.methodLink RX5 65 yX5_isSettingValue, Cond.static yX5_isSettingValue, Cond.initialized RX5, Cond.code yX5_isSettingValue cX5_isSettingValue 2 (some .boolean), Cond.methodLink RX5 58 yX5_isWithin, Cond.static yX5_isWithin, Cond.code yX5_isWithin cX5_isWithin 3 (some .boolean), Cond.methodLink RX5 51 yX2_record, Cond.instanceMethod yX2_record, Cond.selects RX2 yX2_record yX2_record, Cond.initialized RX2, Cond.code yX2_record cX2_record 3 none, Cond.fieldLink RX2 24 "PeatBanks$History" "oldest" "LPeatBanks$Moss;", Cond.fieldLink RX2 21 "PeatBanks$History" "third" "LPeatBanks$Moss;", Cond.fieldLink RX2 18 "PeatBanks$History" "second" "LPeatBanks$Moss;", Cond.fieldLink RX2 12 "PeatBanks$History" "latest" "LPeatBanks$Moss;", Cond.fieldLink RX2 31 "PeatBanks$History" "states" "I", Cond.methodLink RX2 35 Lib.Math.min.name, Cond.static Lib.Math.min.name, Cond.initialized "java/lang/Math"]
def wsX5_set_r2 : List Cond := [Cond.code Lib.Math.min.name Lib.Math.min.code 2 (some .int), Cond.methodLink RX2 27 yX3_copyFrom, Cond.instanceMethod yX3_copyFrom, Cond.selects RX3 yX3_copyFrom yX3_copyFrom, Cond.initialized RX3, Cond.code yX3_copyFrom cX3_copyFrom 2 none, Cond.fieldLink RX3 9 "PeatBanks$Moss" "layers" "[I", Cond.fieldLink RX3 15 "PeatBanks$Moss" "owners" "[I", Cond.fieldLink RX3 18 "PeatBanks$Moss" "rights" "[I", Cond.fieldLink RX3 21 "PeatBanks$Moss" "days" "[I", Cond.fieldLink RX3 24 "PeatBanks$Moss" "used" "[I", Cond.fieldLink RX3 27 "PeatBanks$Moss" "hearths" "[I", Cond.fieldLink RX3 33 "PeatBanks$Moss" "rows" "LPeatBanks$Rows;", Cond.fieldLink RX3 40 "PeatBanks$Moss" "disputes" "LPeatBanks$Disputes;", Cond.fieldLink RX3 44 "PeatBanks$Moss" "cartRows" "I", Cond.fieldLink RX3 59 "PeatBanks$Moss" "stakes" "I", Cond.fieldLink RX3 62 "PeatBanks$Moss" "rota" "I", Cond.fieldLink RX3 65 "PeatBanks$Moss" "dayOfYear" "I", Cond.fieldLink RX3 68 "PeatBanks$Moss" "years" "I", Cond.fieldLink RX3 71 "PeatBanks$Moss" "rowsHome" "I", Cond.static yX5_copyNumbers, Cond.code yX5_copyNumbers cX5_copyNumbers 2 none, Cond.methodLink RX5 240 Lib.Math.min.name, Cond.methodLink RX5 245 arraycopyName]
def wsX5_set_r3 : List Cond := [Cond.native arraycopyName, Cond.static arraycopyName, Cond.initialized "java/lang/System", Cond.methodLink RX3 52 yX4_copyFrom, Cond.instanceMethod yX4_copyFrom, Cond.selects RX4 yX4_copyFrom yX4_copyFrom, Cond.initialized RX4, Cond.code yX4_copyFrom cX4_copyFrom 2 none, Cond.fieldLink RX4 9 "PeatBanks$Rows" "owner" "[I", Cond.fieldLink RX4 15 "PeatBanks$Rows" "plot" "[I", Cond.fieldLink RX4 18 "PeatBanks$Rows" "wetness" "[I", Cond.fieldLink RX4 21 "PeatBanks$Rows" "turned" "[Z", Cond.fieldLink RX4 25 "PeatBanks$Rows" "stacked" "[Z", Cond.fieldLink RX4 28 "PeatBanks$Rows" "lying" "[Z", Cond.fieldLink RX4 39 "PeatBanks$Rows" "soFar" "I", Cond.static yX5_copyFlags, Cond.code yX5_copyFlags cX5_copyFlags 2 none, Cond.methodLink RX3 56 yX1_copyFrom, Cond.instanceMethod yX1_copyFrom, Cond.selects RX1 yX1_copyFrom yX1_copyFrom, Cond.initialized RX1, Cond.code yX1_copyFrom cX1_copyFrom 2 none, Cond.fieldLink RX1 9 "PeatBanks$Disputes" "cutter" "[I", Cond.fieldLink RX1 15 "PeatBanks$Disputes" "wronged" "[I"]
def wsX5_set_r4 : List Cond := [Cond.fieldLink RX1 18 "PeatBanks$Disputes" "row" "[I", Cond.fieldLink RX1 21 "PeatBanks$Disputes" "plot" "[I", Cond.fieldLink RX1 28 "PeatBanks$Disputes" "settled" "I", Cond.fieldLink RX1 32 "PeatBanks$Disputes" "soFar" "I"]
def wsX5_set : List Cond := .code yX5_set cX5_set 4 (some .int) :: ((wsX5_set_r1 ++ (wsX5_set_r2 ++ (wsX5_set_r3 ++ wsX5_set_r4))) ++ wsX50 ++ wsX30 ++ wsX20 ++ wsX40 ++ wsX10)
def wsX5_cut_r1 : List Cond := [Cond.fieldLink RX5 12 "PeatBanks" "now" "LPeatBanks$Moss;", Cond.fieldLink RX5 80 "PeatBanks$Moss" "rows" "LPeatBanks$Rows;", Cond.fieldLink RX5 25 "PeatBanks" "history" "LPeatBanks$History;", Cond.methodLink RX5 44 yX5_isCommoner, Cond.static yX5_isCommoner, Cond.initialized RX5, Cond.code yX5_isCommoner cX5_isCommoner 1 (some .boolean), Cond.methodLink RX5 58 yX5_isWithin, Cond.static yX5_isWithin, Cond.code yX5_isWithin cX5_isWithin 3 (some .boolean), Cond.methodLink RX5 40 yX5_isPlot, Cond.static yX5_isPlot, Cond.code yX5_isPlot cX5_isPlot 1 (some .boolean), Cond.methodLink RX5 76 yX3_reasonAgainst, Cond.instanceMethod yX3_reasonAgainst, Cond.selects RX3 yX3_reasonAgainst yX3_reasonAgainst, Cond.initialized RX3, Cond.code yX3_reasonAgainst cX3_reasonAgainst 4 (some .int), Cond.fieldLink RX3 9 "PeatBanks$Moss" "layers" "[I", Cond.fieldLink RX3 33 "PeatBanks$Moss" "rows" "LPeatBanks$Rows;", Cond.methodLink RX3 74 yX3_hasDayLeft, Cond.instanceMethod yX3_hasDayLeft, Cond.selects RX3 yX3_hasDayLeft yX3_hasDayLeft, Cond.code yX3_hasDayLeft cX3_hasDayLeft 2 (some .boolean)]
def wsX5_cut_r2 : List Cond := [Cond.fieldLink RX3 24 "PeatBanks$Moss" "used" "[I", Cond.fieldLink RX3 21 "PeatBanks$Moss" "days" "[I", Cond.methodLink RX3 81 yX4_countLying, Cond.instanceMethod yX4_countLying, Cond.selects RX4 yX4_countLying yX4_countLying, Cond.initialized RX4, Cond.code yX4_countLying cX4_countLying 3 (some .int), Cond.fieldLink RX4 39 "PeatBanks$Rows" "soFar" "I", Cond.fieldLink RX4 28 "PeatBanks$Rows" "lying" "[Z", Cond.static yX5_oneIf, Cond.code yX5_oneIf cX5_oneIf 1 (some .int), Cond.methodLink RX3 85 yX3_hasRight, Cond.instanceMethod yX3_hasRight, Cond.selects RX3 yX3_hasRight yX3_hasRight, Cond.code yX3_hasRight cX3_hasRight 3 (some .boolean), Cond.fieldLink RX3 18 "PeatBanks$Moss" "rights" "[I", Cond.methodLink RX5 84 yX4_hasNumberLeft, Cond.instanceMethod yX4_hasNumberLeft, Cond.selects RX4 yX4_hasNumberLeft yX4_hasNumberLeft, Cond.code yX4_hasNumberLeft cX4_hasNumberLeft 1 (some .boolean), Cond.methodLink RX5 51 yX2_record, Cond.instanceMethod yX2_record, Cond.selects RX2 yX2_record yX2_record, Cond.initialized RX2]
def wsX5_cut_r3 : List Cond := [Cond.code yX2_record cX2_record 3 none, Cond.fieldLink RX2 24 "PeatBanks$History" "oldest" "LPeatBanks$Moss;", Cond.fieldLink RX2 21 "PeatBanks$History" "third" "LPeatBanks$Moss;", Cond.fieldLink RX2 18 "PeatBanks$History" "second" "LPeatBanks$Moss;", Cond.fieldLink RX2 12 "PeatBanks$History" "latest" "LPeatBanks$Moss;", Cond.fieldLink RX2 31 "PeatBanks$History" "states" "I", Cond.methodLink RX2 35 Lib.Math.min.name, Cond.static Lib.Math.min.name, Cond.initialized "java/lang/Math", Cond.code Lib.Math.min.name Lib.Math.min.code 2 (some .int), Cond.methodLink RX2 27 yX3_copyFrom, Cond.instanceMethod yX3_copyFrom, Cond.selects RX3 yX3_copyFrom yX3_copyFrom, Cond.code yX3_copyFrom cX3_copyFrom 2 none, Cond.fieldLink RX3 15 "PeatBanks$Moss" "owners" "[I", Cond.fieldLink RX3 27 "PeatBanks$Moss" "hearths" "[I", Cond.fieldLink RX3 40 "PeatBanks$Moss" "disputes" "LPeatBanks$Disputes;", Cond.fieldLink RX3 44 "PeatBanks$Moss" "cartRows" "I", Cond.fieldLink RX3 59 "PeatBanks$Moss" "stakes" "I", Cond.fieldLink RX3 62 "PeatBanks$Moss" "rota" "I", Cond.fieldLink RX3 65 "PeatBanks$Moss" "dayOfYear" "I", Cond.fieldLink RX3 68 "PeatBanks$Moss" "years" "I", Cond.fieldLink RX3 71 "PeatBanks$Moss" "rowsHome" "I", Cond.static yX5_copyNumbers]
def wsX5_cut_r4 : List Cond := [Cond.code yX5_copyNumbers cX5_copyNumbers 2 none, Cond.methodLink RX5 240 Lib.Math.min.name, Cond.methodLink RX5 245 arraycopyName, Cond.native arraycopyName, Cond.static arraycopyName, Cond.initialized "java/lang/System", Cond.methodLink RX3 52 yX4_copyFrom, Cond.instanceMethod yX4_copyFrom, Cond.selects RX4 yX4_copyFrom yX4_copyFrom, Cond.code yX4_copyFrom cX4_copyFrom 2 none, Cond.fieldLink RX4 9 "PeatBanks$Rows" "owner" "[I", Cond.fieldLink RX4 15 "PeatBanks$Rows" "plot" "[I", Cond.fieldLink RX4 18 "PeatBanks$Rows" "wetness" "[I", Cond.fieldLink RX4 21 "PeatBanks$Rows" "turned" "[Z", Cond.fieldLink RX4 25 "PeatBanks$Rows" "stacked" "[Z", Cond.static yX5_copyFlags, Cond.code yX5_copyFlags cX5_copyFlags 2 none, Cond.methodLink RX3 56 yX1_copyFrom, Cond.instanceMethod yX1_copyFrom, Cond.selects RX1 yX1_copyFrom yX1_copyFrom, Cond.initialized RX1, Cond.code yX1_copyFrom cX1_copyFrom 2 none, Cond.fieldLink RX1 9 "PeatBanks$Disputes" "cutter" "[I", Cond.fieldLink RX1 15 "PeatBanks$Disputes" "wronged" "[I"]
def wsX5_cut_r5 : List Cond := [Cond.fieldLink RX1 18 "PeatBanks$Disputes" "row" "[I", Cond.fieldLink RX1 21 "PeatBanks$Disputes" "plot" "[I", Cond.fieldLink RX1 28 "PeatBanks$Disputes" "settled" "I", Cond.fieldLink RX1 32 "PeatBanks$Disputes" "soFar" "I", Cond.methodLink RX5 90 yX3_takeLayer, Cond.instanceMethod yX3_takeLayer, Cond.selects RX3 yX3_takeLayer yX3_takeLayer, Cond.code yX3_takeLayer cX3_takeLayer 4 (some .int), Cond.methodLink RX3 92 yX4_lay, Cond.instanceMethod yX4_lay, Cond.selects RX4 yX4_lay yX4_lay, Cond.code yX4_lay cX4_lay 4 (some .int), Cond.methodLink RX4 43 yX4_hasNumberLeft, Cond.methodLink RX3 96 yX1_open, Cond.instanceMethod yX1_open, Cond.selects RX1 yX1_open yX1_open, Cond.code yX1_open cX1_open 5 none]
def wsX5_cut : List Cond := .code yX5_cut cX5_cut 3 (some .int) :: ((wsX5_cut_r1 ++ (wsX5_cut_r2 ++ (wsX5_cut_r3 ++ (wsX5_cut_r4 ++ wsX5_cut_r5)))) ++ wsX50 ++ wsX30 ++ wsX40 ++ wsX20 ++ wsX10)
def wsX5_turn_r1 : List Cond := [Cond.fieldLink RX5 12 "PeatBanks" "now" "LPeatBanks$Moss;", Cond.fieldLink RX5 80 "PeatBanks$Moss" "rows" "LPeatBanks$Rows;", Cond.fieldLink RX5 96 "PeatBanks$Rows" "stacked" "[Z", Cond.fieldLink RX5 100 "PeatBanks$Rows" "turned" "[Z", Cond.fieldLink RX5 25 "PeatBanks" "history" "LPeatBanks$History;", Cond.fieldLink RX5 103 "PeatBanks$Rows" "wetness" "[I", Cond.methodLink RX5 93 yX4_isLying, Cond.instanceMethod yX4_isLying, Cond.selects RX4 yX4_isLying yX4_isLying, Cond.initialized RX4, Cond.code yX4_isLying cX4_isLying 2 (some .boolean), Cond.fieldLink RX4 39 "PeatBanks$Rows" "soFar" "I", Cond.fieldLink RX4 28 "PeatBanks$Rows" "lying" "[Z", Cond.static yX5_isWithin, Cond.initialized RX5, Cond.code yX5_isWithin cX5_isWithin 3 (some .boolean), Cond.methodLink RX5 51 yX2_record, Cond.instanceMethod yX2_record, Cond.selects RX2 yX2_record yX2_record, Cond.initialized RX2, Cond.code yX2_record cX2_record 3 none, Cond.fieldLink RX2 24 "PeatBanks$History" "oldest" "LPeatBanks$Moss;", Cond.fieldLink RX2 21 "PeatBanks$History" "third" "LPeatBanks$Moss;", Cond.fieldLink RX2 18 "PeatBanks$History" "second" "LPeatBanks$Moss;"]
def wsX5_turn_r2 : List Cond := [Cond.fieldLink RX2 12 "PeatBanks$History" "latest" "LPeatBanks$Moss;", Cond.fieldLink RX2 31 "PeatBanks$History" "states" "I", Cond.methodLink RX2 35 Lib.Math.min.name, Cond.static Lib.Math.min.name, Cond.initialized "java/lang/Math", Cond.code Lib.Math.min.name Lib.Math.min.code 2 (some .int), Cond.methodLink RX2 27 yX3_copyFrom, Cond.instanceMethod yX3_copyFrom, Cond.selects RX3 yX3_copyFrom yX3_copyFrom, Cond.initialized RX3, Cond.code yX3_copyFrom cX3_copyFrom 2 none, Cond.fieldLink RX3 9 "PeatBanks$Moss" "layers" "[I", Cond.fieldLink RX3 15 "PeatBanks$Moss" "owners" "[I", Cond.fieldLink RX3 18 "PeatBanks$Moss" "rights" "[I", Cond.fieldLink RX3 21 "PeatBanks$Moss" "days" "[I", Cond.fieldLink RX3 24 "PeatBanks$Moss" "used" "[I", Cond.fieldLink RX3 27 "PeatBanks$Moss" "hearths" "[I", Cond.fieldLink RX3 33 "PeatBanks$Moss" "rows" "LPeatBanks$Rows;", Cond.fieldLink RX3 40 "PeatBanks$Moss" "disputes" "LPeatBanks$Disputes;", Cond.fieldLink RX3 44 "PeatBanks$Moss" "cartRows" "I", Cond.fieldLink RX3 59 "PeatBanks$Moss" "stakes" "I", Cond.fieldLink RX3 62 "PeatBanks$Moss" "rota" "I", Cond.fieldLink RX3 65 "PeatBanks$Moss" "dayOfYear" "I", Cond.fieldLink RX3 68 "PeatBanks$Moss" "years" "I"]
def wsX5_turn_r3 : List Cond := [Cond.fieldLink RX3 71 "PeatBanks$Moss" "rowsHome" "I", Cond.static yX5_copyNumbers, Cond.code yX5_copyNumbers cX5_copyNumbers 2 none, Cond.methodLink RX5 240 Lib.Math.min.name, Cond.methodLink RX5 245 arraycopyName, Cond.native arraycopyName, Cond.static arraycopyName, Cond.initialized "java/lang/System", Cond.methodLink RX3 52 yX4_copyFrom, Cond.instanceMethod yX4_copyFrom, Cond.selects RX4 yX4_copyFrom yX4_copyFrom, Cond.code yX4_copyFrom cX4_copyFrom 2 none, Cond.fieldLink RX4 9 "PeatBanks$Rows" "owner" "[I", Cond.fieldLink RX4 15 "PeatBanks$Rows" "plot" "[I", Cond.fieldLink RX4 18 "PeatBanks$Rows" "wetness" "[I", Cond.fieldLink RX4 21 "PeatBanks$Rows" "turned" "[Z", Cond.fieldLink RX4 25 "PeatBanks$Rows" "stacked" "[Z", Cond.static yX5_copyFlags, Cond.code yX5_copyFlags cX5_copyFlags 2 none, Cond.methodLink RX3 56 yX1_copyFrom, Cond.instanceMethod yX1_copyFrom, Cond.selects RX1 yX1_copyFrom yX1_copyFrom, Cond.initialized RX1, Cond.code yX1_copyFrom cX1_copyFrom 2 none]
def wsX5_turn_r4 : List Cond := [Cond.fieldLink RX1 9 "PeatBanks$Disputes" "cutter" "[I", Cond.fieldLink RX1 15 "PeatBanks$Disputes" "wronged" "[I", Cond.fieldLink RX1 18 "PeatBanks$Disputes" "row" "[I", Cond.fieldLink RX1 21 "PeatBanks$Disputes" "plot" "[I", Cond.fieldLink RX1 28 "PeatBanks$Disputes" "settled" "I", Cond.fieldLink RX1 32 "PeatBanks$Disputes" "soFar" "I"]
def wsX5_turn : List Cond := .code yX5_turn cX5_turn 2 (some .int) :: ((wsX5_turn_r1 ++ (wsX5_turn_r2 ++ (wsX5_turn_r3 ++ wsX5_turn_r4))) ++ wsX50 ++ wsX30 ++ wsX40 ++ wsX20 ++ wsX10)
def wsX5_stack_r1 : List Cond := [Cond.fieldLink RX5 12 "PeatBanks" "now" "LPeatBanks$Moss;", Cond.fieldLink RX5 80 "PeatBanks$Moss" "rows" "LPeatBanks$Rows;", Cond.fieldLink RX5 96 "PeatBanks$Rows" "stacked" "[Z", Cond.fieldLink RX5 25 "PeatBanks" "history" "LPeatBanks$History;", Cond.fieldLink RX5 109 "PeatBanks$Rows" "owner" "[I", Cond.methodLink RX5 93 yX4_isLying, Cond.instanceMethod yX4_isLying, Cond.selects RX4 yX4_isLying yX4_isLying, Cond.initialized RX4, Cond.code yX4_isLying cX4_isLying 2 (some .boolean), Cond.fieldLink RX4 39 "PeatBanks$Rows" "soFar" "I", Cond.fieldLink RX4 28 "PeatBanks$Rows" "lying" "[Z", Cond.static yX5_isWithin, Cond.initialized RX5, Cond.code yX5_isWithin cX5_isWithin 3 (some .boolean), Cond.methodLink RX5 106 yX4_isDry, Cond.instanceMethod yX4_isDry, Cond.selects RX4 yX4_isDry yX4_isDry, Cond.code yX4_isDry cX4_isDry 2 (some .boolean), Cond.fieldLink RX4 18 "PeatBanks$Rows" "wetness" "[I", Cond.methodLink RX4 51 yX4_isLying, Cond.methodLink RX5 51 yX2_record, Cond.instanceMethod yX2_record, Cond.selects RX2 yX2_record yX2_record]
def wsX5_stack_r2 : List Cond := [Cond.initialized RX2, Cond.code yX2_record cX2_record 3 none, Cond.fieldLink RX2 24 "PeatBanks$History" "oldest" "LPeatBanks$Moss;", Cond.fieldLink RX2 21 "PeatBanks$History" "third" "LPeatBanks$Moss;", Cond.fieldLink RX2 18 "PeatBanks$History" "second" "LPeatBanks$Moss;", Cond.fieldLink RX2 12 "PeatBanks$History" "latest" "LPeatBanks$Moss;", Cond.fieldLink RX2 31 "PeatBanks$History" "states" "I", Cond.methodLink RX2 35 Lib.Math.min.name, Cond.static Lib.Math.min.name, Cond.initialized "java/lang/Math", Cond.code Lib.Math.min.name Lib.Math.min.code 2 (some .int), Cond.methodLink RX2 27 yX3_copyFrom, Cond.instanceMethod yX3_copyFrom, Cond.selects RX3 yX3_copyFrom yX3_copyFrom, Cond.initialized RX3, Cond.code yX3_copyFrom cX3_copyFrom 2 none, Cond.fieldLink RX3 9 "PeatBanks$Moss" "layers" "[I", Cond.fieldLink RX3 15 "PeatBanks$Moss" "owners" "[I", Cond.fieldLink RX3 18 "PeatBanks$Moss" "rights" "[I", Cond.fieldLink RX3 21 "PeatBanks$Moss" "days" "[I", Cond.fieldLink RX3 24 "PeatBanks$Moss" "used" "[I", Cond.fieldLink RX3 27 "PeatBanks$Moss" "hearths" "[I", Cond.fieldLink RX3 33 "PeatBanks$Moss" "rows" "LPeatBanks$Rows;", Cond.fieldLink RX3 40 "PeatBanks$Moss" "disputes" "LPeatBanks$Disputes;"]
def wsX5_stack_r3 : List Cond := [Cond.fieldLink RX3 44 "PeatBanks$Moss" "cartRows" "I", Cond.fieldLink RX3 59 "PeatBanks$Moss" "stakes" "I", Cond.fieldLink RX3 62 "PeatBanks$Moss" "rota" "I", Cond.fieldLink RX3 65 "PeatBanks$Moss" "dayOfYear" "I", Cond.fieldLink RX3 68 "PeatBanks$Moss" "years" "I", Cond.fieldLink RX3 71 "PeatBanks$Moss" "rowsHome" "I", Cond.static yX5_copyNumbers, Cond.code yX5_copyNumbers cX5_copyNumbers 2 none, Cond.methodLink RX5 240 Lib.Math.min.name, Cond.methodLink RX5 245 arraycopyName, Cond.native arraycopyName, Cond.static arraycopyName, Cond.initialized "java/lang/System", Cond.methodLink RX3 52 yX4_copyFrom, Cond.instanceMethod yX4_copyFrom, Cond.selects RX4 yX4_copyFrom yX4_copyFrom, Cond.code yX4_copyFrom cX4_copyFrom 2 none, Cond.fieldLink RX4 9 "PeatBanks$Rows" "owner" "[I", Cond.fieldLink RX4 15 "PeatBanks$Rows" "plot" "[I", Cond.fieldLink RX4 21 "PeatBanks$Rows" "turned" "[Z", Cond.fieldLink RX4 25 "PeatBanks$Rows" "stacked" "[Z", Cond.static yX5_copyFlags, Cond.code yX5_copyFlags cX5_copyFlags 2 none, Cond.methodLink RX3 56 yX1_copyFrom]
def wsX5_stack_r4 : List Cond := [Cond.instanceMethod yX1_copyFrom, Cond.selects RX1 yX1_copyFrom yX1_copyFrom, Cond.initialized RX1, Cond.code yX1_copyFrom cX1_copyFrom 2 none, Cond.fieldLink RX1 9 "PeatBanks$Disputes" "cutter" "[I", Cond.fieldLink RX1 15 "PeatBanks$Disputes" "wronged" "[I", Cond.fieldLink RX1 18 "PeatBanks$Disputes" "row" "[I", Cond.fieldLink RX1 21 "PeatBanks$Disputes" "plot" "[I", Cond.fieldLink RX1 28 "PeatBanks$Disputes" "settled" "I", Cond.fieldLink RX1 32 "PeatBanks$Disputes" "soFar" "I", Cond.methodLink RX5 112 yX4_countStackedOf, Cond.instanceMethod yX4_countStackedOf, Cond.selects RX4 yX4_countStackedOf yX4_countStackedOf, Cond.code yX4_countStackedOf cX4_countStackedOf 4 (some .int), Cond.methodLink RX4 65 yX4_isStacked, Cond.instanceMethod yX4_isStacked, Cond.selects RX4 yX4_isStacked yX4_isStacked, Cond.code yX4_isStacked cX4_isStacked 2 (some .boolean), Cond.static yX5_oneIf, Cond.code yX5_oneIf cX5_oneIf 1 (some .int)]
def wsX5_stack : List Cond := .code yX5_stack cX5_stack 2 (some .int) :: ((wsX5_stack_r1 ++ (wsX5_stack_r2 ++ (wsX5_stack_r3 ++ wsX5_stack_r4))) ++ wsX50 ++ wsX30 ++ wsX40 ++ wsX20 ++ wsX10)
def wsX5_isWeather : List Cond := .code yX5_isWeather cX5_isWeather 1 (some .boolean) :: ([.methodLink RX5 58 yX5_isWithin, .static yX5_isWithin, .initialized RX5, .code yX5_isWithin cX5_isWithin 3 (some .boolean)])
def wsX5_pass_r1 : List Cond := [Cond.fieldLink RX5 25 "PeatBanks" "history" "LPeatBanks$History;", Cond.fieldLink RX5 12 "PeatBanks" "now" "LPeatBanks$Moss;", Cond.methodLink RX5 116 yX5_isWeather, Cond.static yX5_isWeather, Cond.initialized RX5, Cond.code yX5_isWeather cX5_isWeather 1 (some .boolean), Cond.methodLink RX5 58 yX5_isWithin, Cond.static yX5_isWithin, Cond.code yX5_isWithin cX5_isWithin 3 (some .boolean), Cond.methodLink RX5 51 yX2_record, Cond.instanceMethod yX2_record, Cond.selects RX2 yX2_record yX2_record, Cond.initialized RX2, Cond.code yX2_record cX2_record 3 none, Cond.fieldLink RX2 24 "PeatBanks$History" "oldest" "LPeatBanks$Moss;", Cond.fieldLink RX2 21 "PeatBanks$History" "third" "LPeatBanks$Moss;", Cond.fieldLink RX2 18 "PeatBanks$History" "second" "LPeatBanks$Moss;", Cond.fieldLink RX2 12 "PeatBanks$History" "latest" "LPeatBanks$Moss;", Cond.fieldLink RX2 31 "PeatBanks$History" "states" "I", Cond.methodLink RX2 35 Lib.Math.min.name, Cond.static Lib.Math.min.name, Cond.initialized "java/lang/Math", Cond.code Lib.Math.min.name Lib.Math.min.code 2 (some .int), Cond.methodLink RX2 27 yX3_copyFrom]
def wsX5_pass_r2 : List Cond := [Cond.instanceMethod yX3_copyFrom, Cond.selects RX3 yX3_copyFrom yX3_copyFrom, Cond.initialized RX3, Cond.code yX3_copyFrom cX3_copyFrom 2 none, Cond.fieldLink RX3 9 "PeatBanks$Moss" "layers" "[I", Cond.fieldLink RX3 15 "PeatBanks$Moss" "owners" "[I", Cond.fieldLink RX3 18 "PeatBanks$Moss" "rights" "[I", Cond.fieldLink RX3 21 "PeatBanks$Moss" "days" "[I", Cond.fieldLink RX3 24 "PeatBanks$Moss" "used" "[I", Cond.fieldLink RX3 27 "PeatBanks$Moss" "hearths" "[I", Cond.fieldLink RX3 33 "PeatBanks$Moss" "rows" "LPeatBanks$Rows;", Cond.fieldLink RX3 40 "PeatBanks$Moss" "disputes" "LPeatBanks$Disputes;", Cond.fieldLink RX3 44 "PeatBanks$Moss" "cartRows" "I", Cond.fieldLink RX3 59 "PeatBanks$Moss" "stakes" "I", Cond.fieldLink RX3 62 "PeatBanks$Moss" "rota" "I", Cond.fieldLink RX3 65 "PeatBanks$Moss" "dayOfYear" "I", Cond.fieldLink RX3 68 "PeatBanks$Moss" "years" "I", Cond.fieldLink RX3 71 "PeatBanks$Moss" "rowsHome" "I", Cond.static yX5_copyNumbers, Cond.code yX5_copyNumbers cX5_copyNumbers 2 none, Cond.methodLink RX5 240 Lib.Math.min.name, Cond.methodLink RX5 245 arraycopyName, Cond.native arraycopyName, Cond.static arraycopyName]
def wsX5_pass_r3 : List Cond := [Cond.initialized "java/lang/System", Cond.methodLink RX3 52 yX4_copyFrom, Cond.instanceMethod yX4_copyFrom, Cond.selects RX4 yX4_copyFrom yX4_copyFrom, Cond.initialized RX4, Cond.code yX4_copyFrom cX4_copyFrom 2 none, Cond.fieldLink RX4 9 "PeatBanks$Rows" "owner" "[I", Cond.fieldLink RX4 15 "PeatBanks$Rows" "plot" "[I", Cond.fieldLink RX4 18 "PeatBanks$Rows" "wetness" "[I", Cond.fieldLink RX4 21 "PeatBanks$Rows" "turned" "[Z", Cond.fieldLink RX4 25 "PeatBanks$Rows" "stacked" "[Z", Cond.fieldLink RX4 28 "PeatBanks$Rows" "lying" "[Z", Cond.fieldLink RX4 39 "PeatBanks$Rows" "soFar" "I", Cond.static yX5_copyFlags, Cond.code yX5_copyFlags cX5_copyFlags 2 none, Cond.methodLink RX3 56 yX1_copyFrom, Cond.instanceMethod yX1_copyFrom, Cond.selects RX1 yX1_copyFrom yX1_copyFrom, Cond.initialized RX1, Cond.code yX1_copyFrom cX1_copyFrom 2 none, Cond.fieldLink RX1 9 "PeatBanks$Disputes" "cutter" "[I", Cond.fieldLink RX1 15 "PeatBanks$Disputes" "wronged" "[I", Cond.fieldLink RX1 18 "PeatBanks$Disputes" "row" "[I", Cond.fieldLink RX1 21 "PeatBanks$Disputes" "plot" "[I"]
def wsX5_pass_r4 : List Cond := [Cond.fieldLink RX1 28 "PeatBanks$Disputes" "settled" "I", Cond.fieldLink RX1 32 "PeatBanks$Disputes" "soFar" "I", Cond.methodLink RX5 119 yX3_passDays, Cond.instanceMethod yX3_passDays, Cond.selects RX3 yX3_passDays yX3_passDays, Cond.code yX3_passDays cX3_passDays 6 (some .int), Cond.methodLink RX3 100 yX4_dryOrWet, Cond.instanceMethod yX4_dryOrWet, Cond.selects RX4 yX4_dryOrWet yX4_dryOrWet, Cond.code yX4_dryOrWet cX4_dryOrWet 4 none, Cond.methodLink RX4 85 Lib.Math.min.name, Cond.methodLink RX4 55 Lib.Math.max.name, Cond.static Lib.Math.max.name, Cond.code Lib.Math.max.name Lib.Math.max.code 2 (some .int), Cond.methodLink RX4 81 yX4_changeBy, Cond.static yX4_changeBy, Cond.code yX4_changeBy cX4_changeBy 2 (some .int), Cond.methodLink RX3 104 yX3_commonerOfCart, Cond.instanceMethod yX3_commonerOfCart, Cond.selects RX3 yX3_commonerOfCart yX3_commonerOfCart, Cond.code yX3_commonerOfCart cX3_commonerOfCart 2 (some .int), Cond.methodLink RX3 108 yX3_serve, Cond.instanceMethod yX3_serve, Cond.selects RX3 yX3_serve yX3_serve]
def wsX5_pass_r5 : List Cond := [Cond.code yX3_serve cX3_serve 4 none, Cond.fieldLink RX3 120 "PeatBanks$Rows" "lying" "[Z", Cond.methodLink RX3 111 yX4_driestStackedOf, Cond.instanceMethod yX4_driestStackedOf, Cond.selects RX4 yX4_driestStackedOf yX4_driestStackedOf, Cond.code yX4_driestStackedOf cX4_driestStackedOf 4 (some .int), Cond.static yX5_isCommoner, Cond.code yX5_isCommoner cX5_isCommoner 1 (some .boolean), Cond.methodLink RX3 114 yX4_isLying, Cond.instanceMethod yX4_isLying, Cond.selects RX4 yX4_isLying yX4_isLying, Cond.code yX4_isLying cX4_isLying 2 (some .boolean), Cond.methodLink RX3 117 yX4_peatsAtHearth, Cond.instanceMethod yX4_peatsAtHearth, Cond.selects RX4 yX4_peatsAtHearth yX4_peatsAtHearth, Cond.code yX4_peatsAtHearth cX4_peatsAtHearth 2 (some .int), Cond.methodLink RX4 51 yX4_isLying]
def wsX5_pass : List Cond := .code yX5_pass cX5_pass 2 (some .int) :: ((wsX5_pass_r1 ++ (wsX5_pass_r2 ++ (wsX5_pass_r3 ++ (wsX5_pass_r4 ++ wsX5_pass_r5)))) ++ wsX50 ++ wsX20 ++ wsX30 ++ wsX40 ++ wsX10)
def wsX5_passAll_r1 : List Cond := [Cond.fieldLink RX5 32 "PeatBanks" "text" "LPeatBanks$DayText;", Cond.fieldLink RX5 25 "PeatBanks" "history" "LPeatBanks$History;", Cond.fieldLink RX5 12 "PeatBanks" "now" "LPeatBanks$Moss;", Cond.fieldLink RX5 126 "PeatBanks$DayText" "groups" "I", Cond.fieldLink RX5 129 "PeatBanks$DayText" "groupDays" "[I", Cond.fieldLink RX5 132 "PeatBanks$DayText" "groupWeather" "[I", Cond.methodLink RX5 122 yX0_readGroups, Cond.instanceMethod yX0_readGroups, Cond.selects RX0 yX0_readGroups yX0_readGroups, Cond.initialized RX0, Cond.code yX0_readGroups cX0_readGroups 4 (some .int), Cond.fieldLink RX0 26 "PeatBanks$DayText" "groups" "I", Cond.fieldLink RX0 22 "PeatBanks$DayText" "length" "I", Cond.fieldLink RX0 9 "PeatBanks$DayText" "characters" "[C", Cond.fieldLink RX0 19 "PeatBanks$DayText" "groupDays" "[I", Cond.methodLink RX0 29 yX0_isWeatherLetter, Cond.static yX0_isWeatherLetter, Cond.code yX0_isWeatherLetter cX0_isWeatherLetter 1 (some .boolean), Cond.methodLink RX0 33 yX0_weatherOf, Cond.static yX0_weatherOf, Cond.code yX0_weatherOf cX0_weatherOf 1 (some .int), Cond.methodLink RX0 37 yX0_openGroup, Cond.instanceMethod yX0_openGroup, Cond.selects RX0 yX0_openGroup yX0_openGroup]
def wsX5_passAll_r2 : List Cond := [Cond.code yX0_openGroup cX0_openGroup 2 none, Cond.fieldLink RX0 15 "PeatBanks$DayText" "groupWeather" "[I", Cond.methodLink RX0 41 yX0_isDigit, Cond.static yX0_isDigit, Cond.code yX0_isDigit cX0_isDigit 1 (some .boolean), Cond.methodLink RX5 51 yX2_record, Cond.instanceMethod yX2_record, Cond.selects RX2 yX2_record yX2_record, Cond.initialized RX2, Cond.code yX2_record cX2_record 3 none, Cond.fieldLink RX2 24 "PeatBanks$History" "oldest" "LPeatBanks$Moss;", Cond.fieldLink RX2 21 "PeatBanks$History" "third" "LPeatBanks$Moss;", Cond.fieldLink RX2 18 "PeatBanks$History" "second" "LPeatBanks$Moss;", Cond.fieldLink RX2 12 "PeatBanks$History" "latest" "LPeatBanks$Moss;", Cond.fieldLink RX2 31 "PeatBanks$History" "states" "I", Cond.methodLink RX2 35 Lib.Math.min.name, Cond.static Lib.Math.min.name, Cond.initialized "java/lang/Math", Cond.code Lib.Math.min.name Lib.Math.min.code 2 (some .int), Cond.methodLink RX2 27 yX3_copyFrom, Cond.instanceMethod yX3_copyFrom, Cond.selects RX3 yX3_copyFrom yX3_copyFrom, Cond.initialized RX3, Cond.code yX3_copyFrom cX3_copyFrom 2 none]
def wsX5_passAll_r3 : List Cond := [Cond.fieldLink RX3 9 "PeatBanks$Moss" "layers" "[I", Cond.fieldLink RX3 15 "PeatBanks$Moss" "owners" "[I", Cond.fieldLink RX3 18 "PeatBanks$Moss" "rights" "[I", Cond.fieldLink RX3 21 "PeatBanks$Moss" "days" "[I", Cond.fieldLink RX3 24 "PeatBanks$Moss" "used" "[I", Cond.fieldLink RX3 27 "PeatBanks$Moss" "hearths" "[I", Cond.fieldLink RX3 33 "PeatBanks$Moss" "rows" "LPeatBanks$Rows;", Cond.fieldLink RX3 40 "PeatBanks$Moss" "disputes" "LPeatBanks$Disputes;", Cond.fieldLink RX3 44 "PeatBanks$Moss" "cartRows" "I", Cond.fieldLink RX3 59 "PeatBanks$Moss" "stakes" "I", Cond.fieldLink RX3 62 "PeatBanks$Moss" "rota" "I", Cond.fieldLink RX3 65 "PeatBanks$Moss" "dayOfYear" "I", Cond.fieldLink RX3 68 "PeatBanks$Moss" "years" "I", Cond.fieldLink RX3 71 "PeatBanks$Moss" "rowsHome" "I", Cond.static yX5_copyNumbers, Cond.initialized RX5, Cond.code yX5_copyNumbers cX5_copyNumbers 2 none, Cond.methodLink RX5 240 Lib.Math.min.name, Cond.methodLink RX5 245 arraycopyName, Cond.native arraycopyName, Cond.static arraycopyName, Cond.initialized "java/lang/System", Cond.methodLink RX3 52 yX4_copyFrom, Cond.instanceMethod yX4_copyFrom]
def wsX5_passAll_r4 : List Cond := [Cond.selects RX4 yX4_copyFrom yX4_copyFrom, Cond.initialized RX4, Cond.code yX4_copyFrom cX4_copyFrom 2 none, Cond.fieldLink RX4 9 "PeatBanks$Rows" "owner" "[I", Cond.fieldLink RX4 15 "PeatBanks$Rows" "plot" "[I", Cond.fieldLink RX4 18 "PeatBanks$Rows" "wetness" "[I", Cond.fieldLink RX4 21 "PeatBanks$Rows" "turned" "[Z", Cond.fieldLink RX4 25 "PeatBanks$Rows" "stacked" "[Z", Cond.fieldLink RX4 28 "PeatBanks$Rows" "lying" "[Z", Cond.fieldLink RX4 39 "PeatBanks$Rows" "soFar" "I", Cond.static yX5_copyFlags, Cond.code yX5_copyFlags cX5_copyFlags 2 none, Cond.methodLink RX3 56 yX1_copyFrom, Cond.instanceMethod yX1_copyFrom, Cond.selects RX1 yX1_copyFrom yX1_copyFrom, Cond.initialized RX1, Cond.code yX1_copyFrom cX1_copyFrom 2 none, Cond.fieldLink RX1 9 "PeatBanks$Disputes" "cutter" "[I", Cond.fieldLink RX1 15 "PeatBanks$Disputes" "wronged" "[I", Cond.fieldLink RX1 18 "PeatBanks$Disputes" "row" "[I", Cond.fieldLink RX1 21 "PeatBanks$Disputes" "plot" "[I", Cond.fieldLink RX1 28 "PeatBanks$Disputes" "settled" "I", Cond.fieldLink RX1 32 "PeatBanks$Disputes" "soFar" "I", Cond.methodLink RX5 119 yX3_passDays]
def wsX5_passAll_r5 : List Cond := [Cond.instanceMethod yX3_passDays, Cond.selects RX3 yX3_passDays yX3_passDays, Cond.code yX3_passDays cX3_passDays 6 (some .int), Cond.methodLink RX3 100 yX4_dryOrWet, Cond.instanceMethod yX4_dryOrWet, Cond.selects RX4 yX4_dryOrWet yX4_dryOrWet, Cond.code yX4_dryOrWet cX4_dryOrWet 4 none, Cond.methodLink RX4 85 Lib.Math.min.name, Cond.methodLink RX4 55 Lib.Math.max.name, Cond.static Lib.Math.max.name, Cond.code Lib.Math.max.name Lib.Math.max.code 2 (some .int), Cond.methodLink RX4 81 yX4_changeBy, Cond.static yX4_changeBy, Cond.code yX4_changeBy cX4_changeBy 2 (some .int), Cond.methodLink RX3 104 yX3_commonerOfCart, Cond.instanceMethod yX3_commonerOfCart, Cond.selects RX3 yX3_commonerOfCart yX3_commonerOfCart, Cond.code yX3_commonerOfCart cX3_commonerOfCart 2 (some .int), Cond.methodLink RX3 108 yX3_serve, Cond.instanceMethod yX3_serve, Cond.selects RX3 yX3_serve yX3_serve, Cond.code yX3_serve cX3_serve 4 none, Cond.fieldLink RX3 120 "PeatBanks$Rows" "lying" "[Z", Cond.methodLink RX3 111 yX4_driestStackedOf]
def wsX5_passAll_r6 : List Cond := [Cond.instanceMethod yX4_driestStackedOf, Cond.selects RX4 yX4_driestStackedOf yX4_driestStackedOf, Cond.code yX4_driestStackedOf cX4_driestStackedOf 4 (some .int), Cond.static yX5_isCommoner, Cond.code yX5_isCommoner cX5_isCommoner 1 (some .boolean), Cond.methodLink RX5 58 yX5_isWithin, Cond.static yX5_isWithin, Cond.code yX5_isWithin cX5_isWithin 3 (some .boolean), Cond.methodLink RX3 114 yX4_isLying, Cond.instanceMethod yX4_isLying, Cond.selects RX4 yX4_isLying yX4_isLying, Cond.code yX4_isLying cX4_isLying 2 (some .boolean), Cond.methodLink RX3 117 yX4_peatsAtHearth, Cond.instanceMethod yX4_peatsAtHearth, Cond.selects RX4 yX4_peatsAtHearth yX4_peatsAtHearth, Cond.code yX4_peatsAtHearth cX4_peatsAtHearth 2 (some .int), Cond.methodLink RX4 51 yX4_isLying]
def wsX5_passAll : List Cond := .code yX5_passAll cX5_passAll 4 (some .int) :: ((wsX5_passAll_r1 ++ (wsX5_passAll_r2 ++ (wsX5_passAll_r3 ++ (wsX5_passAll_r4 ++ (wsX5_passAll_r5 ++ wsX5_passAll_r6))))) ++ wsX50 ++ wsX00 ++ wsX20 ++ wsX30 ++ wsX40 ++ wsX10)
def wsX5_settle_r1 : List Cond := [Cond.fieldLink RX5 12 "PeatBanks" "now" "LPeatBanks$Moss;", Cond.fieldLink RX5 135 "PeatBanks$Moss" "disputes" "LPeatBanks$Disputes;", Cond.fieldLink RX5 25 "PeatBanks" "history" "LPeatBanks$History;", Cond.methodLink RX5 139 yX1_countOpen, Cond.instanceMethod yX1_countOpen, Cond.selects RX1 yX1_countOpen yX1_countOpen, Cond.initialized RX1, Cond.code yX1_countOpen cX1_countOpen 1 (some .int), Cond.fieldLink RX1 32 "PeatBanks$Disputes" "soFar" "I", Cond.fieldLink RX1 28 "PeatBanks$Disputes" "settled" "I", Cond.methodLink RX5 51 yX2_record, Cond.instanceMethod yX2_record, Cond.selects RX2 yX2_record yX2_record, Cond.initialized RX2, Cond.code yX2_record cX2_record 3 none, Cond.fieldLink RX2 24 "PeatBanks$History" "oldest" "LPeatBanks$Moss;", Cond.fieldLink RX2 21 "PeatBanks$History" "third" "LPeatBanks$Moss;", Cond.fieldLink RX2 18 "PeatBanks$History" "second" "LPeatBanks$Moss;", Cond.fieldLink RX2 12 "PeatBanks$History" "latest" "LPeatBanks$Moss;", Cond.fieldLink RX2 31 "PeatBanks$History" "states" "I", Cond.methodLink RX2 35 Lib.Math.min.name, Cond.static Lib.Math.min.name, Cond.initialized "java/lang/Math", Cond.code Lib.Math.min.name Lib.Math.min.code 2 (some .int)]
def wsX5_settle_r2 : List Cond := [Cond.methodLink RX2 27 yX3_copyFrom, Cond.instanceMethod yX3_copyFrom, Cond.selects RX3 yX3_copyFrom yX3_copyFrom, Cond.initialized RX3, Cond.code yX3_copyFrom cX3_copyFrom 2 none, Cond.fieldLink RX3 9 "PeatBanks$Moss" "layers" "[I", Cond.fieldLink RX3 15 "PeatBanks$Moss" "owners" "[I", Cond.fieldLink RX3 18 "PeatBanks$Moss" "rights" "[I", Cond.fieldLink RX3 21 "PeatBanks$Moss" "days" "[I", Cond.fieldLink RX3 24 "PeatBanks$Moss" "used" "[I", Cond.fieldLink RX3 27 "PeatBanks$Moss" "hearths" "[I", Cond.fieldLink RX3 33 "PeatBanks$Moss" "rows" "LPeatBanks$Rows;", Cond.fieldLink RX3 40 "PeatBanks$Moss" "disputes" "LPeatBanks$Disputes;", Cond.fieldLink RX3 44 "PeatBanks$Moss" "cartRows" "I", Cond.fieldLink RX3 59 "PeatBanks$Moss" "stakes" "I", Cond.fieldLink RX3 62 "PeatBanks$Moss" "rota" "I", Cond.fieldLink RX3 65 "PeatBanks$Moss" "dayOfYear" "I", Cond.fieldLink RX3 68 "PeatBanks$Moss" "years" "I", Cond.fieldLink RX3 71 "PeatBanks$Moss" "rowsHome" "I", Cond.static yX5_copyNumbers, Cond.initialized RX5, Cond.code yX5_copyNumbers cX5_copyNumbers 2 none, Cond.methodLink RX5 240 Lib.Math.min.name, Cond.methodLink RX5 245 arraycopyName]
def wsX5_settle_r3 : List Cond := [Cond.native arraycopyName, Cond.static arraycopyName, Cond.initialized "java/lang/System", Cond.methodLink RX3 52 yX4_copyFrom, Cond.instanceMethod yX4_copyFrom, Cond.selects RX4 yX4_copyFrom yX4_copyFrom, Cond.initialized RX4, Cond.code yX4_copyFrom cX4_copyFrom 2 none, Cond.fieldLink RX4 9 "PeatBanks$Rows" "owner" "[I", Cond.fieldLink RX4 15 "PeatBanks$Rows" "plot" "[I", Cond.fieldLink RX4 18 "PeatBanks$Rows" "wetness" "[I", Cond.fieldLink RX4 21 "PeatBanks$Rows" "turned" "[Z", Cond.fieldLink RX4 25 "PeatBanks$Rows" "stacked" "[Z", Cond.fieldLink RX4 28 "PeatBanks$Rows" "lying" "[Z", Cond.fieldLink RX4 39 "PeatBanks$Rows" "soFar" "I", Cond.static yX5_copyFlags, Cond.code yX5_copyFlags cX5_copyFlags 2 none, Cond.methodLink RX3 56 yX1_copyFrom, Cond.instanceMethod yX1_copyFrom, Cond.selects RX1 yX1_copyFrom yX1_copyFrom, Cond.code yX1_copyFrom cX1_copyFrom 2 none, Cond.fieldLink RX1 9 "PeatBanks$Disputes" "cutter" "[I", Cond.fieldLink RX1 15 "PeatBanks$Disputes" "wronged" "[I", Cond.fieldLink RX1 18 "PeatBanks$Disputes" "row" "[I"]
def wsX5_settle_r4 : List Cond := [Cond.fieldLink RX1 21 "PeatBanks$Disputes" "plot" "[I", Cond.methodLink RX5 144 yX3_settleOldest, Cond.instanceMethod yX3_settleOldest, Cond.selects RX3 yX3_settleOldest yX3_settleOldest, Cond.code yX3_settleOldest cX3_settleOldest 5 (some .int), Cond.fieldLink RX3 127 "PeatBanks$Disputes" "settled" "I", Cond.fieldLink RX3 130 "PeatBanks$Disputes" "cutter" "[I", Cond.fieldLink RX3 136 "PeatBanks$Disputes" "wronged" "[I", Cond.fieldLink RX3 139 "PeatBanks$Disputes" "row" "[I", Cond.fieldLink RX3 142 "PeatBanks$Rows" "owner" "[I", Cond.methodLink RX3 124 yX1_countOpen, Cond.methodLink RX3 133 yX3_useDayIfLeft, Cond.instanceMethod yX3_useDayIfLeft, Cond.selects RX3 yX3_useDayIfLeft yX3_useDayIfLeft, Cond.code yX3_useDayIfLeft cX3_useDayIfLeft 2 none, Cond.methodLink RX3 74 yX3_hasDayLeft, Cond.instanceMethod yX3_hasDayLeft, Cond.selects RX3 yX3_hasDayLeft yX3_hasDayLeft, Cond.code yX3_hasDayLeft cX3_hasDayLeft 2 (some .boolean), Cond.static yX5_isCommoner, Cond.code yX5_isCommoner cX5_isCommoner 1 (some .boolean), Cond.methodLink RX5 58 yX5_isWithin, Cond.static yX5_isWithin, Cond.code yX5_isWithin cX5_isWithin 3 (some .boolean)]
def wsX5_settle_r5 : List Cond := [Cond.methodLink RX3 114 yX4_isLying, Cond.instanceMethod yX4_isLying, Cond.selects RX4 yX4_isLying yX4_isLying, Cond.code yX4_isLying cX4_isLying 2 (some .boolean), Cond.methodLink RX3 145 yX3_givePeats, Cond.instanceMethod yX3_givePeats, Cond.selects RX3 yX3_givePeats yX3_givePeats, Cond.code yX3_givePeats cX3_givePeats 4 none, Cond.methodLink RX3 149 Lib.Math.min.name]
def wsX5_settle : List Cond := .code yX5_settle cX5_settle 1 (some .int) :: ((wsX5_settle_r1 ++ (wsX5_settle_r2 ++ (wsX5_settle_r3 ++ (wsX5_settle_r4 ++ wsX5_settle_r5)))) ++ wsX50 ++ wsX30 ++ wsX10 ++ wsX20 ++ wsX40)
def wsX5_endYear_r1 : List Cond := [Cond.fieldLink RX5 25 "PeatBanks" "history" "LPeatBanks$History;", Cond.fieldLink RX5 12 "PeatBanks" "now" "LPeatBanks$Moss;", Cond.methodLink RX5 51 yX2_record, Cond.instanceMethod yX2_record, Cond.selects RX2 yX2_record yX2_record, Cond.initialized RX2, Cond.code yX2_record cX2_record 3 none, Cond.fieldLink RX2 24 "PeatBanks$History" "oldest" "LPeatBanks$Moss;", Cond.fieldLink RX2 21 "PeatBanks$History" "third" "LPeatBanks$Moss;", Cond.fieldLink RX2 18 "PeatBanks$History" "second" "LPeatBanks$Moss;", Cond.fieldLink RX2 12 "PeatBanks$History" "latest" "LPeatBanks$Moss;", Cond.fieldLink RX2 31 "PeatBanks$History" "states" "I", Cond.methodLink RX2 35 Lib.Math.min.name, Cond.static Lib.Math.min.name, Cond.initialized "java/lang/Math", Cond.code Lib.Math.min.name Lib.Math.min.code 2 (some .int), Cond.methodLink RX2 27 yX3_copyFrom, Cond.instanceMethod yX3_copyFrom, Cond.selects RX3 yX3_copyFrom yX3_copyFrom, Cond.initialized RX3, Cond.code yX3_copyFrom cX3_copyFrom 2 none, Cond.fieldLink RX3 9 "PeatBanks$Moss" "layers" "[I", Cond.fieldLink RX3 15 "PeatBanks$Moss" "owners" "[I", Cond.fieldLink RX3 18 "PeatBanks$Moss" "rights" "[I"]
def wsX5_endYear_r2 : List Cond := [Cond.fieldLink RX3 21 "PeatBanks$Moss" "days" "[I", Cond.fieldLink RX3 24 "PeatBanks$Moss" "used" "[I", Cond.fieldLink RX3 27 "PeatBanks$Moss" "hearths" "[I", Cond.fieldLink RX3 33 "PeatBanks$Moss" "rows" "LPeatBanks$Rows;", Cond.fieldLink RX3 40 "PeatBanks$Moss" "disputes" "LPeatBanks$Disputes;", Cond.fieldLink RX3 44 "PeatBanks$Moss" "cartRows" "I", Cond.fieldLink RX3 59 "PeatBanks$Moss" "stakes" "I", Cond.fieldLink RX3 62 "PeatBanks$Moss" "rota" "I", Cond.fieldLink RX3 65 "PeatBanks$Moss" "dayOfYear" "I", Cond.fieldLink RX3 68 "PeatBanks$Moss" "years" "I", Cond.fieldLink RX3 71 "PeatBanks$Moss" "rowsHome" "I", Cond.static yX5_copyNumbers, Cond.initialized RX5, Cond.code yX5_copyNumbers cX5_copyNumbers 2 none, Cond.methodLink RX5 240 Lib.Math.min.name, Cond.methodLink RX5 245 arraycopyName, Cond.native arraycopyName, Cond.static arraycopyName, Cond.initialized "java/lang/System", Cond.methodLink RX3 52 yX4_copyFrom, Cond.instanceMethod yX4_copyFrom, Cond.selects RX4 yX4_copyFrom yX4_copyFrom, Cond.initialized RX4, Cond.code yX4_copyFrom cX4_copyFrom 2 none]
def wsX5_endYear_r3 : List Cond := [Cond.fieldLink RX4 9 "PeatBanks$Rows" "owner" "[I", Cond.fieldLink RX4 15 "PeatBanks$Rows" "plot" "[I", Cond.fieldLink RX4 18 "PeatBanks$Rows" "wetness" "[I", Cond.fieldLink RX4 21 "PeatBanks$Rows" "turned" "[Z", Cond.fieldLink RX4 25 "PeatBanks$Rows" "stacked" "[Z", Cond.fieldLink RX4 28 "PeatBanks$Rows" "lying" "[Z", Cond.fieldLink RX4 39 "PeatBanks$Rows" "soFar" "I", Cond.static yX5_copyFlags, Cond.code yX5_copyFlags cX5_copyFlags 2 none, Cond.methodLink RX3 56 yX1_copyFrom, Cond.instanceMethod yX1_copyFrom, Cond.selects RX1 yX1_copyFrom yX1_copyFrom, Cond.initialized RX1, Cond.code yX1_copyFrom cX1_copyFrom 2 none, Cond.fieldLink RX1 9 "PeatBanks$Disputes" "cutter" "[I", Cond.fieldLink RX1 15 "PeatBanks$Disputes" "wronged" "[I", Cond.fieldLink RX1 18 "PeatBanks$Disputes" "row" "[I", Cond.fieldLink RX1 21 "PeatBanks$Disputes" "plot" "[I", Cond.fieldLink RX1 28 "PeatBanks$Disputes" "settled" "I", Cond.fieldLink RX1 32 "PeatBanks$Disputes" "soFar" "I", Cond.methodLink RX5 147 yX3_closeYear, Cond.instanceMethod yX3_closeYear, Cond.selects RX3 yX3_closeYear yX3_closeYear, Cond.code yX3_closeYear cX3_closeYear 3 (some .int)]
def wsX5_endYear_r4 : List Cond := [Cond.fieldLink RX3 157 "PeatBanks$Disputes" "soFar" "I", Cond.fieldLink RX3 127 "PeatBanks$Disputes" "settled" "I", Cond.methodLink RX3 154 yX4_loseAll, Cond.instanceMethod yX4_loseAll, Cond.selects RX4 yX4_loseAll yX4_loseAll, Cond.code yX4_loseAll cX4_loseAll 3 (some .int), Cond.methodLink RX4 88 yX4_countLying, Cond.instanceMethod yX4_countLying, Cond.selects RX4 yX4_countLying yX4_countLying, Cond.code yX4_countLying cX4_countLying 3 (some .int), Cond.static yX5_oneIf, Cond.code yX5_oneIf cX5_oneIf 1 (some .int)]
def wsX5_endYear : List Cond := .code yX5_endYear cX5_endYear 1 (some .int) :: ((wsX5_endYear_r1 ++ (wsX5_endYear_r2 ++ (wsX5_endYear_r3 ++ wsX5_endYear_r4))) ++ wsX50 ++ wsX20 ++ wsX30 ++ wsX40 ++ wsX10)
def wsX5_type : List Cond := .code yX5_type cX5_type 2 (some .int) :: ([.fieldLink RX5 32 "PeatBanks" "text" "LPeatBanks$DayText;", .fieldLink RX5 154 "PeatBanks$DayText" "length" "I", .methodLink RX5 150 yX0_append, .instanceMethod yX0_append, .selects RX0 yX0_append yX0_append, .initialized RX0, .code yX0_append cX0_append 2 (some .boolean), .fieldLink RX0 22 "PeatBanks$DayText" "length" "I", .fieldLink RX0 9 "PeatBanks$DayText" "characters" "[C"] ++ wsX50 ++ wsX00)
def wsX5_clearText : List Cond := .code yX5_clearText cX5_clearText 2 (some .int) :: ([.fieldLink RX5 32 "PeatBanks" "text" "LPeatBanks$DayText;", .fieldLink RX5 154 "PeatBanks$DayText" "length" "I"] ++ wsX50 ++ wsX00)
def wsX5_undo_r1 : List Cond := [Cond.fieldLink RX5 25 "PeatBanks" "history" "LPeatBanks$History;", Cond.fieldLink RX5 157 "PeatBanks$History" "states" "I", Cond.fieldLink RX5 12 "PeatBanks" "now" "LPeatBanks$Moss;", Cond.methodLink RX5 160 yX2_takeBack, Cond.instanceMethod yX2_takeBack, Cond.selects RX2 yX2_takeBack yX2_takeBack, Cond.initialized RX2, Cond.code yX2_takeBack cX2_takeBack 3 none, Cond.fieldLink RX2 31 "PeatBanks$History" "states" "I", Cond.fieldLink RX2 12 "PeatBanks$History" "latest" "LPeatBanks$Moss;", Cond.fieldLink RX2 18 "PeatBanks$History" "second" "LPeatBanks$Moss;", Cond.fieldLink RX2 21 "PeatBanks$History" "third" "LPeatBanks$Moss;", Cond.fieldLink RX2 24 "PeatBanks$History" "oldest" "LPeatBanks$Moss;", Cond.methodLink RX2 27 yX3_copyFrom, Cond.instanceMethod yX3_copyFrom, Cond.selects RX3 yX3_copyFrom yX3_copyFrom, Cond.initialized RX3, Cond.code yX3_copyFrom cX3_copyFrom 2 none, Cond.fieldLink RX3 9 "PeatBanks$Moss" "layers" "[I", Cond.fieldLink RX3 15 "PeatBanks$Moss" "owners" "[I", Cond.fieldLink RX3 18 "PeatBanks$Moss" "rights" "[I", Cond.fieldLink RX3 21 "PeatBanks$Moss" "days" "[I", Cond.fieldLink RX3 24 "PeatBanks$Moss" "used" "[I", Cond.fieldLink RX3 27 "PeatBanks$Moss" "hearths" "[I"]
def wsX5_undo_r2 : List Cond := [Cond.fieldLink RX3 33 "PeatBanks$Moss" "rows" "LPeatBanks$Rows;", Cond.fieldLink RX3 40 "PeatBanks$Moss" "disputes" "LPeatBanks$Disputes;", Cond.fieldLink RX3 44 "PeatBanks$Moss" "cartRows" "I", Cond.fieldLink RX3 59 "PeatBanks$Moss" "stakes" "I", Cond.fieldLink RX3 62 "PeatBanks$Moss" "rota" "I", Cond.fieldLink RX3 65 "PeatBanks$Moss" "dayOfYear" "I", Cond.fieldLink RX3 68 "PeatBanks$Moss" "years" "I", Cond.fieldLink RX3 71 "PeatBanks$Moss" "rowsHome" "I", Cond.static yX5_copyNumbers, Cond.initialized RX5, Cond.code yX5_copyNumbers cX5_copyNumbers 2 none, Cond.methodLink RX5 240 Lib.Math.min.name, Cond.static Lib.Math.min.name, Cond.initialized "java/lang/Math", Cond.code Lib.Math.min.name Lib.Math.min.code 2 (some .int), Cond.methodLink RX5 245 arraycopyName, Cond.native arraycopyName, Cond.static arraycopyName, Cond.initialized "java/lang/System", Cond.methodLink RX3 52 yX4_copyFrom, Cond.instanceMethod yX4_copyFrom, Cond.selects RX4 yX4_copyFrom yX4_copyFrom, Cond.initialized RX4, Cond.code yX4_copyFrom cX4_copyFrom 2 none]
def wsX5_undo_r3 : List Cond := [Cond.fieldLink RX4 9 "PeatBanks$Rows" "owner" "[I", Cond.fieldLink RX4 15 "PeatBanks$Rows" "plot" "[I", Cond.fieldLink RX4 18 "PeatBanks$Rows" "wetness" "[I", Cond.fieldLink RX4 21 "PeatBanks$Rows" "turned" "[Z", Cond.fieldLink RX4 25 "PeatBanks$Rows" "stacked" "[Z", Cond.fieldLink RX4 28 "PeatBanks$Rows" "lying" "[Z", Cond.fieldLink RX4 39 "PeatBanks$Rows" "soFar" "I", Cond.static yX5_copyFlags, Cond.code yX5_copyFlags cX5_copyFlags 2 none, Cond.methodLink RX3 56 yX1_copyFrom, Cond.instanceMethod yX1_copyFrom, Cond.selects RX1 yX1_copyFrom yX1_copyFrom, Cond.initialized RX1, Cond.code yX1_copyFrom cX1_copyFrom 2 none, Cond.fieldLink RX1 9 "PeatBanks$Disputes" "cutter" "[I", Cond.fieldLink RX1 15 "PeatBanks$Disputes" "wronged" "[I", Cond.fieldLink RX1 18 "PeatBanks$Disputes" "row" "[I", Cond.fieldLink RX1 21 "PeatBanks$Disputes" "plot" "[I", Cond.fieldLink RX1 28 "PeatBanks$Disputes" "settled" "I", Cond.fieldLink RX1 32 "PeatBanks$Disputes" "soFar" "I"]
def wsX5_undo : List Cond := .code yX5_undo cX5_undo 1 (some .int) :: ((wsX5_undo_r1 ++ (wsX5_undo_r2 ++ wsX5_undo_r3)) ++ wsX50 ++ wsX20 ++ wsX30 ++ wsX40 ++ wsX10)
def wsX5_keep_r1 : List Cond := [Cond.fieldLink RX5 16 "PeatBanks" "kept" "LPeatBanks$Moss;", Cond.fieldLink RX5 12 "PeatBanks" "now" "LPeatBanks$Moss;", Cond.fieldLink RX5 36 "PeatBanks" "hasKept" "Z", Cond.fieldLink RX5 80 "PeatBanks$Moss" "rows" "LPeatBanks$Rows;", Cond.methodLink RX5 163 yX3_copyFrom, Cond.instanceMethod yX3_copyFrom, Cond.selects RX3 yX3_copyFrom yX3_copyFrom, Cond.initialized RX3, Cond.code yX3_copyFrom cX3_copyFrom 2 none, Cond.fieldLink RX3 9 "PeatBanks$Moss" "layers" "[I", Cond.fieldLink RX3 15 "PeatBanks$Moss" "owners" "[I", Cond.fieldLink RX3 18 "PeatBanks$Moss" "rights" "[I", Cond.fieldLink RX3 21 "PeatBanks$Moss" "days" "[I", Cond.fieldLink RX3 24 "PeatBanks$Moss" "used" "[I", Cond.fieldLink RX3 27 "PeatBanks$Moss" "hearths" "[I", Cond.fieldLink RX3 33 "PeatBanks$Moss" "rows" "LPeatBanks$Rows;", Cond.fieldLink RX3 40 "PeatBanks$Moss" "disputes" "LPeatBanks$Disputes;", Cond.fieldLink RX3 44 "PeatBanks$Moss" "cartRows" "I", Cond.fieldLink RX3 59 "PeatBanks$Moss" "stakes" "I", Cond.fieldLink RX3 62 "PeatBanks$Moss" "rota" "I", Cond.fieldLink RX3 65 "PeatBanks$Moss" "dayOfYear" "I", Cond.fieldLink RX3 68 "PeatBanks$Moss" "years" "I", Cond.fieldLink RX3 71 "PeatBanks$Moss" "rowsHome" "I", Cond.static yX5_copyNumbers]
def wsX5_keep_r2 : List Cond := [Cond.initialized RX5, Cond.code yX5_copyNumbers cX5_copyNumbers 2 none, Cond.methodLink RX5 240 Lib.Math.min.name, Cond.static Lib.Math.min.name, Cond.initialized "java/lang/Math", Cond.code Lib.Math.min.name Lib.Math.min.code 2 (some .int), Cond.methodLink RX5 245 arraycopyName, Cond.native arraycopyName, Cond.static arraycopyName, Cond.initialized "java/lang/System", Cond.methodLink RX3 52 yX4_copyFrom, Cond.instanceMethod yX4_copyFrom, Cond.selects RX4 yX4_copyFrom yX4_copyFrom, Cond.initialized RX4, Cond.code yX4_copyFrom cX4_copyFrom 2 none, Cond.fieldLink RX4 9 "PeatBanks$Rows" "owner" "[I", Cond.fieldLink RX4 15 "PeatBanks$Rows" "plot" "[I", Cond.fieldLink RX4 18 "PeatBanks$Rows" "wetness" "[I", Cond.fieldLink RX4 21 "PeatBanks$Rows" "turned" "[Z", Cond.fieldLink RX4 25 "PeatBanks$Rows" "stacked" "[Z", Cond.fieldLink RX4 28 "PeatBanks$Rows" "lying" "[Z", Cond.fieldLink RX4 39 "PeatBanks$Rows" "soFar" "I", Cond.static yX5_copyFlags, Cond.code yX5_copyFlags cX5_copyFlags 2 none]
def wsX5_keep_r3 : List Cond := [Cond.methodLink RX3 56 yX1_copyFrom, Cond.instanceMethod yX1_copyFrom, Cond.selects RX1 yX1_copyFrom yX1_copyFrom, Cond.initialized RX1, Cond.code yX1_copyFrom cX1_copyFrom 2 none, Cond.fieldLink RX1 9 "PeatBanks$Disputes" "cutter" "[I", Cond.fieldLink RX1 15 "PeatBanks$Disputes" "wronged" "[I", Cond.fieldLink RX1 18 "PeatBanks$Disputes" "row" "[I", Cond.fieldLink RX1 21 "PeatBanks$Disputes" "plot" "[I", Cond.fieldLink RX1 28 "PeatBanks$Disputes" "settled" "I", Cond.fieldLink RX1 32 "PeatBanks$Disputes" "soFar" "I", Cond.methodLink RX5 166 yX4_countLying, Cond.instanceMethod yX4_countLying, Cond.selects RX4 yX4_countLying yX4_countLying, Cond.code yX4_countLying cX4_countLying 3 (some .int), Cond.static yX5_oneIf, Cond.code yX5_oneIf cX5_oneIf 1 (some .int)]
def wsX5_keep : List Cond := .code yX5_keep cX5_keep 1 (some .int) :: ((wsX5_keep_r1 ++ (wsX5_keep_r2 ++ wsX5_keep_r3)) ++ wsX50 ++ wsX30 ++ wsX40 ++ wsX10)
def wsX5_restore_r1 : List Cond := [Cond.fieldLink RX5 36 "PeatBanks" "hasKept" "Z", Cond.fieldLink RX5 25 "PeatBanks" "history" "LPeatBanks$History;", Cond.fieldLink RX5 12 "PeatBanks" "now" "LPeatBanks$Moss;", Cond.fieldLink RX5 16 "PeatBanks" "kept" "LPeatBanks$Moss;", Cond.fieldLink RX5 80 "PeatBanks$Moss" "rows" "LPeatBanks$Rows;", Cond.methodLink RX5 51 yX2_record, Cond.instanceMethod yX2_record, Cond.selects RX2 yX2_record yX2_record, Cond.initialized RX2, Cond.code yX2_record cX2_record 3 none, Cond.fieldLink RX2 24 "PeatBanks$History" "oldest" "LPeatBanks$Moss;", Cond.fieldLink RX2 21 "PeatBanks$History" "third" "LPeatBanks$Moss;", Cond.fieldLink RX2 18 "PeatBanks$History" "second" "LPeatBanks$Moss;", Cond.fieldLink RX2 12 "PeatBanks$History" "latest" "LPeatBanks$Moss;", Cond.fieldLink RX2 31 "PeatBanks$History" "states" "I", Cond.methodLink RX2 35 Lib.Math.min.name, Cond.static Lib.Math.min.name, Cond.initialized "java/lang/Math", Cond.code Lib.Math.min.name Lib.Math.min.code 2 (some .int), Cond.methodLink RX2 27 yX3_copyFrom, Cond.instanceMethod yX3_copyFrom, Cond.selects RX3 yX3_copyFrom yX3_copyFrom, Cond.initialized RX3, Cond.code yX3_copyFrom cX3_copyFrom 2 none]
def wsX5_restore_r2 : List Cond := [Cond.fieldLink RX3 9 "PeatBanks$Moss" "layers" "[I", Cond.fieldLink RX3 15 "PeatBanks$Moss" "owners" "[I", Cond.fieldLink RX3 18 "PeatBanks$Moss" "rights" "[I", Cond.fieldLink RX3 21 "PeatBanks$Moss" "days" "[I", Cond.fieldLink RX3 24 "PeatBanks$Moss" "used" "[I", Cond.fieldLink RX3 27 "PeatBanks$Moss" "hearths" "[I", Cond.fieldLink RX3 33 "PeatBanks$Moss" "rows" "LPeatBanks$Rows;", Cond.fieldLink RX3 40 "PeatBanks$Moss" "disputes" "LPeatBanks$Disputes;", Cond.fieldLink RX3 44 "PeatBanks$Moss" "cartRows" "I", Cond.fieldLink RX3 59 "PeatBanks$Moss" "stakes" "I", Cond.fieldLink RX3 62 "PeatBanks$Moss" "rota" "I", Cond.fieldLink RX3 65 "PeatBanks$Moss" "dayOfYear" "I", Cond.fieldLink RX3 68 "PeatBanks$Moss" "years" "I", Cond.fieldLink RX3 71 "PeatBanks$Moss" "rowsHome" "I", Cond.static yX5_copyNumbers, Cond.initialized RX5, Cond.code yX5_copyNumbers cX5_copyNumbers 2 none, Cond.methodLink RX5 240 Lib.Math.min.name, Cond.methodLink RX5 245 arraycopyName, Cond.native arraycopyName, Cond.static arraycopyName, Cond.initialized "java/lang/System", Cond.methodLink RX3 52 yX4_copyFrom, Cond.instanceMethod yX4_copyFrom]
def wsX5_restore_r3 : List Cond := [Cond.selects RX4 yX4_copyFrom yX4_copyFrom, Cond.initialized RX4, Cond.code yX4_copyFrom cX4_copyFrom 2 none, Cond.fieldLink RX4 9 "PeatBanks$Rows" "owner" "[I", Cond.fieldLink RX4 15 "PeatBanks$Rows" "plot" "[I", Cond.fieldLink RX4 18 "PeatBanks$Rows" "wetness" "[I", Cond.fieldLink RX4 21 "PeatBanks$Rows" "turned" "[Z", Cond.fieldLink RX4 25 "PeatBanks$Rows" "stacked" "[Z", Cond.fieldLink RX4 28 "PeatBanks$Rows" "lying" "[Z", Cond.fieldLink RX4 39 "PeatBanks$Rows" "soFar" "I", Cond.static yX5_copyFlags, Cond.code yX5_copyFlags cX5_copyFlags 2 none, Cond.methodLink RX3 56 yX1_copyFrom, Cond.instanceMethod yX1_copyFrom, Cond.selects RX1 yX1_copyFrom yX1_copyFrom, Cond.initialized RX1, Cond.code yX1_copyFrom cX1_copyFrom 2 none, Cond.fieldLink RX1 9 "PeatBanks$Disputes" "cutter" "[I", Cond.fieldLink RX1 15 "PeatBanks$Disputes" "wronged" "[I", Cond.fieldLink RX1 18 "PeatBanks$Disputes" "row" "[I", Cond.fieldLink RX1 21 "PeatBanks$Disputes" "plot" "[I", Cond.fieldLink RX1 28 "PeatBanks$Disputes" "settled" "I", Cond.fieldLink RX1 32 "PeatBanks$Disputes" "soFar" "I", Cond.methodLink RX5 163 yX3_copyFrom]
def wsX5_restore_r4 : List Cond := [Cond.methodLink RX5 166 yX4_countLying, Cond.instanceMethod yX4_countLying, Cond.selects RX4 yX4_countLying yX4_countLying, Cond.code yX4_countLying cX4_countLying 3 (some .int), Cond.static yX5_oneIf, Cond.code yX5_oneIf cX5_oneIf 1 (some .int)]
def wsX5_restore : List Cond := .code yX5_restore cX5_restore 1 (some .int) :: ((wsX5_restore_r1 ++ (wsX5_restore_r2 ++ (wsX5_restore_r3 ++ wsX5_restore_r4))) ++ wsX50 ++ wsX30 ++ wsX20 ++ wsX40 ++ wsX10)
def wsX5_countEqual : List Cond := .code yX5_countEqual cX5_countEqual 7 (some .int) :: ([.methodLink RX5 188 yX5_oneIf, .static yX5_oneIf, .initialized RX5, .code yX5_oneIf cX5_oneIf 1 (some .int)])
def wsX5_commoner_r1 : List Cond := [Cond.fieldLink RX5 12 "PeatBanks" "now" "LPeatBanks$Moss;", Cond.fieldLink RX5 62 "PeatBanks$Moss" "days" "[I", Cond.fieldLink RX5 169 "PeatBanks$Moss" "used" "[I", Cond.fieldLink RX5 172 "PeatBanks$Moss" "hearths" "[I", Cond.fieldLink RX5 80 "PeatBanks$Moss" "rows" "LPeatBanks$Rows;", Cond.fieldLink RX5 55 "PeatBanks$Moss" "owners" "[I", Cond.fieldLink RX5 47 "PeatBanks$Moss" "rights" "[I", Cond.fieldLink RX5 135 "PeatBanks$Moss" "disputes" "LPeatBanks$Disputes;", Cond.methodLink RX5 44 yX5_isCommoner, Cond.static yX5_isCommoner, Cond.initialized RX5, Cond.code yX5_isCommoner cX5_isCommoner 1 (some .boolean), Cond.methodLink RX5 58 yX5_isWithin, Cond.static yX5_isWithin, Cond.code yX5_isWithin cX5_isWithin 3 (some .boolean), Cond.methodLink RX5 175 yX4_countLyingOf, Cond.instanceMethod yX4_countLyingOf, Cond.selects RX4 yX4_countLyingOf yX4_countLyingOf, Cond.initialized RX4, Cond.code yX4_countLyingOf cX4_countLyingOf 4 (some .int), Cond.fieldLink RX4 39 "PeatBanks$Rows" "soFar" "I", Cond.methodLink RX4 71 yX4_isLyingOf, Cond.instanceMethod yX4_isLyingOf, Cond.selects RX4 yX4_isLyingOf yX4_isLyingOf]
def wsX5_commoner_r2 : List Cond := [Cond.code yX4_isLyingOf cX4_isLyingOf 3 (some .boolean), Cond.fieldLink RX4 9 "PeatBanks$Rows" "owner" "[I", Cond.methodLink RX4 51 yX4_isLying, Cond.instanceMethod yX4_isLying, Cond.selects RX4 yX4_isLying yX4_isLying, Cond.code yX4_isLying cX4_isLying 2 (some .boolean), Cond.fieldLink RX4 28 "PeatBanks$Rows" "lying" "[Z", Cond.static yX5_oneIf, Cond.code yX5_oneIf cX5_oneIf 1 (some .int), Cond.methodLink RX5 112 yX4_countStackedOf, Cond.instanceMethod yX4_countStackedOf, Cond.selects RX4 yX4_countStackedOf yX4_countStackedOf, Cond.code yX4_countStackedOf cX4_countStackedOf 4 (some .int), Cond.methodLink RX4 65 yX4_isStacked, Cond.instanceMethod yX4_isStacked, Cond.selects RX4 yX4_isStacked yX4_isStacked, Cond.code yX4_isStacked cX4_isStacked 2 (some .boolean), Cond.fieldLink RX4 25 "PeatBanks$Rows" "stacked" "[Z", Cond.methodLink RX5 178 yX5_countEqual, Cond.static yX5_countEqual, Cond.code yX5_countEqual cX5_countEqual 7 (some .int), Cond.methodLink RX5 188 yX5_oneIf, Cond.methodLink RX5 182 yX1_countOpenWith, Cond.instanceMethod yX1_countOpenWith]
def wsX5_commoner_r3 : List Cond := [Cond.selects RX1 yX1_countOpenWith yX1_countOpenWith, Cond.initialized RX1, Cond.code yX1_countOpenWith cX1_countOpenWith 4 (some .int), Cond.fieldLink RX1 28 "PeatBanks$Disputes" "settled" "I", Cond.fieldLink RX1 32 "PeatBanks$Disputes" "soFar" "I", Cond.fieldLink RX1 9 "PeatBanks$Disputes" "cutter" "[I", Cond.fieldLink RX1 15 "PeatBanks$Disputes" "wronged" "[I"]
def wsX5_commoner : List Cond := .code yX5_commoner cX5_commoner 3 (some .int) :: ((wsX5_commoner_r1 ++ (wsX5_commoner_r2 ++ wsX5_commoner_r3)) ++ wsX50 ++ wsX30 ++ wsX40 ++ wsX10)
def wsX5_plot : List Cond := .code yX5_plot cX5_plot 3 (some .int) :: ([.fieldLink RX5 12 "PeatBanks" "now" "LPeatBanks$Moss;", .fieldLink RX5 185 "PeatBanks$Moss" "layers" "[I", .fieldLink RX5 55 "PeatBanks$Moss" "owners" "[I", .fieldLink RX5 47 "PeatBanks$Moss" "rights" "[I", .methodLink RX5 40 yX5_isPlot, .static yX5_isPlot, .initialized RX5, .code yX5_isPlot cX5_isPlot 1 (some .boolean), .methodLink RX5 58 yX5_isWithin, .static yX5_isWithin, .code yX5_isWithin cX5_isWithin 3 (some .boolean), .methodLink RX5 188 yX5_oneIf, .static yX5_oneIf, .code yX5_oneIf cX5_oneIf 1 (some .int)] ++ wsX50 ++ wsX30)
def wsX5_row_r1 : List Cond := [Cond.fieldLink RX5 12 "PeatBanks" "now" "LPeatBanks$Moss;", Cond.fieldLink RX5 80 "PeatBanks$Moss" "rows" "LPeatBanks$Rows;", Cond.fieldLink RX5 109 "PeatBanks$Rows" "owner" "[I", Cond.fieldLink RX5 192 "PeatBanks$Rows" "plot" "[I", Cond.fieldLink RX5 103 "PeatBanks$Rows" "wetness" "[I", Cond.fieldLink RX5 100 "PeatBanks$Rows" "turned" "[Z", Cond.fieldLink RX5 96 "PeatBanks$Rows" "stacked" "[Z", Cond.methodLink RX5 93 yX4_isLying, Cond.instanceMethod yX4_isLying, Cond.selects RX4 yX4_isLying yX4_isLying, Cond.initialized RX4, Cond.code yX4_isLying cX4_isLying 2 (some .boolean), Cond.fieldLink RX4 39 "PeatBanks$Rows" "soFar" "I", Cond.fieldLink RX4 28 "PeatBanks$Rows" "lying" "[Z", Cond.static yX5_isWithin, Cond.initialized RX5, Cond.code yX5_isWithin cX5_isWithin 3 (some .boolean), Cond.methodLink RX5 188 yX5_oneIf, Cond.static yX5_oneIf, Cond.code yX5_oneIf cX5_oneIf 1 (some .int), Cond.methodLink RX5 106 yX4_isDry, Cond.instanceMethod yX4_isDry, Cond.selects RX4 yX4_isDry yX4_isDry, Cond.code yX4_isDry cX4_isDry 2 (some .boolean)]
def wsX5_row_r2 : List Cond := [Cond.fieldLink RX4 18 "PeatBanks$Rows" "wetness" "[I", Cond.methodLink RX4 51 yX4_isLying, Cond.methodLink RX5 195 yX4_peatsAtHearth, Cond.instanceMethod yX4_peatsAtHearth, Cond.selects RX4 yX4_peatsAtHearth yX4_peatsAtHearth, Cond.code yX4_peatsAtHearth cX4_peatsAtHearth 2 (some .int), Cond.methodLink RX4 55 Lib.Math.max.name, Cond.static Lib.Math.max.name, Cond.initialized "java/lang/Math", Cond.code Lib.Math.max.name Lib.Math.max.code 2 (some .int)]
def wsX5_row : List Cond := .code yX5_row cX5_row 3 (some .int) :: ((wsX5_row_r1 ++ wsX5_row_r2) ++ wsX50 ++ wsX30 ++ wsX40)
def wsX5_driest_r1 : List Cond := [Cond.fieldLink RX5 12 "PeatBanks" "now" "LPeatBanks$Moss;", Cond.fieldLink RX5 80 "PeatBanks$Moss" "rows" "LPeatBanks$Rows;", Cond.methodLink RX5 44 yX5_isCommoner, Cond.static yX5_isCommoner, Cond.initialized RX5, Cond.code yX5_isCommoner cX5_isCommoner 1 (some .boolean), Cond.methodLink RX5 58 yX5_isWithin, Cond.static yX5_isWithin, Cond.code yX5_isWithin cX5_isWithin 3 (some .boolean), Cond.methodLink RX5 198 yX4_driestOf, Cond.instanceMethod yX4_driestOf, Cond.selects RX4 yX4_driestOf yX4_driestOf, Cond.initialized RX4, Cond.code yX4_driestOf cX4_driestOf 4 (some .int), Cond.fieldLink RX4 39 "PeatBanks$Rows" "soFar" "I", Cond.methodLink RX4 71 yX4_isLyingOf, Cond.instanceMethod yX4_isLyingOf, Cond.selects RX4 yX4_isLyingOf yX4_isLyingOf, Cond.code yX4_isLyingOf cX4_isLyingOf 3 (some .boolean), Cond.fieldLink RX4 9 "PeatBanks$Rows" "owner" "[I", Cond.methodLink RX4 51 yX4_isLying, Cond.instanceMethod yX4_isLying, Cond.selects RX4 yX4_isLying yX4_isLying, Cond.code yX4_isLying cX4_isLying 2 (some .boolean)]
def wsX5_driest_r2 : List Cond := [Cond.fieldLink RX4 28 "PeatBanks$Rows" "lying" "[Z", Cond.methodLink RX4 75 yX4_countDrierThan, Cond.instanceMethod yX4_countDrierThan, Cond.selects RX4 yX4_countDrierThan yX4_countDrierThan, Cond.code yX4_countDrierThan cX4_countDrierThan 5 (some .int), Cond.methodLink RX4 78 yX4_comesBefore, Cond.instanceMethod yX4_comesBefore, Cond.selects RX4 yX4_comesBefore yX4_comesBefore, Cond.code yX4_comesBefore cX4_comesBefore 3 (some .boolean), Cond.fieldLink RX4 18 "PeatBanks$Rows" "wetness" "[I", Cond.static yX5_oneIf, Cond.code yX5_oneIf cX5_oneIf 1 (some .int)]
def wsX5_driest : List Cond := .code yX5_driest cX5_driest 3 (some .int) :: ((wsX5_driest_r1 ++ wsX5_driest_r2) ++ wsX50 ++ wsX30 ++ wsX40)
def wsX5_why_r1 : List Cond := [Cond.fieldLink RX5 12 "PeatBanks" "now" "LPeatBanks$Moss;", Cond.methodLink RX5 44 yX5_isCommoner, Cond.static yX5_isCommoner, Cond.initialized RX5, Cond.code yX5_isCommoner cX5_isCommoner 1 (some .boolean), Cond.methodLink RX5 58 yX5_isWithin, Cond.static yX5_isWithin, Cond.code yX5_isWithin cX5_isWithin 3 (some .boolean), Cond.methodLink RX5 40 yX5_isPlot, Cond.static yX5_isPlot, Cond.code yX5_isPlot cX5_isPlot 1 (some .boolean), Cond.methodLink RX5 76 yX3_reasonAgainst, Cond.instanceMethod yX3_reasonAgainst, Cond.selects RX3 yX3_reasonAgainst yX3_reasonAgainst, Cond.initialized RX3, Cond.code yX3_reasonAgainst cX3_reasonAgainst 4 (some .int), Cond.fieldLink RX3 9 "PeatBanks$Moss" "layers" "[I", Cond.fieldLink RX3 33 "PeatBanks$Moss" "rows" "LPeatBanks$Rows;", Cond.methodLink RX3 74 yX3_hasDayLeft, Cond.instanceMethod yX3_hasDayLeft, Cond.selects RX3 yX3_hasDayLeft yX3_hasDayLeft, Cond.code yX3_hasDayLeft cX3_hasDayLeft 2 (some .boolean), Cond.fieldLink RX3 24 "PeatBanks$Moss" "used" "[I", Cond.fieldLink RX3 21 "PeatBanks$Moss" "days" "[I"]
def wsX5_why_r2 : List Cond := [Cond.methodLink RX3 81 yX4_countLying, Cond.instanceMethod yX4_countLying, Cond.selects RX4 yX4_countLying yX4_countLying, Cond.initialized RX4, Cond.code yX4_countLying cX4_countLying 3 (some .int), Cond.fieldLink RX4 39 "PeatBanks$Rows" "soFar" "I", Cond.fieldLink RX4 28 "PeatBanks$Rows" "lying" "[Z", Cond.static yX5_oneIf, Cond.code yX5_oneIf cX5_oneIf 1 (some .int), Cond.methodLink RX3 85 yX3_hasRight, Cond.instanceMethod yX3_hasRight, Cond.selects RX3 yX3_hasRight yX3_hasRight, Cond.code yX3_hasRight cX3_hasRight 3 (some .boolean), Cond.fieldLink RX3 18 "PeatBanks$Moss" "rights" "[I"]
def wsX5_why : List Cond := .code yX5_why cX5_why 3 (some .int) :: ((wsX5_why_r1 ++ wsX5_why_r2) ++ wsX50 ++ wsX30 ++ wsX40)
def wsX5_dispute : List Cond := .code yX5_dispute cX5_dispute 4 (some .int) :: ([.fieldLink RX5 12 "PeatBanks" "now" "LPeatBanks$Moss;", .fieldLink RX5 135 "PeatBanks$Moss" "disputes" "LPeatBanks$Disputes;", .fieldLink RX5 201 "PeatBanks$Disputes" "settled" "I", .fieldLink RX5 204 "PeatBanks$Disputes" "cutter" "[I", .fieldLink RX5 207 "PeatBanks$Disputes" "wronged" "[I", .fieldLink RX5 210 "PeatBanks$Disputes" "row" "[I", .fieldLink RX5 213 "PeatBanks$Disputes" "plot" "[I", .methodLink RX5 58 yX5_isWithin, .static yX5_isWithin, .initialized RX5, .code yX5_isWithin cX5_isWithin 3 (some .boolean), .methodLink RX5 139 yX1_countOpen, .instanceMethod yX1_countOpen, .selects RX1 yX1_countOpen yX1_countOpen, .initialized RX1, .code yX1_countOpen cX1_countOpen 1 (some .int), .fieldLink RX1 32 "PeatBanks$Disputes" "soFar" "I", .fieldLink RX1 28 "PeatBanks$Disputes" "settled" "I"] ++ wsX50 ++ wsX30 ++ wsX10)
def wsX5_cart : List Cond := .code yX5_cart cX5_cart 2 (some .int) :: ([.fieldLink RX5 12 "PeatBanks" "now" "LPeatBanks$Moss;", .methodLink RX5 58 yX5_isWithin, .static yX5_isWithin, .initialized RX5, .code yX5_isWithin cX5_isWithin 3 (some .boolean), .methodLink RX5 214 yX3_commonerOfCart, .instanceMethod yX3_commonerOfCart, .selects RX3 yX3_commonerOfCart yX3_commonerOfCart, .initialized RX3, .code yX3_commonerOfCart cX3_commonerOfCart 2 (some .int), .fieldLink RX3 62 "PeatBanks$Moss" "rota" "I"] ++ wsX50 ++ wsX30)
def wsX5_would_r1 : List Cond := [Cond.fieldLink RX5 19 "PeatBanks" "trial" "LPeatBanks$Moss;", Cond.fieldLink RX5 12 "PeatBanks" "now" "LPeatBanks$Moss;", Cond.methodLink RX5 58 yX5_isWithin, Cond.static yX5_isWithin, Cond.initialized RX5, Cond.code yX5_isWithin cX5_isWithin 3 (some .boolean), Cond.methodLink RX5 116 yX5_isWeather, Cond.static yX5_isWeather, Cond.code yX5_isWeather cX5_isWeather 1 (some .boolean), Cond.methodLink RX5 163 yX3_copyFrom, Cond.instanceMethod yX3_copyFrom, Cond.selects RX3 yX3_copyFrom yX3_copyFrom, Cond.initialized RX3, Cond.code yX3_copyFrom cX3_copyFrom 2 none, Cond.fieldLink RX3 9 "PeatBanks$Moss" "layers" "[I", Cond.fieldLink RX3 15 "PeatBanks$Moss" "owners" "[I", Cond.fieldLink RX3 18 "PeatBanks$Moss" "rights" "[I", Cond.fieldLink RX3 21 "PeatBanks$Moss" "days" "[I", Cond.fieldLink RX3 24 "PeatBanks$Moss" "used" "[I", Cond.fieldLink RX3 27 "PeatBanks$Moss" "hearths" "[I", Cond.fieldLink RX3 33 "PeatBanks$Moss" "rows" "LPeatBanks$Rows;", Cond.fieldLink RX3 40 "PeatBanks$Moss" "disputes" "LPeatBanks$Disputes;", Cond.fieldLink RX3 44 "PeatBanks$Moss" "cartRows" "I", Cond.fieldLink RX3 59 "PeatBanks$Moss" "stakes" "I"]
def wsX5_would_r2 : List Cond := [Cond.fieldLink RX3 62 "PeatBanks$Moss" "rota" "I", Cond.fieldLink RX3 65 "PeatBanks$Moss" "dayOfYear" "I", Cond.fieldLink RX3 68 "PeatBanks$Moss" "years" "I", Cond.fieldLink RX3 71 "PeatBanks$Moss" "rowsHome" "I", Cond.static yX5_copyNumbers, Cond.code yX5_copyNumbers cX5_copyNumbers 2 none, Cond.methodLink RX5 240 Lib.Math.min.name, Cond.static Lib.Math.min.name, Cond.initialized "java/lang/Math", Cond.code Lib.Math.min.name Lib.Math.min.code 2 (some .int), Cond.methodLink RX5 245 arraycopyName, Cond.native arraycopyName, Cond.static arraycopyName, Cond.initialized "java/lang/System", Cond.methodLink RX3 52 yX4_copyFrom, Cond.instanceMethod yX4_copyFrom, Cond.selects RX4 yX4_copyFrom yX4_copyFrom, Cond.initialized RX4, Cond.code yX4_copyFrom cX4_copyFrom 2 none, Cond.fieldLink RX4 9 "PeatBanks$Rows" "owner" "[I", Cond.fieldLink RX4 15 "PeatBanks$Rows" "plot" "[I", Cond.fieldLink RX4 18 "PeatBanks$Rows" "wetness" "[I", Cond.fieldLink RX4 21 "PeatBanks$Rows" "turned" "[Z", Cond.fieldLink RX4 25 "PeatBanks$Rows" "stacked" "[Z"]
def wsX5_would_r3 : List Cond := [Cond.fieldLink RX4 28 "PeatBanks$Rows" "lying" "[Z", Cond.fieldLink RX4 39 "PeatBanks$Rows" "soFar" "I", Cond.static yX5_copyFlags, Cond.code yX5_copyFlags cX5_copyFlags 2 none, Cond.methodLink RX3 56 yX1_copyFrom, Cond.instanceMethod yX1_copyFrom, Cond.selects RX1 yX1_copyFrom yX1_copyFrom, Cond.initialized RX1, Cond.code yX1_copyFrom cX1_copyFrom 2 none, Cond.fieldLink RX1 9 "PeatBanks$Disputes" "cutter" "[I", Cond.fieldLink RX1 15 "PeatBanks$Disputes" "wronged" "[I", Cond.fieldLink RX1 18 "PeatBanks$Disputes" "row" "[I", Cond.fieldLink RX1 21 "PeatBanks$Disputes" "plot" "[I", Cond.fieldLink RX1 28 "PeatBanks$Disputes" "settled" "I", Cond.fieldLink RX1 32 "PeatBanks$Disputes" "soFar" "I", Cond.methodLink RX5 119 yX3_passDays, Cond.instanceMethod yX3_passDays, Cond.selects RX3 yX3_passDays yX3_passDays, Cond.code yX3_passDays cX3_passDays 6 (some .int), Cond.methodLink RX3 100 yX4_dryOrWet, Cond.instanceMethod yX4_dryOrWet, Cond.selects RX4 yX4_dryOrWet yX4_dryOrWet, Cond.code yX4_dryOrWet cX4_dryOrWet 4 none, Cond.methodLink RX4 85 Lib.Math.min.name]
def wsX5_would_r4 : List Cond := [Cond.methodLink RX4 55 Lib.Math.max.name, Cond.static Lib.Math.max.name, Cond.code Lib.Math.max.name Lib.Math.max.code 2 (some .int), Cond.methodLink RX4 81 yX4_changeBy, Cond.static yX4_changeBy, Cond.code yX4_changeBy cX4_changeBy 2 (some .int), Cond.methodLink RX3 104 yX3_commonerOfCart, Cond.instanceMethod yX3_commonerOfCart, Cond.selects RX3 yX3_commonerOfCart yX3_commonerOfCart, Cond.code yX3_commonerOfCart cX3_commonerOfCart 2 (some .int), Cond.methodLink RX3 108 yX3_serve, Cond.instanceMethod yX3_serve, Cond.selects RX3 yX3_serve yX3_serve, Cond.code yX3_serve cX3_serve 4 none, Cond.fieldLink RX3 120 "PeatBanks$Rows" "lying" "[Z", Cond.methodLink RX3 111 yX4_driestStackedOf, Cond.instanceMethod yX4_driestStackedOf, Cond.selects RX4 yX4_driestStackedOf yX4_driestStackedOf, Cond.code yX4_driestStackedOf cX4_driestStackedOf 4 (some .int), Cond.static yX5_isCommoner, Cond.code yX5_isCommoner cX5_isCommoner 1 (some .boolean), Cond.methodLink RX3 114 yX4_isLying, Cond.instanceMethod yX4_isLying, Cond.selects RX4 yX4_isLying yX4_isLying]
def wsX5_would_r5 : List Cond := [Cond.code yX4_isLying cX4_isLying 2 (some .boolean), Cond.methodLink RX3 117 yX4_peatsAtHearth, Cond.instanceMethod yX4_peatsAtHearth, Cond.selects RX4 yX4_peatsAtHearth yX4_peatsAtHearth, Cond.code yX4_peatsAtHearth cX4_peatsAtHearth 2 (some .int), Cond.methodLink RX4 51 yX4_isLying]
def wsX5_would : List Cond := .code yX5_would cX5_would 3 (some .int) :: ((wsX5_would_r1 ++ (wsX5_would_r2 ++ (wsX5_would_r3 ++ (wsX5_would_r4 ++ wsX5_would_r5)))) ++ wsX50 ++ wsX30 ++ wsX40 ++ wsX10)
def wsX5_sumOf : List Cond := .code yX5_sumOf cX5_sumOf 6 (some .int) :: ([])
def wsX5_count_r1 : List Cond := [Cond.fieldLink RX5 12 "PeatBanks" "now" "LPeatBanks$Moss;", Cond.fieldLink RX5 217 "PeatBanks$Moss" "dayOfYear" "I", Cond.fieldLink RX5 220 "PeatBanks$Moss" "years" "I", Cond.fieldLink RX5 80 "PeatBanks$Moss" "rows" "LPeatBanks$Rows;", Cond.fieldLink RX5 223 "PeatBanks$Rows" "soFar" "I", Cond.fieldLink RX5 232 "PeatBanks$Moss" "rowsHome" "I", Cond.fieldLink RX5 172 "PeatBanks$Moss" "hearths" "[I", Cond.fieldLink RX5 185 "PeatBanks$Moss" "layers" "[I", Cond.fieldLink RX5 135 "PeatBanks$Moss" "disputes" "LPeatBanks$Disputes;", Cond.fieldLink RX5 239 "PeatBanks$Disputes" "soFar" "I", Cond.fieldLink RX5 69 "PeatBanks$Moss" "cartRows" "I", Cond.fieldLink RX5 73 "PeatBanks$Moss" "stakes" "I", Cond.fieldLink RX5 25 "PeatBanks" "history" "LPeatBanks$History;", Cond.fieldLink RX5 157 "PeatBanks$History" "states" "I", Cond.fieldLink RX5 32 "PeatBanks" "text" "LPeatBanks$DayText;", Cond.fieldLink RX5 154 "PeatBanks$DayText" "length" "I", Cond.methodLink RX5 166 yX4_countLying, Cond.instanceMethod yX4_countLying, Cond.selects RX4 yX4_countLying yX4_countLying, Cond.initialized RX4, Cond.code yX4_countLying cX4_countLying 3 (some .int), Cond.fieldLink RX4 39 "PeatBanks$Rows" "soFar" "I", Cond.fieldLink RX4 28 "PeatBanks$Rows" "lying" "[Z", Cond.static yX5_oneIf]
def wsX5_count_r2 : List Cond := [Cond.initialized RX5, Cond.code yX5_oneIf cX5_oneIf 1 (some .int), Cond.methodLink RX5 226 yX4_countStacked, Cond.instanceMethod yX4_countStacked, Cond.selects RX4 yX4_countStacked yX4_countStacked, Cond.code yX4_countStacked cX4_countStacked 3 (some .int), Cond.methodLink RX4 65 yX4_isStacked, Cond.instanceMethod yX4_isStacked, Cond.selects RX4 yX4_isStacked yX4_isStacked, Cond.code yX4_isStacked cX4_isStacked 2 (some .boolean), Cond.fieldLink RX4 25 "PeatBanks$Rows" "stacked" "[Z", Cond.methodLink RX4 51 yX4_isLying, Cond.instanceMethod yX4_isLying, Cond.selects RX4 yX4_isLying yX4_isLying, Cond.code yX4_isLying cX4_isLying 2 (some .boolean), Cond.static yX5_isWithin, Cond.code yX5_isWithin cX5_isWithin 3 (some .boolean), Cond.methodLink RX5 229 yX4_countDry, Cond.instanceMethod yX4_countDry, Cond.selects RX4 yX4_countDry yX4_countDry, Cond.code yX4_countDry cX4_countDry 3 (some .int), Cond.methodLink RX4 68 yX4_isDry, Cond.instanceMethod yX4_isDry, Cond.selects RX4 yX4_isDry yX4_isDry]
def wsX5_count_r3 : List Cond := [Cond.code yX4_isDry cX4_isDry 2 (some .boolean), Cond.fieldLink RX4 18 "PeatBanks$Rows" "wetness" "[I", Cond.methodLink RX5 235 yX5_sumOf, Cond.static yX5_sumOf, Cond.code yX5_sumOf cX5_sumOf 6 (some .int), Cond.methodLink RX5 139 yX1_countOpen, Cond.instanceMethod yX1_countOpen, Cond.selects RX1 yX1_countOpen yX1_countOpen, Cond.initialized RX1, Cond.code yX1_countOpen cX1_countOpen 1 (some .int), Cond.fieldLink RX1 32 "PeatBanks$Disputes" "soFar" "I", Cond.fieldLink RX1 28 "PeatBanks$Disputes" "settled" "I"]
def wsX5_count : List Cond := .code yX5_count cX5_count 2 (some .int) :: ((wsX5_count_r1 ++ (wsX5_count_r2 ++ wsX5_count_r3)) ++ wsX50 ++ wsX30 ++ wsX40 ++ wsX10 ++ wsX20 ++ wsX00)
def wsX6_init : List Cond := .code yX6_init cX6_init 2 none :: ([.methodLink RX6 1 objectInit, .instanceMethod objectInit, .code objectInit ⟨#[0xb1]⟩ 1 none, .arrayClass .int, .fieldLink RX6 7 "PeatBanksModel" "s" "[I", .fieldLink RX6 13 "PeatBanksModel" "aside" "[I", .fieldLink RX6 16 "PeatBanksModel" "saved" "[I", .fieldLink RX6 19 "PeatBanksModel" "snapshot" "[I", .fieldLink RX6 22 "PeatBanksModel" "text" "[I", .fieldLink RX6 25 "PeatBanksModel" "groups" "[I", .fieldLink RX6 28 "PeatBanksModel" "thrown" "I"] ++ wsX60)
def wsX6_in : List Cond := .code yX6_in cX6_in 3 (some .boolean) :: ([])
def wsX6_isCommoner : List Cond := .code yX6_isCommoner cX6_isCommoner 1 (some .boolean) :: ([.methodLink RX6 32 yX6_in, .static yX6_in, .initialized RX6, .code yX6_in cX6_in 3 (some .boolean)])
def wsX6_isPlot : List Cond := .code yX6_isPlot cX6_isPlot 1 (some .boolean) :: ([.methodLink RX6 32 yX6_in, .static yX6_in, .initialized RX6, .code yX6_in cX6_in 3 (some .boolean)])
def wsX6_ofCommoner : List Cond := .code yX6_ofCommoner cX6_ofCommoner 3 (some .int) :: ([.fieldLink RX6 7 "PeatBanksModel" "s" "[I"] ++ wsX60)
def wsX6_addCommoner : List Cond := .code yX6_addCommoner cX6_addCommoner 4 none :: ([.fieldLink RX6 7 "PeatBanksModel" "s" "[I"] ++ wsX60)
def wsX6_ofPlot : List Cond := .code yX6_ofPlot cX6_ofPlot 3 (some .int) :: ([.fieldLink RX6 7 "PeatBanksModel" "s" "[I"] ++ wsX60)
def wsX6_ofRow : List Cond := .code yX6_ofRow cX6_ofRow 3 (some .int) :: ([.fieldLink RX6 7 "PeatBanksModel" "s" "[I"] ++ wsX60)
def wsX6_layRow : List Cond := .code yX6_layRow cX6_layRow 4 none :: ([.fieldLink RX6 7 "PeatBanksModel" "s" "[I"] ++ wsX60)
def wsX6_ofDispute : List Cond := .code yX6_ofDispute cX6_ofDispute 3 (some .int) :: ([.fieldLink RX6 7 "PeatBanksModel" "s" "[I"] ++ wsX60)
def wsX6_placeOf : List Cond := .code yX6_placeOf cX6_placeOf 3 (some .int) :: ([.fieldLink RX6 7 "PeatBanksModel" "s" "[I", .methodLink RX6 36 yX6_ofRow, .instanceMethod yX6_ofRow, .selects RX6 yX6_ofRow yX6_ofRow, .initialized RX6, .code yX6_ofRow cX6_ofRow 3 (some .int)] ++ wsX60)
def wsX6_records : List Cond := .code yX6_records cX6_records 2 none :: ([.fieldLink RX6 40 "PeatBanksModel" "savedMany" "I", .fieldLink RX6 16 "PeatBanksModel" "saved" "[I", .fieldLink RX6 7 "PeatBanksModel" "s" "[I"] ++ wsX60)
def wsX6_drier : List Cond := .code yX6_drier cX6_drier 2 (some .int) :: ([])
def wsX6_weathers : List Cond := .code yX6_weathers cX6_weathers 4 none :: ([.fieldLink RX6 7 "PeatBanksModel" "s" "[I", .methodLink RX6 36 yX6_ofRow, .instanceMethod yX6_ofRow, .selects RX6 yX6_ofRow yX6_ofRow, .initialized RX6, .code yX6_ofRow cX6_ofRow 3 (some .int), .methodLink RX6 43 yX6_drier, .static yX6_drier, .code yX6_drier cX6_drier 2 (some .int), .methodLink RX6 46 yX6_layRow, .instanceMethod yX6_layRow, .selects RX6 yX6_layRow yX6_layRow, .code yX6_layRow cX6_layRow 4 none] ++ wsX60)
def wsX6_brings : List Cond := .code yX6_brings cX6_brings 3 (some .int) :: ([.methodLink RX6 36 yX6_ofRow, .instanceMethod yX6_ofRow, .selects RX6 yX6_ofRow yX6_ofRow, .initialized RX6, .code yX6_ofRow cX6_ofRow 3 (some .int), .fieldLink RX6 7 "PeatBanksModel" "s" "[I"] ++ wsX60)
def wsX6_leaves : List Cond := .code yX6_leaves cX6_leaves 3 none :: ([.fieldLink RX6 7 "PeatBanksModel" "s" "[I", .methodLink RX6 46 yX6_layRow, .instanceMethod yX6_layRow, .selects RX6 yX6_layRow yX6_layRow, .initialized RX6, .code yX6_layRow cX6_layRow 4 none] ++ wsX60)
def wsX6_nextFor : List Cond := .code yX6_nextFor cX6_nextFor 5 (some .int) :: ([.fieldLink RX6 7 "PeatBanksModel" "s" "[I", .methodLink RX6 36 yX6_ofRow, .instanceMethod yX6_ofRow, .selects RX6 yX6_ofRow yX6_ofRow, .initialized RX6, .code yX6_ofRow cX6_ofRow 3 (some .int)] ++ wsX60)
def wsX6_serves_r1 : List Cond := [Cond.fieldLink RX6 7 "PeatBanksModel" "s" "[I", Cond.methodLink RX6 50 yX6_nextFor, Cond.instanceMethod yX6_nextFor, Cond.selects RX6 yX6_nextFor yX6_nextFor, Cond.initialized RX6, Cond.code yX6_nextFor cX6_nextFor 5 (some .int), Cond.methodLink RX6 36 yX6_ofRow, Cond.instanceMethod yX6_ofRow, Cond.selects RX6 yX6_ofRow yX6_ofRow, Cond.code yX6_ofRow cX6_ofRow 3 (some .int), Cond.methodLink RX6 54 yX6_brings, Cond.instanceMethod yX6_brings, Cond.selects RX6 yX6_brings yX6_brings, Cond.code yX6_brings cX6_brings 3 (some .int), Cond.methodLink RX6 57 yX6_addCommoner, Cond.instanceMethod yX6_addCommoner, Cond.selects RX6 yX6_addCommoner yX6_addCommoner, Cond.code yX6_addCommoner cX6_addCommoner 4 none, Cond.methodLink RX6 60 yX6_leaves, Cond.instanceMethod yX6_leaves, Cond.selects RX6 yX6_leaves yX6_leaves, Cond.code yX6_leaves cX6_leaves 3 none, Cond.methodLink RX6 46 yX6_layRow, Cond.instanceMethod yX6_layRow]
def wsX6_serves_r2 : List Cond := [Cond.selects RX6 yX6_layRow yX6_layRow, Cond.code yX6_layRow cX6_layRow 4 none]
def wsX6_serves : List Cond := .code yX6_serves cX6_serves 5 (some .int) :: ((wsX6_serves_r1 ++ wsX6_serves_r2) ++ wsX60)
def wsX6_passes_r1 : List Cond := [Cond.fieldLink RX6 7 "PeatBanksModel" "s" "[I", Cond.methodLink RX6 64 yX6_weathers, Cond.instanceMethod yX6_weathers, Cond.selects RX6 yX6_weathers yX6_weathers, Cond.initialized RX6, Cond.code yX6_weathers cX6_weathers 4 none, Cond.methodLink RX6 36 yX6_ofRow, Cond.instanceMethod yX6_ofRow, Cond.selects RX6 yX6_ofRow yX6_ofRow, Cond.code yX6_ofRow cX6_ofRow 3 (some .int), Cond.methodLink RX6 43 yX6_drier, Cond.static yX6_drier, Cond.code yX6_drier cX6_drier 2 (some .int), Cond.methodLink RX6 46 yX6_layRow, Cond.instanceMethod yX6_layRow, Cond.selects RX6 yX6_layRow yX6_layRow, Cond.code yX6_layRow cX6_layRow 4 none, Cond.methodLink RX6 67 yX6_serves, Cond.instanceMethod yX6_serves, Cond.selects RX6 yX6_serves yX6_serves, Cond.code yX6_serves cX6_serves 5 (some .int), Cond.methodLink RX6 50 yX6_nextFor, Cond.instanceMethod yX6_nextFor, Cond.selects RX6 yX6_nextFor yX6_nextFor]
def wsX6_passes_r2 : List Cond := [Cond.code yX6_nextFor cX6_nextFor 5 (some .int), Cond.methodLink RX6 54 yX6_brings, Cond.instanceMethod yX6_brings, Cond.selects RX6 yX6_brings yX6_brings, Cond.code yX6_brings cX6_brings 3 (some .int), Cond.methodLink RX6 57 yX6_addCommoner, Cond.instanceMethod yX6_addCommoner, Cond.selects RX6 yX6_addCommoner yX6_addCommoner, Cond.code yX6_addCommoner cX6_addCommoner 4 none, Cond.methodLink RX6 60 yX6_leaves, Cond.instanceMethod yX6_leaves, Cond.selects RX6 yX6_leaves yX6_leaves, Cond.code yX6_leaves cX6_leaves 3 none]
def wsX6_passes : List Cond := .code yX6_passes cX6_passes 3 (some .int) :: ((wsX6_passes_r1 ++ wsX6_passes_r2) ++ wsX60)
def wsX6_lend : List Cond := .code yX6_lend cX6_lend 4 (some .int) :: ([.fieldLink RX6 28 "PeatBanksModel" "thrown" "I", .fieldLink RX6 7 "PeatBanksModel" "s" "[I", .methodLink RX6 70 yX6_isPlot, .static yX6_isPlot, .initialized RX6, .code yX6_isPlot cX6_isPlot 1 (some .boolean), .methodLink RX6 32 yX6_in, .static yX6_in, .code yX6_in cX6_in 3 (some .boolean), .methodLink RX6 74 yX6_isCommoner, .static yX6_isCommoner, .code yX6_isCommoner cX6_isCommoner 1 (some .boolean), .methodLink RX6 77 yX6_ofPlot, .instanceMethod yX6_ofPlot, .selects RX6 yX6_ofPlot yX6_ofPlot, .code yX6_ofPlot cX6_ofPlot 3 (some .int), .methodLink RX6 80 yX6_records, .instanceMethod yX6_records, .selects RX6 yX6_records yX6_records, .code yX6_records cX6_records 2 none, .fieldLink RX6 40 "PeatBanksModel" "savedMany" "I", .fieldLink RX6 16 "PeatBanksModel" "saved" "[I"] ++ wsX60)
def wsX6_handOver : List Cond := .code yX6_handOver cX6_handOver 4 (some .int) :: ([.fieldLink RX6 28 "PeatBanksModel" "thrown" "I", .fieldLink RX6 7 "PeatBanksModel" "s" "[I", .methodLink RX6 70 yX6_isPlot, .static yX6_isPlot, .initialized RX6, .code yX6_isPlot cX6_isPlot 1 (some .boolean), .methodLink RX6 32 yX6_in, .static yX6_in, .code yX6_in cX6_in 3 (some .boolean), .methodLink RX6 74 yX6_isCommoner, .static yX6_isCommoner, .code yX6_isCommoner cX6_isCommoner 1 (some .boolean), .methodLink RX6 77 yX6_ofPlot, .instanceMethod yX6_ofPlot, .selects RX6 yX6_ofPlot yX6_ofPlot, .code yX6_ofPlot cX6_ofPlot 3 (some .int), .methodLink RX6 80 yX6_records, .instanceMethod yX6_records, .selects RX6 yX6_records yX6_records, .code yX6_records cX6_records 2 none, .fieldLink RX6 40 "PeatBanksModel" "savedMany" "I", .fieldLink RX6 16 "PeatBanksModel" "saved" "[I"] ++ wsX60)
def wsX6_setDays : List Cond := .code yX6_setDays cX6_setDays 4 (some .int) :: ([.fieldLink RX6 28 "PeatBanksModel" "thrown" "I", .methodLink RX6 74 yX6_isCommoner, .static yX6_isCommoner, .initialized RX6, .code yX6_isCommoner cX6_isCommoner 1 (some .boolean), .methodLink RX6 32 yX6_in, .static yX6_in, .code yX6_in cX6_in 3 (some .boolean), .methodLink RX6 83 yX6_ofCommoner, .instanceMethod yX6_ofCommoner, .selects RX6 yX6_ofCommoner yX6_ofCommoner, .code yX6_ofCommoner cX6_ofCommoner 3 (some .int), .fieldLink RX6 7 "PeatBanksModel" "s" "[I", .methodLink RX6 80 yX6_records, .instanceMethod yX6_records, .selects RX6 yX6_records yX6_records, .code yX6_records cX6_records 2 none, .fieldLink RX6 40 "PeatBanksModel" "savedMany" "I", .fieldLink RX6 16 "PeatBanksModel" "saved" "[I", .methodLink RX6 57 yX6_addCommoner, .instanceMethod yX6_addCommoner, .selects RX6 yX6_addCommoner yX6_addCommoner, .code yX6_addCommoner cX6_addCommoner 4 none] ++ wsX60)
def wsX6_set : List Cond := .code yX6_set cX6_set 5 (some .int) :: ([.fieldLink RX6 28 "PeatBanksModel" "thrown" "I", .fieldLink RX6 7 "PeatBanksModel" "s" "[I", .methodLink RX6 32 yX6_in, .static yX6_in, .initialized RX6, .code yX6_in cX6_in 3 (some .boolean), .methodLink RX6 80 yX6_records, .instanceMethod yX6_records, .selects RX6 yX6_records yX6_records, .code yX6_records cX6_records 2 none, .fieldLink RX6 40 "PeatBanksModel" "savedMany" "I", .fieldLink RX6 16 "PeatBanksModel" "saved" "[I"] ++ wsX60)
def wsX6_hasRight : List Cond := .code yX6_hasRight cX6_hasRight 3 (some .boolean) :: ([.methodLink RX6 70 yX6_isPlot, .static yX6_isPlot, .initialized RX6, .code yX6_isPlot cX6_isPlot 1 (some .boolean), .methodLink RX6 32 yX6_in, .static yX6_in, .code yX6_in cX6_in 3 (some .boolean), .methodLink RX6 77 yX6_ofPlot, .instanceMethod yX6_ofPlot, .selects RX6 yX6_ofPlot yX6_ofPlot, .code yX6_ofPlot cX6_ofPlot 3 (some .int), .fieldLink RX6 7 "PeatBanksModel" "s" "[I"] ++ wsX60)
def wsX6_reason : List Cond := .code yX6_reason cX6_reason 3 (some .int) :: ([.fieldLink RX6 7 "PeatBanksModel" "s" "[I", .methodLink RX6 83 yX6_ofCommoner, .instanceMethod yX6_ofCommoner, .selects RX6 yX6_ofCommoner yX6_ofCommoner, .initialized RX6, .code yX6_ofCommoner cX6_ofCommoner 3 (some .int), .methodLink RX6 77 yX6_ofPlot, .instanceMethod yX6_ofPlot, .selects RX6 yX6_ofPlot yX6_ofPlot, .code yX6_ofPlot cX6_ofPlot 3 (some .int), .methodLink RX6 86 yX6_hasRight, .instanceMethod yX6_hasRight, .selects RX6 yX6_hasRight yX6_hasRight, .code yX6_hasRight cX6_hasRight 3 (some .boolean), .methodLink RX6 70 yX6_isPlot, .static yX6_isPlot, .code yX6_isPlot cX6_isPlot 1 (some .boolean), .methodLink RX6 32 yX6_in, .static yX6_in, .code yX6_in cX6_in 3 (some .boolean)] ++ wsX60)
def wsX6_opensDispute : List Cond := .code yX6_opensDispute cX6_opensDispute 5 none :: ([.fieldLink RX6 7 "PeatBanksModel" "s" "[I", .methodLink RX6 77 yX6_ofPlot, .instanceMethod yX6_ofPlot, .selects RX6 yX6_ofPlot yX6_ofPlot, .initialized RX6, .code yX6_ofPlot cX6_ofPlot 3 (some .int)] ++ wsX60)
def wsX6_cut_r1 : List Cond := [Cond.fieldLink RX6 28 "PeatBanksModel" "thrown" "I", Cond.fieldLink RX6 7 "PeatBanksModel" "s" "[I", Cond.methodLink RX6 74 yX6_isCommoner, Cond.static yX6_isCommoner, Cond.initialized RX6, Cond.code yX6_isCommoner cX6_isCommoner 1 (some .boolean), Cond.methodLink RX6 32 yX6_in, Cond.static yX6_in, Cond.code yX6_in cX6_in 3 (some .boolean), Cond.methodLink RX6 70 yX6_isPlot, Cond.static yX6_isPlot, Cond.code yX6_isPlot cX6_isPlot 1 (some .boolean), Cond.methodLink RX6 90 yX6_reason, Cond.instanceMethod yX6_reason, Cond.selects RX6 yX6_reason yX6_reason, Cond.code yX6_reason cX6_reason 3 (some .int), Cond.methodLink RX6 83 yX6_ofCommoner, Cond.instanceMethod yX6_ofCommoner, Cond.selects RX6 yX6_ofCommoner yX6_ofCommoner, Cond.code yX6_ofCommoner cX6_ofCommoner 3 (some .int), Cond.methodLink RX6 77 yX6_ofPlot, Cond.instanceMethod yX6_ofPlot, Cond.selects RX6 yX6_ofPlot yX6_ofPlot, Cond.code yX6_ofPlot cX6_ofPlot 3 (some .int)]
def wsX6_cut_r2 : List Cond := [Cond.methodLink RX6 86 yX6_hasRight, Cond.instanceMethod yX6_hasRight, Cond.selects RX6 yX6_hasRight yX6_hasRight, Cond.code yX6_hasRight cX6_hasRight 3 (some .boolean), Cond.methodLink RX6 80 yX6_records, Cond.instanceMethod yX6_records, Cond.selects RX6 yX6_records yX6_records, Cond.code yX6_records cX6_records 2 none, Cond.fieldLink RX6 40 "PeatBanksModel" "savedMany" "I", Cond.fieldLink RX6 16 "PeatBanksModel" "saved" "[I", Cond.methodLink RX6 57 yX6_addCommoner, Cond.instanceMethod yX6_addCommoner, Cond.selects RX6 yX6_addCommoner yX6_addCommoner, Cond.code yX6_addCommoner cX6_addCommoner 4 none, Cond.methodLink RX6 46 yX6_layRow, Cond.instanceMethod yX6_layRow, Cond.selects RX6 yX6_layRow yX6_layRow, Cond.code yX6_layRow cX6_layRow 4 none, Cond.methodLink RX6 93 yX6_opensDispute, Cond.instanceMethod yX6_opensDispute, Cond.selects RX6 yX6_opensDispute yX6_opensDispute, Cond.code yX6_opensDispute cX6_opensDispute 5 none]
def wsX6_cut : List Cond := .code yX6_cut cX6_cut 5 (some .int) :: ((wsX6_cut_r1 ++ wsX6_cut_r2) ++ wsX60)
def wsX6_turn : List Cond := .code yX6_turn cX6_turn 3 (some .int) :: ([.fieldLink RX6 28 "PeatBanksModel" "thrown" "I", .methodLink RX6 96 yX6_placeOf, .instanceMethod yX6_placeOf, .selects RX6 yX6_placeOf yX6_placeOf, .initialized RX6, .code yX6_placeOf cX6_placeOf 3 (some .int), .fieldLink RX6 7 "PeatBanksModel" "s" "[I", .methodLink RX6 36 yX6_ofRow, .instanceMethod yX6_ofRow, .selects RX6 yX6_ofRow yX6_ofRow, .code yX6_ofRow cX6_ofRow 3 (some .int), .methodLink RX6 80 yX6_records, .instanceMethod yX6_records, .selects RX6 yX6_records yX6_records, .code yX6_records cX6_records 2 none, .fieldLink RX6 40 "PeatBanksModel" "savedMany" "I", .fieldLink RX6 16 "PeatBanksModel" "saved" "[I", .methodLink RX6 46 yX6_layRow, .instanceMethod yX6_layRow, .selects RX6 yX6_layRow yX6_layRow, .code yX6_layRow cX6_layRow 4 none] ++ wsX60)
def wsX6_rowsOf : List Cond := .code yX6_rowsOf cX6_rowsOf 5 (some .int) :: ([.fieldLink RX6 7 "PeatBanksModel" "s" "[I", .methodLink RX6 36 yX6_ofRow, .instanceMethod yX6_ofRow, .selects RX6 yX6_ofRow yX6_ofRow, .initialized RX6, .code yX6_ofRow cX6_ofRow 3 (some .int)] ++ wsX60)
def wsX6_stack_r1 : List Cond := [Cond.fieldLink RX6 28 "PeatBanksModel" "thrown" "I", Cond.methodLink RX6 96 yX6_placeOf, Cond.instanceMethod yX6_placeOf, Cond.selects RX6 yX6_placeOf yX6_placeOf, Cond.initialized RX6, Cond.code yX6_placeOf cX6_placeOf 3 (some .int), Cond.fieldLink RX6 7 "PeatBanksModel" "s" "[I", Cond.methodLink RX6 36 yX6_ofRow, Cond.instanceMethod yX6_ofRow, Cond.selects RX6 yX6_ofRow yX6_ofRow, Cond.code yX6_ofRow cX6_ofRow 3 (some .int), Cond.methodLink RX6 80 yX6_records, Cond.instanceMethod yX6_records, Cond.selects RX6 yX6_records yX6_records, Cond.code yX6_records cX6_records 2 none, Cond.fieldLink RX6 40 "PeatBanksModel" "savedMany" "I", Cond.fieldLink RX6 16 "PeatBanksModel" "saved" "[I", Cond.methodLink RX6 46 yX6_layRow, Cond.instanceMethod yX6_layRow, Cond.selects RX6 yX6_layRow yX6_layRow, Cond.code yX6_layRow cX6_layRow 4 none, Cond.methodLink RX6 99 yX6_rowsOf, Cond.instanceMethod yX6_rowsOf, Cond.selects RX6 yX6_rowsOf yX6_rowsOf]
def wsX6_stack_r2 : List Cond := [Cond.code yX6_rowsOf cX6_rowsOf 5 (some .int)]
def wsX6_stack : List Cond := .code yX6_stack cX6_stack 3 (some .int) :: ((wsX6_stack_r1 ++ wsX6_stack_r2) ++ wsX60)
def wsX6_pass_r1 : List Cond := [Cond.fieldLink RX6 28 "PeatBanksModel" "thrown" "I", Cond.methodLink RX6 32 yX6_in, Cond.static yX6_in, Cond.initialized RX6, Cond.code yX6_in cX6_in 3 (some .boolean), Cond.methodLink RX6 80 yX6_records, Cond.instanceMethod yX6_records, Cond.selects RX6 yX6_records yX6_records, Cond.code yX6_records cX6_records 2 none, Cond.fieldLink RX6 40 "PeatBanksModel" "savedMany" "I", Cond.fieldLink RX6 16 "PeatBanksModel" "saved" "[I", Cond.fieldLink RX6 7 "PeatBanksModel" "s" "[I", Cond.methodLink RX6 103 yX6_passes, Cond.instanceMethod yX6_passes, Cond.selects RX6 yX6_passes yX6_passes, Cond.code yX6_passes cX6_passes 3 (some .int), Cond.methodLink RX6 64 yX6_weathers, Cond.instanceMethod yX6_weathers, Cond.selects RX6 yX6_weathers yX6_weathers, Cond.code yX6_weathers cX6_weathers 4 none, Cond.methodLink RX6 36 yX6_ofRow, Cond.instanceMethod yX6_ofRow, Cond.selects RX6 yX6_ofRow yX6_ofRow, Cond.code yX6_ofRow cX6_ofRow 3 (some .int)]
def wsX6_pass_r2 : List Cond := [Cond.methodLink RX6 43 yX6_drier, Cond.static yX6_drier, Cond.code yX6_drier cX6_drier 2 (some .int), Cond.methodLink RX6 46 yX6_layRow, Cond.instanceMethod yX6_layRow, Cond.selects RX6 yX6_layRow yX6_layRow, Cond.code yX6_layRow cX6_layRow 4 none, Cond.methodLink RX6 67 yX6_serves, Cond.instanceMethod yX6_serves, Cond.selects RX6 yX6_serves yX6_serves, Cond.code yX6_serves cX6_serves 5 (some .int), Cond.methodLink RX6 50 yX6_nextFor, Cond.instanceMethod yX6_nextFor, Cond.selects RX6 yX6_nextFor yX6_nextFor, Cond.code yX6_nextFor cX6_nextFor 5 (some .int), Cond.methodLink RX6 54 yX6_brings, Cond.instanceMethod yX6_brings, Cond.selects RX6 yX6_brings yX6_brings, Cond.code yX6_brings cX6_brings 3 (some .int), Cond.methodLink RX6 57 yX6_addCommoner, Cond.instanceMethod yX6_addCommoner, Cond.selects RX6 yX6_addCommoner yX6_addCommoner, Cond.code yX6_addCommoner cX6_addCommoner 4 none, Cond.methodLink RX6 60 yX6_leaves]
def wsX6_pass_r3 : List Cond := [Cond.instanceMethod yX6_leaves, Cond.selects RX6 yX6_leaves yX6_leaves, Cond.code yX6_leaves cX6_leaves 3 none]
def wsX6_pass : List Cond := .code yX6_pass cX6_pass 2 (some .int) :: ((wsX6_pass_r1 ++ (wsX6_pass_r2 ++ wsX6_pass_r3)) ++ wsX60)
def wsX6_sign : List Cond := .code yX6_sign cX6_sign 1 (some .int) :: ([.fieldLink RX6 122 "PeatBanksModel" "at" "I", .fieldLink RX6 119 "PeatBanksModel" "length" "I", .fieldLink RX6 22 "PeatBanksModel" "text" "[I"] ++ wsX60)
def wsX6_number : List Cond := .code yX6_number cX6_number 2 (some .int) :: ([.fieldLink RX6 128 "PeatBanksModel" "isWell" "Z", .fieldLink RX6 122 "PeatBanksModel" "at" "I", .methodLink RX6 125 yX6_sign, .instanceMethod yX6_sign, .selects RX6 yX6_sign yX6_sign, .initialized RX6, .code yX6_sign cX6_sign 1 (some .int), .fieldLink RX6 119 "PeatBanksModel" "length" "I", .fieldLink RX6 22 "PeatBanksModel" "text" "[I", .methodLink RX6 32 yX6_in, .static yX6_in, .code yX6_in cX6_in 3 (some .boolean)] ++ wsX60)
def wsX6_readsGroup : List Cond := .code yX6_readsGroup cX6_readsGroup 2 none :: ([.fieldLink RX6 128 "PeatBanksModel" "isWell" "Z", .fieldLink RX6 122 "PeatBanksModel" "at" "I", .fieldLink RX6 25 "PeatBanksModel" "groups" "[I", .fieldLink RX6 110 "PeatBanksModel" "groupMany" "I", .methodLink RX6 125 yX6_sign, .instanceMethod yX6_sign, .selects RX6 yX6_sign yX6_sign, .initialized RX6, .code yX6_sign cX6_sign 1 (some .int), .fieldLink RX6 119 "PeatBanksModel" "length" "I", .fieldLink RX6 22 "PeatBanksModel" "text" "[I", .methodLink RX6 132 yX6_number, .instanceMethod yX6_number, .selects RX6 yX6_number yX6_number, .code yX6_number cX6_number 2 (some .int), .methodLink RX6 32 yX6_in, .static yX6_in, .code yX6_in cX6_in 3 (some .boolean)] ++ wsX60)
def wsX6_reads : List Cond := .code yX6_reads cX6_reads 1 (some .int) :: ([.fieldLink RX6 122 "PeatBanksModel" "at" "I", .fieldLink RX6 110 "PeatBanksModel" "groupMany" "I", .fieldLink RX6 128 "PeatBanksModel" "isWell" "Z", .fieldLink RX6 119 "PeatBanksModel" "length" "I", .methodLink RX6 135 yX6_readsGroup, .instanceMethod yX6_readsGroup, .selects RX6 yX6_readsGroup yX6_readsGroup, .initialized RX6, .code yX6_readsGroup cX6_readsGroup 2 none, .fieldLink RX6 25 "PeatBanksModel" "groups" "[I", .methodLink RX6 125 yX6_sign, .instanceMethod yX6_sign, .selects RX6 yX6_sign yX6_sign, .code yX6_sign cX6_sign 1 (some .int), .fieldLink RX6 22 "PeatBanksModel" "text" "[I", .methodLink RX6 132 yX6_number, .instanceMethod yX6_number, .selects RX6 yX6_number yX6_number, .code yX6_number cX6_number 2 (some .int), .methodLink RX6 32 yX6_in, .static yX6_in, .code yX6_in cX6_in 3 (some .boolean)] ++ wsX60)
def wsX6_passAll_r1 : List Cond := [Cond.fieldLink RX6 28 "PeatBanksModel" "thrown" "I", Cond.fieldLink RX6 110 "PeatBanksModel" "groupMany" "I", Cond.fieldLink RX6 25 "PeatBanksModel" "groups" "[I", Cond.methodLink RX6 106 yX6_reads, Cond.instanceMethod yX6_reads, Cond.selects RX6 yX6_reads yX6_reads, Cond.initialized RX6, Cond.code yX6_reads cX6_reads 1 (some .int), Cond.fieldLink RX6 122 "PeatBanksModel" "at" "I", Cond.fieldLink RX6 128 "PeatBanksModel" "isWell" "Z", Cond.fieldLink RX6 119 "PeatBanksModel" "length" "I", Cond.methodLink RX6 135 yX6_readsGroup, Cond.instanceMethod yX6_readsGroup, Cond.selects RX6 yX6_readsGroup yX6_readsGroup, Cond.code yX6_readsGroup cX6_readsGroup 2 none, Cond.methodLink RX6 125 yX6_sign, Cond.instanceMethod yX6_sign, Cond.selects RX6 yX6_sign yX6_sign, Cond.code yX6_sign cX6_sign 1 (some .int), Cond.fieldLink RX6 22 "PeatBanksModel" "text" "[I", Cond.methodLink RX6 132 yX6_number, Cond.instanceMethod yX6_number, Cond.selects RX6 yX6_number yX6_number, Cond.code yX6_number cX6_number 2 (some .int)]
def wsX6_passAll_r2 : List Cond := [Cond.methodLink RX6 32 yX6_in, Cond.static yX6_in, Cond.code yX6_in cX6_in 3 (some .boolean), Cond.methodLink RX6 80 yX6_records, Cond.instanceMethod yX6_records, Cond.selects RX6 yX6_records yX6_records, Cond.code yX6_records cX6_records 2 none, Cond.fieldLink RX6 40 "PeatBanksModel" "savedMany" "I", Cond.fieldLink RX6 16 "PeatBanksModel" "saved" "[I", Cond.fieldLink RX6 7 "PeatBanksModel" "s" "[I", Cond.methodLink RX6 103 yX6_passes, Cond.instanceMethod yX6_passes, Cond.selects RX6 yX6_passes yX6_passes, Cond.code yX6_passes cX6_passes 3 (some .int), Cond.methodLink RX6 64 yX6_weathers, Cond.instanceMethod yX6_weathers, Cond.selects RX6 yX6_weathers yX6_weathers, Cond.code yX6_weathers cX6_weathers 4 none, Cond.methodLink RX6 36 yX6_ofRow, Cond.instanceMethod yX6_ofRow, Cond.selects RX6 yX6_ofRow yX6_ofRow, Cond.code yX6_ofRow cX6_ofRow 3 (some .int), Cond.methodLink RX6 43 yX6_drier, Cond.static yX6_drier]
def wsX6_passAll_r3 : List Cond := [Cond.code yX6_drier cX6_drier 2 (some .int), Cond.methodLink RX6 46 yX6_layRow, Cond.instanceMethod yX6_layRow, Cond.selects RX6 yX6_layRow yX6_layRow, Cond.code yX6_layRow cX6_layRow 4 none, Cond.methodLink RX6 67 yX6_serves, Cond.instanceMethod yX6_serves, Cond.selects RX6 yX6_serves yX6_serves, Cond.code yX6_serves cX6_serves 5 (some .int), Cond.methodLink RX6 50 yX6_nextFor, Cond.instanceMethod yX6_nextFor, Cond.selects RX6 yX6_nextFor yX6_nextFor, Cond.code yX6_nextFor cX6_nextFor 5 (some .int), Cond.methodLink RX6 54 yX6_brings, Cond.instanceMethod yX6_brings, Cond.selects RX6 yX6_brings yX6_brings, Cond.code yX6_brings cX6_brings 3 (some .int), Cond.methodLink RX6 57 yX6_addCommoner, Cond.instanceMethod yX6_addCommoner, Cond.selects RX6 yX6_addCommoner yX6_addCommoner, Cond.code yX6_addCommoner cX6_addCommoner 4 none, Cond.methodLink RX6 60 yX6_leaves, Cond.instanceMethod yX6_leaves, Cond.selects RX6 yX6_leaves yX6_leaves]
def wsX6_passAll_r4 : List Cond := [Cond.code yX6_leaves cX6_leaves 3 none]
def wsX6_passAll : List Cond := .code yX6_passAll cX6_passAll 5 (some .int) :: ((wsX6_passAll_r1 ++ (wsX6_passAll_r2 ++ (wsX6_passAll_r3 ++ wsX6_passAll_r4))) ++ wsX60)
def wsX6_dropsOldest : List Cond := .code yX6_dropsOldest cX6_dropsOldest 2 none :: ([.fieldLink RX6 7 "PeatBanksModel" "s" "[I"] ++ wsX60)
def wsX6_settle_r1 : List Cond := [Cond.fieldLink RX6 28 "PeatBanksModel" "thrown" "I", Cond.fieldLink RX6 7 "PeatBanksModel" "s" "[I", Cond.methodLink RX6 80 yX6_records, Cond.instanceMethod yX6_records, Cond.selects RX6 yX6_records yX6_records, Cond.initialized RX6, Cond.code yX6_records cX6_records 2 none, Cond.fieldLink RX6 40 "PeatBanksModel" "savedMany" "I", Cond.fieldLink RX6 16 "PeatBanksModel" "saved" "[I", Cond.methodLink RX6 113 yX6_ofDispute, Cond.instanceMethod yX6_ofDispute, Cond.selects RX6 yX6_ofDispute yX6_ofDispute, Cond.code yX6_ofDispute cX6_ofDispute 3 (some .int), Cond.methodLink RX6 96 yX6_placeOf, Cond.instanceMethod yX6_placeOf, Cond.selects RX6 yX6_placeOf yX6_placeOf, Cond.code yX6_placeOf cX6_placeOf 3 (some .int), Cond.methodLink RX6 36 yX6_ofRow, Cond.instanceMethod yX6_ofRow, Cond.selects RX6 yX6_ofRow yX6_ofRow, Cond.code yX6_ofRow cX6_ofRow 3 (some .int), Cond.methodLink RX6 116 yX6_dropsOldest, Cond.instanceMethod yX6_dropsOldest, Cond.selects RX6 yX6_dropsOldest yX6_dropsOldest]
def wsX6_settle_r2 : List Cond := [Cond.code yX6_dropsOldest cX6_dropsOldest 2 none, Cond.methodLink RX6 83 yX6_ofCommoner, Cond.instanceMethod yX6_ofCommoner, Cond.selects RX6 yX6_ofCommoner yX6_ofCommoner, Cond.code yX6_ofCommoner cX6_ofCommoner 3 (some .int), Cond.methodLink RX6 57 yX6_addCommoner, Cond.instanceMethod yX6_addCommoner, Cond.selects RX6 yX6_addCommoner yX6_addCommoner, Cond.code yX6_addCommoner cX6_addCommoner 4 none, Cond.methodLink RX6 46 yX6_layRow, Cond.instanceMethod yX6_layRow, Cond.selects RX6 yX6_layRow yX6_layRow, Cond.code yX6_layRow cX6_layRow 4 none]
def wsX6_settle : List Cond := .code yX6_settle cX6_settle 5 (some .int) :: ((wsX6_settle_r1 ++ wsX6_settle_r2) ++ wsX60)
def wsX6_endYear : List Cond := .code yX6_endYear cX6_endYear 3 (some .int) :: ([.fieldLink RX6 28 "PeatBanksModel" "thrown" "I", .fieldLink RX6 7 "PeatBanksModel" "s" "[I", .methodLink RX6 80 yX6_records, .instanceMethod yX6_records, .selects RX6 yX6_records yX6_records, .initialized RX6, .code yX6_records cX6_records 2 none, .fieldLink RX6 40 "PeatBanksModel" "savedMany" "I", .fieldLink RX6 16 "PeatBanksModel" "saved" "[I", .methodLink RX6 77 yX6_ofPlot, .instanceMethod yX6_ofPlot, .selects RX6 yX6_ofPlot yX6_ofPlot, .code yX6_ofPlot cX6_ofPlot 3 (some .int)] ++ wsX60)
def wsX6_type : List Cond := .code yX6_type cX6_type 2 (some .int) :: ([.fieldLink RX6 28 "PeatBanksModel" "thrown" "I", .fieldLink RX6 119 "PeatBanksModel" "length" "I", .fieldLink RX6 22 "PeatBanksModel" "text" "[I"] ++ wsX60)
def wsX6_clearText : List Cond := .code yX6_clearText cX6_clearText 2 (some .int) :: ([.fieldLink RX6 28 "PeatBanksModel" "thrown" "I", .fieldLink RX6 119 "PeatBanksModel" "length" "I"] ++ wsX60)
def wsX6_undo : List Cond := .code yX6_undo cX6_undo 2 (some .int) :: ([.fieldLink RX6 28 "PeatBanksModel" "thrown" "I", .fieldLink RX6 40 "PeatBanksModel" "savedMany" "I", .fieldLink RX6 7 "PeatBanksModel" "s" "[I", .fieldLink RX6 16 "PeatBanksModel" "saved" "[I"] ++ wsX60)
def wsX6_keep : List Cond := .code yX6_keep cX6_keep 2 (some .int) :: ([.fieldLink RX6 28 "PeatBanksModel" "thrown" "I", .fieldLink RX6 19 "PeatBanksModel" "snapshot" "[I", .fieldLink RX6 7 "PeatBanksModel" "s" "[I", .fieldLink RX6 138 "PeatBanksModel" "hasSnapshot" "Z"] ++ wsX60)
def wsX6_restore : List Cond := .code yX6_restore cX6_restore 2 (some .int) :: ([.fieldLink RX6 28 "PeatBanksModel" "thrown" "I", .fieldLink RX6 138 "PeatBanksModel" "hasSnapshot" "Z", .fieldLink RX6 7 "PeatBanksModel" "s" "[I", .fieldLink RX6 19 "PeatBanksModel" "snapshot" "[I", .methodLink RX6 80 yX6_records, .instanceMethod yX6_records, .selects RX6 yX6_records yX6_records, .initialized RX6, .code yX6_records cX6_records 2 none, .fieldLink RX6 40 "PeatBanksModel" "savedMany" "I", .fieldLink RX6 16 "PeatBanksModel" "saved" "[I"] ++ wsX60)
def wsX6_plotsOf : List Cond := .code yX6_plotsOf cX6_plotsOf 5 (some .int) :: ([.methodLink RX6 77 yX6_ofPlot, .instanceMethod yX6_ofPlot, .selects RX6 yX6_ofPlot yX6_ofPlot, .initialized RX6, .code yX6_ofPlot cX6_ofPlot 3 (some .int), .fieldLink RX6 7 "PeatBanksModel" "s" "[I"] ++ wsX60)
def wsX6_disputesOf : List Cond := .code yX6_disputesOf cX6_disputesOf 4 (some .int) :: ([.fieldLink RX6 7 "PeatBanksModel" "s" "[I", .methodLink RX6 113 yX6_ofDispute, .instanceMethod yX6_ofDispute, .selects RX6 yX6_ofDispute yX6_ofDispute, .initialized RX6, .code yX6_ofDispute cX6_ofDispute 3 (some .int)] ++ wsX60)
def wsX6_commoner_r1 : List Cond := [Cond.fieldLink RX6 28 "PeatBanksModel" "thrown" "I", Cond.methodLink RX6 74 yX6_isCommoner, Cond.static yX6_isCommoner, Cond.initialized RX6, Cond.code yX6_isCommoner cX6_isCommoner 1 (some .boolean), Cond.methodLink RX6 32 yX6_in, Cond.static yX6_in, Cond.code yX6_in cX6_in 3 (some .boolean), Cond.methodLink RX6 83 yX6_ofCommoner, Cond.instanceMethod yX6_ofCommoner, Cond.selects RX6 yX6_ofCommoner yX6_ofCommoner, Cond.code yX6_ofCommoner cX6_ofCommoner 3 (some .int), Cond.fieldLink RX6 7 "PeatBanksModel" "s" "[I", Cond.methodLink RX6 99 yX6_rowsOf, Cond.instanceMethod yX6_rowsOf, Cond.selects RX6 yX6_rowsOf yX6_rowsOf, Cond.code yX6_rowsOf cX6_rowsOf 5 (some .int), Cond.methodLink RX6 36 yX6_ofRow, Cond.instanceMethod yX6_ofRow, Cond.selects RX6 yX6_ofRow yX6_ofRow, Cond.code yX6_ofRow cX6_ofRow 3 (some .int), Cond.methodLink RX6 141 yX6_plotsOf, Cond.instanceMethod yX6_plotsOf, Cond.selects RX6 yX6_plotsOf yX6_plotsOf]
def wsX6_commoner_r2 : List Cond := [Cond.code yX6_plotsOf cX6_plotsOf 5 (some .int), Cond.methodLink RX6 77 yX6_ofPlot, Cond.instanceMethod yX6_ofPlot, Cond.selects RX6 yX6_ofPlot yX6_ofPlot, Cond.code yX6_ofPlot cX6_ofPlot 3 (some .int), Cond.methodLink RX6 144 yX6_disputesOf, Cond.instanceMethod yX6_disputesOf, Cond.selects RX6 yX6_disputesOf yX6_disputesOf, Cond.code yX6_disputesOf cX6_disputesOf 4 (some .int), Cond.methodLink RX6 113 yX6_ofDispute, Cond.instanceMethod yX6_ofDispute, Cond.selects RX6 yX6_ofDispute yX6_ofDispute, Cond.code yX6_ofDispute cX6_ofDispute 3 (some .int)]
def wsX6_commoner : List Cond := .code yX6_commoner cX6_commoner 3 (some .int) :: ((wsX6_commoner_r1 ++ wsX6_commoner_r2) ++ wsX60)
def wsX6_plot : List Cond := .code yX6_plot cX6_plot 3 (some .int) :: ([.fieldLink RX6 28 "PeatBanksModel" "thrown" "I", .methodLink RX6 70 yX6_isPlot, .static yX6_isPlot, .initialized RX6, .code yX6_isPlot cX6_isPlot 1 (some .boolean), .methodLink RX6 32 yX6_in, .static yX6_in, .code yX6_in cX6_in 3 (some .boolean), .methodLink RX6 77 yX6_ofPlot, .instanceMethod yX6_ofPlot, .selects RX6 yX6_ofPlot yX6_ofPlot, .code yX6_ofPlot cX6_ofPlot 3 (some .int), .fieldLink RX6 7 "PeatBanksModel" "s" "[I"] ++ wsX60)
def wsX6_row : List Cond := .code yX6_row cX6_row 4 (some .int) :: ([.fieldLink RX6 28 "PeatBanksModel" "thrown" "I", .methodLink RX6 96 yX6_placeOf, .instanceMethod yX6_placeOf, .selects RX6 yX6_placeOf yX6_placeOf, .initialized RX6, .code yX6_placeOf cX6_placeOf 3 (some .int), .fieldLink RX6 7 "PeatBanksModel" "s" "[I", .methodLink RX6 36 yX6_ofRow, .instanceMethod yX6_ofRow, .selects RX6 yX6_ofRow yX6_ofRow, .code yX6_ofRow cX6_ofRow 3 (some .int), .methodLink RX6 54 yX6_brings, .instanceMethod yX6_brings, .selects RX6 yX6_brings yX6_brings, .code yX6_brings cX6_brings 3 (some .int), .methodLink RX6 32 yX6_in, .static yX6_in, .code yX6_in cX6_in 3 (some .boolean)] ++ wsX60)
def wsX6_ahead : List Cond := .code yX6_ahead cX6_ahead 5 (some .int) :: ([.fieldLink RX6 7 "PeatBanksModel" "s" "[I", .methodLink RX6 36 yX6_ofRow, .instanceMethod yX6_ofRow, .selects RX6 yX6_ofRow yX6_ofRow, .initialized RX6, .code yX6_ofRow cX6_ofRow 3 (some .int)] ++ wsX60)
def wsX6_driest : List Cond := .code yX6_driest cX6_driest 4 (some .int) :: ([.fieldLink RX6 28 "PeatBanksModel" "thrown" "I", .fieldLink RX6 7 "PeatBanksModel" "s" "[I", .methodLink RX6 74 yX6_isCommoner, .static yX6_isCommoner, .initialized RX6, .code yX6_isCommoner cX6_isCommoner 1 (some .boolean), .methodLink RX6 32 yX6_in, .static yX6_in, .code yX6_in cX6_in 3 (some .boolean), .methodLink RX6 36 yX6_ofRow, .instanceMethod yX6_ofRow, .selects RX6 yX6_ofRow yX6_ofRow, .code yX6_ofRow cX6_ofRow 3 (some .int), .methodLink RX6 147 yX6_ahead, .instanceMethod yX6_ahead, .selects RX6 yX6_ahead yX6_ahead, .code yX6_ahead cX6_ahead 5 (some .int)] ++ wsX60)
def wsX6_why_r1 : List Cond := [Cond.fieldLink RX6 28 "PeatBanksModel" "thrown" "I", Cond.methodLink RX6 74 yX6_isCommoner, Cond.static yX6_isCommoner, Cond.initialized RX6, Cond.code yX6_isCommoner cX6_isCommoner 1 (some .boolean), Cond.methodLink RX6 32 yX6_in, Cond.static yX6_in, Cond.code yX6_in cX6_in 3 (some .boolean), Cond.methodLink RX6 70 yX6_isPlot, Cond.static yX6_isPlot, Cond.code yX6_isPlot cX6_isPlot 1 (some .boolean), Cond.methodLink RX6 90 yX6_reason, Cond.instanceMethod yX6_reason, Cond.selects RX6 yX6_reason yX6_reason, Cond.code yX6_reason cX6_reason 3 (some .int), Cond.fieldLink RX6 7 "PeatBanksModel" "s" "[I", Cond.methodLink RX6 83 yX6_ofCommoner, Cond.instanceMethod yX6_ofCommoner, Cond.selects RX6 yX6_ofCommoner yX6_ofCommoner, Cond.code yX6_ofCommoner cX6_ofCommoner 3 (some .int), Cond.methodLink RX6 77 yX6_ofPlot, Cond.instanceMethod yX6_ofPlot, Cond.selects RX6 yX6_ofPlot yX6_ofPlot, Cond.code yX6_ofPlot cX6_ofPlot 3 (some .int)]
def wsX6_why_r2 : List Cond := [Cond.methodLink RX6 86 yX6_hasRight, Cond.instanceMethod yX6_hasRight, Cond.selects RX6 yX6_hasRight yX6_hasRight, Cond.code yX6_hasRight cX6_hasRight 3 (some .boolean)]
def wsX6_why : List Cond := .code yX6_why cX6_why 3 (some .int) :: ((wsX6_why_r1 ++ wsX6_why_r2) ++ wsX60)
def wsX6_dispute : List Cond := .code yX6_dispute cX6_dispute 3 (some .int) :: ([.fieldLink RX6 28 "PeatBanksModel" "thrown" "I", .fieldLink RX6 7 "PeatBanksModel" "s" "[I", .methodLink RX6 32 yX6_in, .static yX6_in, .initialized RX6, .code yX6_in cX6_in 3 (some .boolean), .methodLink RX6 113 yX6_ofDispute, .instanceMethod yX6_ofDispute, .selects RX6 yX6_ofDispute yX6_ofDispute, .code yX6_ofDispute cX6_ofDispute 3 (some .int)] ++ wsX60)
def wsX6_cart : List Cond := .code yX6_cart cX6_cart 2 (some .int) :: ([.fieldLink RX6 28 "PeatBanksModel" "thrown" "I", .fieldLink RX6 7 "PeatBanksModel" "s" "[I", .methodLink RX6 32 yX6_in, .static yX6_in, .initialized RX6, .code yX6_in cX6_in 3 (some .boolean)] ++ wsX60)
def wsX6_would_r1 : List Cond := [Cond.fieldLink RX6 28 "PeatBanksModel" "thrown" "I", Cond.fieldLink RX6 13 "PeatBanksModel" "aside" "[I", Cond.fieldLink RX6 7 "PeatBanksModel" "s" "[I", Cond.methodLink RX6 32 yX6_in, Cond.static yX6_in, Cond.initialized RX6, Cond.code yX6_in cX6_in 3 (some .boolean), Cond.methodLink RX6 103 yX6_passes, Cond.instanceMethod yX6_passes, Cond.selects RX6 yX6_passes yX6_passes, Cond.code yX6_passes cX6_passes 3 (some .int), Cond.methodLink RX6 64 yX6_weathers, Cond.instanceMethod yX6_weathers, Cond.selects RX6 yX6_weathers yX6_weathers, Cond.code yX6_weathers cX6_weathers 4 none, Cond.methodLink RX6 36 yX6_ofRow, Cond.instanceMethod yX6_ofRow, Cond.selects RX6 yX6_ofRow yX6_ofRow, Cond.code yX6_ofRow cX6_ofRow 3 (some .int), Cond.methodLink RX6 43 yX6_drier, Cond.static yX6_drier, Cond.code yX6_drier cX6_drier 2 (some .int), Cond.methodLink RX6 46 yX6_layRow, Cond.instanceMethod yX6_layRow]
def wsX6_would_r2 : List Cond := [Cond.selects RX6 yX6_layRow yX6_layRow, Cond.code yX6_layRow cX6_layRow 4 none, Cond.methodLink RX6 67 yX6_serves, Cond.instanceMethod yX6_serves, Cond.selects RX6 yX6_serves yX6_serves, Cond.code yX6_serves cX6_serves 5 (some .int), Cond.methodLink RX6 50 yX6_nextFor, Cond.instanceMethod yX6_nextFor, Cond.selects RX6 yX6_nextFor yX6_nextFor, Cond.code yX6_nextFor cX6_nextFor 5 (some .int), Cond.methodLink RX6 54 yX6_brings, Cond.instanceMethod yX6_brings, Cond.selects RX6 yX6_brings yX6_brings, Cond.code yX6_brings cX6_brings 3 (some .int), Cond.methodLink RX6 57 yX6_addCommoner, Cond.instanceMethod yX6_addCommoner, Cond.selects RX6 yX6_addCommoner yX6_addCommoner, Cond.code yX6_addCommoner cX6_addCommoner 4 none, Cond.methodLink RX6 60 yX6_leaves, Cond.instanceMethod yX6_leaves, Cond.selects RX6 yX6_leaves yX6_leaves, Cond.code yX6_leaves cX6_leaves 3 none]
def wsX6_would : List Cond := .code yX6_would cX6_would 5 (some .int) :: ((wsX6_would_r1 ++ wsX6_would_r2) ++ wsX60)
def wsX6_rowsThat : List Cond := .code yX6_rowsThat cX6_rowsThat 4 (some .int) :: ([.fieldLink RX6 7 "PeatBanksModel" "s" "[I", .methodLink RX6 36 yX6_ofRow, .instanceMethod yX6_ofRow, .selects RX6 yX6_ofRow yX6_ofRow, .initialized RX6, .code yX6_ofRow cX6_ofRow 3 (some .int)] ++ wsX60)
def wsX6_allPeats : List Cond := .code yX6_allPeats cX6_allPeats 3 (some .int) :: ([.methodLink RX6 83 yX6_ofCommoner, .instanceMethod yX6_ofCommoner, .selects RX6 yX6_ofCommoner yX6_ofCommoner, .initialized RX6, .code yX6_ofCommoner cX6_ofCommoner 3 (some .int), .fieldLink RX6 7 "PeatBanksModel" "s" "[I"] ++ wsX60)
def wsX6_allLayers : List Cond := .code yX6_allLayers cX6_allLayers 3 (some .int) :: ([.methodLink RX6 77 yX6_ofPlot, .instanceMethod yX6_ofPlot, .selects RX6 yX6_ofPlot yX6_ofPlot, .initialized RX6, .code yX6_ofPlot cX6_ofPlot 3 (some .int), .fieldLink RX6 7 "PeatBanksModel" "s" "[I"] ++ wsX60)
def wsX6_count_r1 : List Cond := [Cond.fieldLink RX6 28 "PeatBanksModel" "thrown" "I", Cond.fieldLink RX6 7 "PeatBanksModel" "s" "[I", Cond.fieldLink RX6 40 "PeatBanksModel" "savedMany" "I", Cond.fieldLink RX6 119 "PeatBanksModel" "length" "I", Cond.methodLink RX6 150 yX6_rowsThat, Cond.instanceMethod yX6_rowsThat, Cond.selects RX6 yX6_rowsThat yX6_rowsThat, Cond.initialized RX6, Cond.code yX6_rowsThat cX6_rowsThat 4 (some .int), Cond.methodLink RX6 36 yX6_ofRow, Cond.instanceMethod yX6_ofRow, Cond.selects RX6 yX6_ofRow yX6_ofRow, Cond.code yX6_ofRow cX6_ofRow 3 (some .int), Cond.methodLink RX6 153 yX6_allPeats, Cond.instanceMethod yX6_allPeats, Cond.selects RX6 yX6_allPeats yX6_allPeats, Cond.code yX6_allPeats cX6_allPeats 3 (some .int), Cond.methodLink RX6 83 yX6_ofCommoner, Cond.instanceMethod yX6_ofCommoner, Cond.selects RX6 yX6_ofCommoner yX6_ofCommoner, Cond.code yX6_ofCommoner cX6_ofCommoner 3 (some .int), Cond.methodLink RX6 156 yX6_allLayers, Cond.instanceMethod yX6_allLayers, Cond.selects RX6 yX6_allLayers yX6_allLayers]
def wsX6_count_r2 : List Cond := [Cond.code yX6_allLayers cX6_allLayers 3 (some .int), Cond.methodLink RX6 77 yX6_ofPlot, Cond.instanceMethod yX6_ofPlot, Cond.selects RX6 yX6_ofPlot yX6_ofPlot, Cond.code yX6_ofPlot cX6_ofPlot 3 (some .int)]
def wsX6_count : List Cond := .code yX6_count cX6_count 2 (some .int) :: ((wsX6_count_r1 ++ wsX6_count_r2) ++ wsX60)
def wsJ9_max_7cf53 : List Cond := .code yJ9_max_7cf53 cJ9_max_7cf53 2 (some .int) :: ([])
def wsJ9_min_7cf53 : List Cond := .code yJ9_min_7cf53 cJ9_min_7cf53 2 (some .int) :: ([])
def wsL_law_r1 : List Cond := [Cond.classLink RL 7 RX5, Cond.instantiable RX5 6, Cond.initialized RX5, Cond.classLink RL 10 RX6, Cond.instantiable RX6 13, Cond.initialized RX6, Cond.methodLink RL 9 yX5_init, Cond.instanceMethod yX5_init, Cond.code yX5_init cX5_init 1 none, Cond.methodLink RX5 3 objectInit, Cond.instanceMethod objectInit, Cond.code objectInit ⟨#[0xb1]⟩ 1 none, Cond.classLink RX5 9 RX3, Cond.instantiable RX3 14, Cond.initialized RX3, Cond.fieldLink RX5 12 "PeatBanks" "now" "LPeatBanks$Moss;", Cond.fieldLink RX5 16 "PeatBanks" "kept" "LPeatBanks$Moss;", Cond.fieldLink RX5 19 "PeatBanks" "trial" "LPeatBanks$Moss;", Cond.classLink RX5 22 RX2, Cond.instantiable RX2 5, Cond.initialized RX2, Cond.fieldLink RX5 25 "PeatBanks" "history" "LPeatBanks$History;", Cond.classLink RX5 29 RX0, Cond.instantiable RX0 5]
def wsL_law_r2 : List Cond := [Cond.initialized RX0, Cond.fieldLink RX5 32 "PeatBanks" "text" "LPeatBanks$DayText;", Cond.fieldLink RX5 36 "PeatBanks" "hasKept" "Z", Cond.methodLink RX5 11 yX3_init, Cond.instanceMethod yX3_init, Cond.code yX3_init cX3_init 2 none, Cond.methodLink RX3 3 objectInit, Cond.arrayClass .int, Cond.fieldLink RX3 9 "PeatBanks$Moss" "layers" "[I", Cond.fieldLink RX3 15 "PeatBanks$Moss" "owners" "[I", Cond.fieldLink RX3 18 "PeatBanks$Moss" "rights" "[I", Cond.fieldLink RX3 21 "PeatBanks$Moss" "days" "[I", Cond.fieldLink RX3 24 "PeatBanks$Moss" "used" "[I", Cond.fieldLink RX3 27 "PeatBanks$Moss" "hearths" "[I", Cond.classLink RX3 30 RX4, Cond.instantiable RX4 7, Cond.initialized RX4, Cond.fieldLink RX3 33 "PeatBanks$Moss" "rows" "LPeatBanks$Rows;", Cond.classLink RX3 37 RX1, Cond.instantiable RX1 6, Cond.initialized RX1, Cond.fieldLink RX3 40 "PeatBanks$Moss" "disputes" "LPeatBanks$Disputes;", Cond.fieldLink RX3 44 "PeatBanks$Moss" "cartRows" "I", Cond.methodLink RX3 32 yX4_init]
def wsL_law_r3 : List Cond := [Cond.instanceMethod yX4_init, Cond.code yX4_init cX4_init 1 none, Cond.methodLink RX4 3 objectInit, Cond.fieldLink RX4 9 "PeatBanks$Rows" "owner" "[I", Cond.fieldLink RX4 15 "PeatBanks$Rows" "plot" "[I", Cond.fieldLink RX4 18 "PeatBanks$Rows" "wetness" "[I", Cond.arrayClass .boolean, Cond.fieldLink RX4 21 "PeatBanks$Rows" "turned" "[Z", Cond.fieldLink RX4 25 "PeatBanks$Rows" "stacked" "[Z", Cond.fieldLink RX4 28 "PeatBanks$Rows" "lying" "[Z", Cond.methodLink RX3 39 yX1_init, Cond.instanceMethod yX1_init, Cond.code yX1_init cX1_init 1 none, Cond.methodLink RX1 3 objectInit, Cond.fieldLink RX1 9 "PeatBanks$Disputes" "cutter" "[I", Cond.fieldLink RX1 15 "PeatBanks$Disputes" "wronged" "[I", Cond.fieldLink RX1 18 "PeatBanks$Disputes" "row" "[I", Cond.fieldLink RX1 21 "PeatBanks$Disputes" "plot" "[I", Cond.methodLink RX5 24 yX2_init, Cond.instanceMethod yX2_init, Cond.code yX2_init cX2_init 1 none, Cond.methodLink RX2 3 objectInit, Cond.classLink RX2 9 RX3, Cond.fieldLink RX2 12 "PeatBanks$History" "latest" "LPeatBanks$Moss;"]
def wsL_law_r4 : List Cond := [Cond.fieldLink RX2 18 "PeatBanks$History" "second" "LPeatBanks$Moss;", Cond.fieldLink RX2 21 "PeatBanks$History" "third" "LPeatBanks$Moss;", Cond.fieldLink RX2 24 "PeatBanks$History" "oldest" "LPeatBanks$Moss;", Cond.methodLink RX2 11 yX3_init, Cond.methodLink RX5 31 yX0_init, Cond.instanceMethod yX0_init, Cond.code yX0_init cX0_init 1 none, Cond.methodLink RX0 3 objectInit, Cond.arrayClass .char, Cond.fieldLink RX0 9 "PeatBanks$DayText" "characters" "[C", Cond.fieldLink RX0 15 "PeatBanks$DayText" "groupWeather" "[I", Cond.fieldLink RX0 19 "PeatBanks$DayText" "groupDays" "[I", Cond.methodLink RL 12 yX6_init, Cond.instanceMethod yX6_init, Cond.code yX6_init cX6_init 2 none, Cond.methodLink RX6 1 objectInit, Cond.fieldLink RX6 7 "PeatBanksModel" "s" "[I", Cond.fieldLink RX6 13 "PeatBanksModel" "aside" "[I", Cond.fieldLink RX6 16 "PeatBanksModel" "saved" "[I", Cond.fieldLink RX6 19 "PeatBanksModel" "snapshot" "[I", Cond.fieldLink RX6 22 "PeatBanksModel" "text" "[I", Cond.fieldLink RX6 25 "PeatBanksModel" "groups" "[I", Cond.fieldLink RX6 28 "PeatBanksModel" "thrown" "I", Cond.methodLink RL 13 yX5_lend]
def wsL_law_r5 : List Cond := [Cond.instanceMethod yX5_lend, Cond.selects RX5 yX5_lend yX5_lend, Cond.code yX5_lend cX5_lend 4 (some .int), Cond.fieldLink RX5 47 "PeatBanks$Moss" "rights" "[I", Cond.methodLink RX5 40 yX5_isPlot, Cond.static yX5_isPlot, Cond.code yX5_isPlot cX5_isPlot 1 (some .boolean), Cond.methodLink RX5 58 yX5_isWithin, Cond.static yX5_isWithin, Cond.code yX5_isWithin cX5_isWithin 3 (some .boolean), Cond.methodLink RX5 44 yX5_isCommoner, Cond.static yX5_isCommoner, Cond.code yX5_isCommoner cX5_isCommoner 1 (some .boolean), Cond.methodLink RX5 51 yX2_record, Cond.instanceMethod yX2_record, Cond.selects RX2 yX2_record yX2_record, Cond.code yX2_record cX2_record 3 none, Cond.fieldLink RX2 31 "PeatBanks$History" "states" "I", Cond.methodLink RX2 35 Lib.Math.min.name, Cond.static Lib.Math.min.name, Cond.initialized "java/lang/Math", Cond.code Lib.Math.min.name Lib.Math.min.code 2 (some .int), Cond.methodLink RX2 27 yX3_copyFrom, Cond.instanceMethod yX3_copyFrom]
def wsL_law_r6 : List Cond := [Cond.selects RX3 yX3_copyFrom yX3_copyFrom, Cond.code yX3_copyFrom cX3_copyFrom 2 none, Cond.fieldLink RX3 59 "PeatBanks$Moss" "stakes" "I", Cond.fieldLink RX3 62 "PeatBanks$Moss" "rota" "I", Cond.fieldLink RX3 65 "PeatBanks$Moss" "dayOfYear" "I", Cond.fieldLink RX3 68 "PeatBanks$Moss" "years" "I", Cond.fieldLink RX3 71 "PeatBanks$Moss" "rowsHome" "I", Cond.static yX5_copyNumbers, Cond.code yX5_copyNumbers cX5_copyNumbers 2 none, Cond.methodLink RX5 240 Lib.Math.min.name, Cond.methodLink RX5 245 arraycopyName, Cond.native arraycopyName, Cond.static arraycopyName, Cond.initialized "java/lang/System", Cond.methodLink RX3 52 yX4_copyFrom, Cond.instanceMethod yX4_copyFrom, Cond.selects RX4 yX4_copyFrom yX4_copyFrom, Cond.code yX4_copyFrom cX4_copyFrom 2 none, Cond.fieldLink RX4 39 "PeatBanks$Rows" "soFar" "I", Cond.static yX5_copyFlags, Cond.code yX5_copyFlags cX5_copyFlags 2 none, Cond.methodLink RX3 56 yX1_copyFrom, Cond.instanceMethod yX1_copyFrom, Cond.selects RX1 yX1_copyFrom yX1_copyFrom]
def wsL_law_r7 : List Cond := [Cond.code yX1_copyFrom cX1_copyFrom 2 none, Cond.fieldLink RX1 28 "PeatBanks$Disputes" "settled" "I", Cond.fieldLink RX1 32 "PeatBanks$Disputes" "soFar" "I", Cond.methodLink RL 17 yX6_lend, Cond.instanceMethod yX6_lend, Cond.selects RX6 yX6_lend yX6_lend, Cond.code yX6_lend cX6_lend 4 (some .int), Cond.methodLink RX6 70 yX6_isPlot, Cond.static yX6_isPlot, Cond.code yX6_isPlot cX6_isPlot 1 (some .boolean), Cond.methodLink RX6 32 yX6_in, Cond.static yX6_in, Cond.code yX6_in cX6_in 3 (some .boolean), Cond.methodLink RX6 74 yX6_isCommoner, Cond.static yX6_isCommoner, Cond.code yX6_isCommoner cX6_isCommoner 1 (some .boolean), Cond.methodLink RX6 77 yX6_ofPlot, Cond.instanceMethod yX6_ofPlot, Cond.selects RX6 yX6_ofPlot yX6_ofPlot, Cond.code yX6_ofPlot cX6_ofPlot 3 (some .int), Cond.methodLink RX6 80 yX6_records, Cond.instanceMethod yX6_records, Cond.selects RX6 yX6_records yX6_records, Cond.code yX6_records cX6_records 2 none]
def wsL_law_r8 : List Cond := [Cond.fieldLink RX6 40 "PeatBanksModel" "savedMany" "I", Cond.methodLink RL 18 yX5_handOver, Cond.instanceMethod yX5_handOver, Cond.selects RX5 yX5_handOver yX5_handOver, Cond.code yX5_handOver cX5_handOver 4 (some .int), Cond.fieldLink RX5 55 "PeatBanks$Moss" "owners" "[I", Cond.methodLink RL 21 yX6_handOver, Cond.instanceMethod yX6_handOver, Cond.selects RX6 yX6_handOver yX6_handOver, Cond.code yX6_handOver cX6_handOver 4 (some .int), Cond.methodLink RL 22 yX5_setDays, Cond.instanceMethod yX5_setDays, Cond.selects RX5 yX5_setDays yX5_setDays, Cond.code yX5_setDays cX5_setDays 4 (some .int), Cond.fieldLink RX5 62 "PeatBanks$Moss" "days" "[I", Cond.methodLink RL 25 yX6_setDays, Cond.instanceMethod yX6_setDays, Cond.selects RX6 yX6_setDays yX6_setDays, Cond.code yX6_setDays cX6_setDays 4 (some .int), Cond.methodLink RX6 83 yX6_ofCommoner, Cond.instanceMethod yX6_ofCommoner, Cond.selects RX6 yX6_ofCommoner yX6_ofCommoner, Cond.code yX6_ofCommoner cX6_ofCommoner 3 (some .int), Cond.methodLink RX6 57 yX6_addCommoner]
def wsL_law_r9 : List Cond := [Cond.instanceMethod yX6_addCommoner, Cond.selects RX6 yX6_addCommoner yX6_addCommoner, Cond.code yX6_addCommoner cX6_addCommoner 4 none, Cond.methodLink RL 26 yX5_set, Cond.instanceMethod yX5_set, Cond.selects RX5 yX5_set yX5_set, Cond.code yX5_set cX5_set 4 (some .int), Cond.fieldLink RX5 69 "PeatBanks$Moss" "cartRows" "I", Cond.fieldLink RX5 73 "PeatBanks$Moss" "stakes" "I", Cond.methodLink RX5 65 yX5_isSettingValue, Cond.static yX5_isSettingValue, Cond.code yX5_isSettingValue cX5_isSettingValue 2 (some .boolean), Cond.methodLink RL 29 yX6_set, Cond.instanceMethod yX6_set, Cond.selects RX6 yX6_set yX6_set, Cond.code yX6_set cX6_set 5 (some .int), Cond.methodLink RL 30 yX5_cut, Cond.instanceMethod yX5_cut, Cond.selects RX5 yX5_cut yX5_cut, Cond.code yX5_cut cX5_cut 3 (some .int), Cond.fieldLink RX5 80 "PeatBanks$Moss" "rows" "LPeatBanks$Rows;", Cond.methodLink RX5 76 yX3_reasonAgainst, Cond.instanceMethod yX3_reasonAgainst, Cond.selects RX3 yX3_reasonAgainst yX3_reasonAgainst]
def wsL_law_r10 : List Cond := [Cond.code yX3_reasonAgainst cX3_reasonAgainst 4 (some .int), Cond.methodLink RX3 74 yX3_hasDayLeft, Cond.instanceMethod yX3_hasDayLeft, Cond.selects RX3 yX3_hasDayLeft yX3_hasDayLeft, Cond.code yX3_hasDayLeft cX3_hasDayLeft 2 (some .boolean), Cond.methodLink RX3 81 yX4_countLying, Cond.instanceMethod yX4_countLying, Cond.selects RX4 yX4_countLying yX4_countLying, Cond.code yX4_countLying cX4_countLying 3 (some .int), Cond.static yX5_oneIf, Cond.code yX5_oneIf cX5_oneIf 1 (some .int), Cond.methodLink RX3 85 yX3_hasRight, Cond.instanceMethod yX3_hasRight, Cond.selects RX3 yX3_hasRight yX3_hasRight, Cond.code yX3_hasRight cX3_hasRight 3 (some .boolean), Cond.methodLink RX5 84 yX4_hasNumberLeft, Cond.instanceMethod yX4_hasNumberLeft, Cond.selects RX4 yX4_hasNumberLeft yX4_hasNumberLeft, Cond.code yX4_hasNumberLeft cX4_hasNumberLeft 1 (some .boolean), Cond.methodLink RX5 90 yX3_takeLayer, Cond.instanceMethod yX3_takeLayer, Cond.selects RX3 yX3_takeLayer yX3_takeLayer, Cond.code yX3_takeLayer cX3_takeLayer 4 (some .int), Cond.methodLink RX3 92 yX4_lay]
def wsL_law_r11 : List Cond := [Cond.instanceMethod yX4_lay, Cond.selects RX4 yX4_lay yX4_lay, Cond.code yX4_lay cX4_lay 4 (some .int), Cond.methodLink RX4 43 yX4_hasNumberLeft, Cond.methodLink RX3 96 yX1_open, Cond.instanceMethod yX1_open, Cond.selects RX1 yX1_open yX1_open, Cond.code yX1_open cX1_open 5 none, Cond.methodLink RL 33 yX6_cut, Cond.instanceMethod yX6_cut, Cond.selects RX6 yX6_cut yX6_cut, Cond.code yX6_cut cX6_cut 5 (some .int), Cond.methodLink RX6 90 yX6_reason, Cond.instanceMethod yX6_reason, Cond.selects RX6 yX6_reason yX6_reason, Cond.code yX6_reason cX6_reason 3 (some .int), Cond.methodLink RX6 86 yX6_hasRight, Cond.instanceMethod yX6_hasRight, Cond.selects RX6 yX6_hasRight yX6_hasRight, Cond.code yX6_hasRight cX6_hasRight 3 (some .boolean), Cond.methodLink RX6 46 yX6_layRow, Cond.instanceMethod yX6_layRow, Cond.selects RX6 yX6_layRow yX6_layRow, Cond.code yX6_layRow cX6_layRow 4 none]
def wsL_law_r12 : List Cond := [Cond.methodLink RX6 93 yX6_opensDispute, Cond.instanceMethod yX6_opensDispute, Cond.selects RX6 yX6_opensDispute yX6_opensDispute, Cond.code yX6_opensDispute cX6_opensDispute 5 none, Cond.methodLink RL 34 yX5_turn, Cond.instanceMethod yX5_turn, Cond.selects RX5 yX5_turn yX5_turn, Cond.code yX5_turn cX5_turn 2 (some .int), Cond.fieldLink RX5 96 "PeatBanks$Rows" "stacked" "[Z", Cond.fieldLink RX5 100 "PeatBanks$Rows" "turned" "[Z", Cond.fieldLink RX5 103 "PeatBanks$Rows" "wetness" "[I", Cond.methodLink RX5 93 yX4_isLying, Cond.instanceMethod yX4_isLying, Cond.selects RX4 yX4_isLying yX4_isLying, Cond.code yX4_isLying cX4_isLying 2 (some .boolean), Cond.methodLink RL 38 yX6_turn, Cond.instanceMethod yX6_turn, Cond.selects RX6 yX6_turn yX6_turn, Cond.code yX6_turn cX6_turn 3 (some .int), Cond.methodLink RX6 96 yX6_placeOf, Cond.instanceMethod yX6_placeOf, Cond.selects RX6 yX6_placeOf yX6_placeOf, Cond.code yX6_placeOf cX6_placeOf 3 (some .int), Cond.methodLink RX6 36 yX6_ofRow]
def wsL_law_r13 : List Cond := [Cond.instanceMethod yX6_ofRow, Cond.selects RX6 yX6_ofRow yX6_ofRow, Cond.code yX6_ofRow cX6_ofRow 3 (some .int), Cond.methodLink RL 39 yX5_stack, Cond.instanceMethod yX5_stack, Cond.selects RX5 yX5_stack yX5_stack, Cond.code yX5_stack cX5_stack 2 (some .int), Cond.fieldLink RX5 109 "PeatBanks$Rows" "owner" "[I", Cond.methodLink RX5 106 yX4_isDry, Cond.instanceMethod yX4_isDry, Cond.selects RX4 yX4_isDry yX4_isDry, Cond.code yX4_isDry cX4_isDry 2 (some .boolean), Cond.methodLink RX4 51 yX4_isLying, Cond.methodLink RX5 112 yX4_countStackedOf, Cond.instanceMethod yX4_countStackedOf, Cond.selects RX4 yX4_countStackedOf yX4_countStackedOf, Cond.code yX4_countStackedOf cX4_countStackedOf 4 (some .int), Cond.methodLink RX4 65 yX4_isStacked, Cond.instanceMethod yX4_isStacked, Cond.selects RX4 yX4_isStacked yX4_isStacked, Cond.code yX4_isStacked cX4_isStacked 2 (some .boolean), Cond.methodLink RL 42 yX6_stack, Cond.instanceMethod yX6_stack, Cond.selects RX6 yX6_stack yX6_stack]
def wsL_law_r14 : List Cond := [Cond.code yX6_stack cX6_stack 3 (some .int), Cond.methodLink RX6 99 yX6_rowsOf, Cond.instanceMethod yX6_rowsOf, Cond.selects RX6 yX6_rowsOf yX6_rowsOf, Cond.code yX6_rowsOf cX6_rowsOf 5 (some .int), Cond.methodLink RL 43 yX5_pass, Cond.instanceMethod yX5_pass, Cond.selects RX5 yX5_pass yX5_pass, Cond.code yX5_pass cX5_pass 2 (some .int), Cond.methodLink RX5 116 yX5_isWeather, Cond.static yX5_isWeather, Cond.code yX5_isWeather cX5_isWeather 1 (some .boolean), Cond.methodLink RX5 119 yX3_passDays, Cond.instanceMethod yX3_passDays, Cond.selects RX3 yX3_passDays yX3_passDays, Cond.code yX3_passDays cX3_passDays 6 (some .int), Cond.methodLink RX3 100 yX4_dryOrWet, Cond.instanceMethod yX4_dryOrWet, Cond.selects RX4 yX4_dryOrWet yX4_dryOrWet, Cond.code yX4_dryOrWet cX4_dryOrWet 4 none, Cond.methodLink RX4 85 Lib.Math.min.name, Cond.methodLink RX4 55 Lib.Math.max.name, Cond.static Lib.Math.max.name, Cond.code Lib.Math.max.name Lib.Math.max.code 2 (some .int)]
def wsL_law_r15 : List Cond := [Cond.methodLink RX4 81 yX4_changeBy, Cond.static yX4_changeBy, Cond.code yX4_changeBy cX4_changeBy 2 (some .int), Cond.methodLink RX3 104 yX3_commonerOfCart, Cond.instanceMethod yX3_commonerOfCart, Cond.selects RX3 yX3_commonerOfCart yX3_commonerOfCart, Cond.code yX3_commonerOfCart cX3_commonerOfCart 2 (some .int), Cond.methodLink RX3 108 yX3_serve, Cond.instanceMethod yX3_serve, Cond.selects RX3 yX3_serve yX3_serve, Cond.code yX3_serve cX3_serve 4 none, Cond.fieldLink RX3 120 "PeatBanks$Rows" "lying" "[Z", Cond.methodLink RX3 111 yX4_driestStackedOf, Cond.instanceMethod yX4_driestStackedOf, Cond.selects RX4 yX4_driestStackedOf yX4_driestStackedOf, Cond.code yX4_driestStackedOf cX4_driestStackedOf 4 (some .int), Cond.methodLink RX3 114 yX4_isLying, Cond.methodLink RX3 117 yX4_peatsAtHearth, Cond.instanceMethod yX4_peatsAtHearth, Cond.selects RX4 yX4_peatsAtHearth yX4_peatsAtHearth, Cond.code yX4_peatsAtHearth cX4_peatsAtHearth 2 (some .int), Cond.methodLink RL 46 yX6_pass, Cond.instanceMethod yX6_pass, Cond.selects RX6 yX6_pass yX6_pass]
def wsL_law_r16 : List Cond := [Cond.code yX6_pass cX6_pass 2 (some .int), Cond.methodLink RX6 103 yX6_passes, Cond.instanceMethod yX6_passes, Cond.selects RX6 yX6_passes yX6_passes, Cond.code yX6_passes cX6_passes 3 (some .int), Cond.methodLink RX6 64 yX6_weathers, Cond.instanceMethod yX6_weathers, Cond.selects RX6 yX6_weathers yX6_weathers, Cond.code yX6_weathers cX6_weathers 4 none, Cond.methodLink RX6 43 yX6_drier, Cond.static yX6_drier, Cond.code yX6_drier cX6_drier 2 (some .int), Cond.methodLink RX6 67 yX6_serves, Cond.instanceMethod yX6_serves, Cond.selects RX6 yX6_serves yX6_serves, Cond.code yX6_serves cX6_serves 5 (some .int), Cond.methodLink RX6 50 yX6_nextFor, Cond.instanceMethod yX6_nextFor, Cond.selects RX6 yX6_nextFor yX6_nextFor, Cond.code yX6_nextFor cX6_nextFor 5 (some .int), Cond.methodLink RX6 54 yX6_brings, Cond.instanceMethod yX6_brings, Cond.selects RX6 yX6_brings yX6_brings, Cond.code yX6_brings cX6_brings 3 (some .int)]
def wsL_law_r17 : List Cond := [Cond.methodLink RX6 60 yX6_leaves, Cond.instanceMethod yX6_leaves, Cond.selects RX6 yX6_leaves yX6_leaves, Cond.code yX6_leaves cX6_leaves 3 none, Cond.methodLink RL 47 yX5_passAll, Cond.instanceMethod yX5_passAll, Cond.selects RX5 yX5_passAll yX5_passAll, Cond.code yX5_passAll cX5_passAll 4 (some .int), Cond.fieldLink RX5 126 "PeatBanks$DayText" "groups" "I", Cond.fieldLink RX5 129 "PeatBanks$DayText" "groupDays" "[I", Cond.fieldLink RX5 132 "PeatBanks$DayText" "groupWeather" "[I", Cond.methodLink RX5 122 yX0_readGroups, Cond.instanceMethod yX0_readGroups, Cond.selects RX0 yX0_readGroups yX0_readGroups, Cond.code yX0_readGroups cX0_readGroups 4 (some .int), Cond.fieldLink RX0 26 "PeatBanks$DayText" "groups" "I", Cond.fieldLink RX0 22 "PeatBanks$DayText" "length" "I", Cond.methodLink RX0 29 yX0_isWeatherLetter, Cond.static yX0_isWeatherLetter, Cond.code yX0_isWeatherLetter cX0_isWeatherLetter 1 (some .boolean), Cond.methodLink RX0 33 yX0_weatherOf, Cond.static yX0_weatherOf, Cond.code yX0_weatherOf cX0_weatherOf 1 (some .int), Cond.methodLink RX0 37 yX0_openGroup]
def wsL_law_r18 : List Cond := [Cond.instanceMethod yX0_openGroup, Cond.selects RX0 yX0_openGroup yX0_openGroup, Cond.code yX0_openGroup cX0_openGroup 2 none, Cond.methodLink RX0 41 yX0_isDigit, Cond.static yX0_isDigit, Cond.code yX0_isDigit cX0_isDigit 1 (some .boolean), Cond.methodLink RL 51 yX6_passAll, Cond.instanceMethod yX6_passAll, Cond.selects RX6 yX6_passAll yX6_passAll, Cond.code yX6_passAll cX6_passAll 5 (some .int), Cond.fieldLink RX6 110 "PeatBanksModel" "groupMany" "I", Cond.methodLink RX6 106 yX6_reads, Cond.instanceMethod yX6_reads, Cond.selects RX6 yX6_reads yX6_reads, Cond.code yX6_reads cX6_reads 1 (some .int), Cond.fieldLink RX6 122 "PeatBanksModel" "at" "I", Cond.fieldLink RX6 128 "PeatBanksModel" "isWell" "Z", Cond.fieldLink RX6 119 "PeatBanksModel" "length" "I", Cond.methodLink RX6 135 yX6_readsGroup, Cond.instanceMethod yX6_readsGroup, Cond.selects RX6 yX6_readsGroup yX6_readsGroup, Cond.code yX6_readsGroup cX6_readsGroup 2 none, Cond.methodLink RX6 125 yX6_sign, Cond.instanceMethod yX6_sign]
def wsL_law_r19 : List Cond := [Cond.selects RX6 yX6_sign yX6_sign, Cond.code yX6_sign cX6_sign 1 (some .int), Cond.methodLink RX6 132 yX6_number, Cond.instanceMethod yX6_number, Cond.selects RX6 yX6_number yX6_number, Cond.code yX6_number cX6_number 2 (some .int), Cond.methodLink RL 52 yX5_settle, Cond.instanceMethod yX5_settle, Cond.selects RX5 yX5_settle yX5_settle, Cond.code yX5_settle cX5_settle 1 (some .int), Cond.fieldLink RX5 135 "PeatBanks$Moss" "disputes" "LPeatBanks$Disputes;", Cond.methodLink RX5 139 yX1_countOpen, Cond.instanceMethod yX1_countOpen, Cond.selects RX1 yX1_countOpen yX1_countOpen, Cond.code yX1_countOpen cX1_countOpen 1 (some .int), Cond.methodLink RX5 144 yX3_settleOldest, Cond.instanceMethod yX3_settleOldest, Cond.selects RX3 yX3_settleOldest yX3_settleOldest, Cond.code yX3_settleOldest cX3_settleOldest 5 (some .int), Cond.fieldLink RX3 127 "PeatBanks$Disputes" "settled" "I", Cond.fieldLink RX3 130 "PeatBanks$Disputes" "cutter" "[I", Cond.fieldLink RX3 136 "PeatBanks$Disputes" "wronged" "[I", Cond.fieldLink RX3 139 "PeatBanks$Disputes" "row" "[I", Cond.fieldLink RX3 142 "PeatBanks$Rows" "owner" "[I"]
def wsL_law_r20 : List Cond := [Cond.methodLink RX3 124 yX1_countOpen, Cond.methodLink RX3 133 yX3_useDayIfLeft, Cond.instanceMethod yX3_useDayIfLeft, Cond.selects RX3 yX3_useDayIfLeft yX3_useDayIfLeft, Cond.code yX3_useDayIfLeft cX3_useDayIfLeft 2 none, Cond.methodLink RX3 145 yX3_givePeats, Cond.instanceMethod yX3_givePeats, Cond.selects RX3 yX3_givePeats yX3_givePeats, Cond.code yX3_givePeats cX3_givePeats 4 none, Cond.methodLink RX3 149 Lib.Math.min.name, Cond.methodLink RL 55 yX6_settle, Cond.instanceMethod yX6_settle, Cond.selects RX6 yX6_settle yX6_settle, Cond.code yX6_settle cX6_settle 5 (some .int), Cond.methodLink RX6 113 yX6_ofDispute, Cond.instanceMethod yX6_ofDispute, Cond.selects RX6 yX6_ofDispute yX6_ofDispute, Cond.code yX6_ofDispute cX6_ofDispute 3 (some .int), Cond.methodLink RX6 116 yX6_dropsOldest, Cond.instanceMethod yX6_dropsOldest, Cond.selects RX6 yX6_dropsOldest yX6_dropsOldest, Cond.code yX6_dropsOldest cX6_dropsOldest 2 none, Cond.methodLink RL 56 yX5_endYear, Cond.instanceMethod yX5_endYear]
def wsL_law_r21 : List Cond := [Cond.selects RX5 yX5_endYear yX5_endYear, Cond.code yX5_endYear cX5_endYear 1 (some .int), Cond.methodLink RX5 147 yX3_closeYear, Cond.instanceMethod yX3_closeYear, Cond.selects RX3 yX3_closeYear yX3_closeYear, Cond.code yX3_closeYear cX3_closeYear 3 (some .int), Cond.fieldLink RX3 157 "PeatBanks$Disputes" "soFar" "I", Cond.methodLink RX3 154 yX4_loseAll, Cond.instanceMethod yX4_loseAll, Cond.selects RX4 yX4_loseAll yX4_loseAll, Cond.code yX4_loseAll cX4_loseAll 3 (some .int), Cond.methodLink RX4 88 yX4_countLying, Cond.methodLink RL 59 yX6_endYear, Cond.instanceMethod yX6_endYear, Cond.selects RX6 yX6_endYear yX6_endYear, Cond.code yX6_endYear cX6_endYear 3 (some .int), Cond.methodLink RL 60 yX5_type, Cond.instanceMethod yX5_type, Cond.selects RX5 yX5_type yX5_type, Cond.code yX5_type cX5_type 2 (some .int), Cond.fieldLink RX5 154 "PeatBanks$DayText" "length" "I", Cond.methodLink RX5 150 yX0_append, Cond.instanceMethod yX0_append, Cond.selects RX0 yX0_append yX0_append]
def wsL_law_r22 : List Cond := [Cond.code yX0_append cX0_append 2 (some .boolean), Cond.methodLink RL 64 yX6_type, Cond.instanceMethod yX6_type, Cond.selects RX6 yX6_type yX6_type, Cond.code yX6_type cX6_type 2 (some .int), Cond.methodLink RL 65 yX5_clearText, Cond.instanceMethod yX5_clearText, Cond.selects RX5 yX5_clearText yX5_clearText, Cond.code yX5_clearText cX5_clearText 2 (some .int), Cond.methodLink RL 68 yX6_clearText, Cond.instanceMethod yX6_clearText, Cond.selects RX6 yX6_clearText yX6_clearText, Cond.code yX6_clearText cX6_clearText 2 (some .int), Cond.methodLink RL 69 yX5_undo, Cond.instanceMethod yX5_undo, Cond.selects RX5 yX5_undo yX5_undo, Cond.code yX5_undo cX5_undo 1 (some .int), Cond.fieldLink RX5 157 "PeatBanks$History" "states" "I", Cond.methodLink RX5 160 yX2_takeBack, Cond.instanceMethod yX2_takeBack, Cond.selects RX2 yX2_takeBack yX2_takeBack, Cond.code yX2_takeBack cX2_takeBack 3 none, Cond.methodLink RL 72 yX6_undo, Cond.instanceMethod yX6_undo]
def wsL_law_r23 : List Cond := [Cond.selects RX6 yX6_undo yX6_undo, Cond.code yX6_undo cX6_undo 2 (some .int), Cond.methodLink RL 73 yX5_keep, Cond.instanceMethod yX5_keep, Cond.selects RX5 yX5_keep yX5_keep, Cond.code yX5_keep cX5_keep 1 (some .int), Cond.methodLink RX5 163 yX3_copyFrom, Cond.methodLink RX5 166 yX4_countLying, Cond.methodLink RL 76 yX6_keep, Cond.instanceMethod yX6_keep, Cond.selects RX6 yX6_keep yX6_keep, Cond.code yX6_keep cX6_keep 2 (some .int), Cond.fieldLink RX6 138 "PeatBanksModel" "hasSnapshot" "Z", Cond.methodLink RL 77 yX5_restore, Cond.instanceMethod yX5_restore, Cond.selects RX5 yX5_restore yX5_restore, Cond.code yX5_restore cX5_restore 1 (some .int), Cond.methodLink RL 80 yX6_restore, Cond.instanceMethod yX6_restore, Cond.selects RX6 yX6_restore yX6_restore, Cond.code yX6_restore cX6_restore 2 (some .int), Cond.methodLink RL 81 yX5_commoner, Cond.instanceMethod yX5_commoner, Cond.selects RX5 yX5_commoner yX5_commoner]
def wsL_law_r24 : List Cond := [Cond.code yX5_commoner cX5_commoner 3 (some .int), Cond.fieldLink RX5 169 "PeatBanks$Moss" "used" "[I", Cond.fieldLink RX5 172 "PeatBanks$Moss" "hearths" "[I", Cond.methodLink RX5 175 yX4_countLyingOf, Cond.instanceMethod yX4_countLyingOf, Cond.selects RX4 yX4_countLyingOf yX4_countLyingOf, Cond.code yX4_countLyingOf cX4_countLyingOf 4 (some .int), Cond.methodLink RX4 71 yX4_isLyingOf, Cond.instanceMethod yX4_isLyingOf, Cond.selects RX4 yX4_isLyingOf yX4_isLyingOf, Cond.code yX4_isLyingOf cX4_isLyingOf 3 (some .boolean), Cond.methodLink RX5 178 yX5_countEqual, Cond.static yX5_countEqual, Cond.code yX5_countEqual cX5_countEqual 7 (some .int), Cond.methodLink RX5 188 yX5_oneIf, Cond.methodLink RX5 182 yX1_countOpenWith, Cond.instanceMethod yX1_countOpenWith, Cond.selects RX1 yX1_countOpenWith yX1_countOpenWith, Cond.code yX1_countOpenWith cX1_countOpenWith 4 (some .int), Cond.methodLink RL 84 yX6_commoner, Cond.instanceMethod yX6_commoner, Cond.selects RX6 yX6_commoner yX6_commoner, Cond.code yX6_commoner cX6_commoner 3 (some .int), Cond.methodLink RX6 141 yX6_plotsOf]
def wsL_law_r25 : List Cond := [Cond.instanceMethod yX6_plotsOf, Cond.selects RX6 yX6_plotsOf yX6_plotsOf, Cond.code yX6_plotsOf cX6_plotsOf 5 (some .int), Cond.methodLink RX6 144 yX6_disputesOf, Cond.instanceMethod yX6_disputesOf, Cond.selects RX6 yX6_disputesOf yX6_disputesOf, Cond.code yX6_disputesOf cX6_disputesOf 4 (some .int), Cond.methodLink RL 85 yX5_plot, Cond.instanceMethod yX5_plot, Cond.selects RX5 yX5_plot yX5_plot, Cond.code yX5_plot cX5_plot 3 (some .int), Cond.fieldLink RX5 185 "PeatBanks$Moss" "layers" "[I", Cond.methodLink RL 88 yX6_plot, Cond.instanceMethod yX6_plot, Cond.selects RX6 yX6_plot yX6_plot, Cond.code yX6_plot cX6_plot 3 (some .int), Cond.methodLink RL 89 yX5_row, Cond.instanceMethod yX5_row, Cond.selects RX5 yX5_row yX5_row, Cond.code yX5_row cX5_row 3 (some .int), Cond.fieldLink RX5 192 "PeatBanks$Rows" "plot" "[I", Cond.methodLink RX5 195 yX4_peatsAtHearth, Cond.methodLink RL 92 yX6_row, Cond.instanceMethod yX6_row]
def wsL_law_r26 : List Cond := [Cond.selects RX6 yX6_row yX6_row, Cond.code yX6_row cX6_row 4 (some .int), Cond.methodLink RL 93 yX5_driest, Cond.instanceMethod yX5_driest, Cond.selects RX5 yX5_driest yX5_driest, Cond.code yX5_driest cX5_driest 3 (some .int), Cond.methodLink RX5 198 yX4_driestOf, Cond.instanceMethod yX4_driestOf, Cond.selects RX4 yX4_driestOf yX4_driestOf, Cond.code yX4_driestOf cX4_driestOf 4 (some .int), Cond.methodLink RX4 75 yX4_countDrierThan, Cond.instanceMethod yX4_countDrierThan, Cond.selects RX4 yX4_countDrierThan yX4_countDrierThan, Cond.code yX4_countDrierThan cX4_countDrierThan 5 (some .int), Cond.methodLink RX4 78 yX4_comesBefore, Cond.instanceMethod yX4_comesBefore, Cond.selects RX4 yX4_comesBefore yX4_comesBefore, Cond.code yX4_comesBefore cX4_comesBefore 3 (some .boolean), Cond.methodLink RL 96 yX6_driest, Cond.instanceMethod yX6_driest, Cond.selects RX6 yX6_driest yX6_driest, Cond.code yX6_driest cX6_driest 4 (some .int), Cond.methodLink RX6 147 yX6_ahead, Cond.instanceMethod yX6_ahead]
def wsL_law_r27 : List Cond := [Cond.selects RX6 yX6_ahead yX6_ahead, Cond.code yX6_ahead cX6_ahead 5 (some .int), Cond.methodLink RL 97 yX5_why, Cond.instanceMethod yX5_why, Cond.selects RX5 yX5_why yX5_why, Cond.code yX5_why cX5_why 3 (some .int), Cond.methodLink RL 100 yX6_why, Cond.instanceMethod yX6_why, Cond.selects RX6 yX6_why yX6_why, Cond.code yX6_why cX6_why 3 (some .int), Cond.methodLink RL 101 yX5_dispute, Cond.instanceMethod yX5_dispute, Cond.selects RX5 yX5_dispute yX5_dispute, Cond.code yX5_dispute cX5_dispute 4 (some .int), Cond.fieldLink RX5 201 "PeatBanks$Disputes" "settled" "I", Cond.fieldLink RX5 204 "PeatBanks$Disputes" "cutter" "[I", Cond.fieldLink RX5 207 "PeatBanks$Disputes" "wronged" "[I", Cond.fieldLink RX5 210 "PeatBanks$Disputes" "row" "[I", Cond.fieldLink RX5 213 "PeatBanks$Disputes" "plot" "[I", Cond.methodLink RL 104 yX6_dispute, Cond.instanceMethod yX6_dispute, Cond.selects RX6 yX6_dispute yX6_dispute, Cond.code yX6_dispute cX6_dispute 3 (some .int), Cond.methodLink RL 105 yX5_cart]
def wsL_law_r28 : List Cond := [Cond.instanceMethod yX5_cart, Cond.selects RX5 yX5_cart yX5_cart, Cond.code yX5_cart cX5_cart 2 (some .int), Cond.methodLink RX5 214 yX3_commonerOfCart, Cond.methodLink RL 108 yX6_cart, Cond.instanceMethod yX6_cart, Cond.selects RX6 yX6_cart yX6_cart, Cond.code yX6_cart cX6_cart 2 (some .int), Cond.methodLink RL 109 yX5_would, Cond.instanceMethod yX5_would, Cond.selects RX5 yX5_would yX5_would, Cond.code yX5_would cX5_would 3 (some .int), Cond.methodLink RL 112 yX6_would, Cond.instanceMethod yX6_would, Cond.selects RX6 yX6_would yX6_would, Cond.code yX6_would cX6_would 5 (some .int), Cond.methodLink RL 113 yX5_count, Cond.instanceMethod yX5_count, Cond.selects RX5 yX5_count yX5_count, Cond.code yX5_count cX5_count 2 (some .int), Cond.fieldLink RX5 217 "PeatBanks$Moss" "dayOfYear" "I", Cond.fieldLink RX5 220 "PeatBanks$Moss" "years" "I", Cond.fieldLink RX5 223 "PeatBanks$Rows" "soFar" "I", Cond.fieldLink RX5 232 "PeatBanks$Moss" "rowsHome" "I"]
def wsL_law_r29 : List Cond := [Cond.fieldLink RX5 239 "PeatBanks$Disputes" "soFar" "I", Cond.methodLink RX5 226 yX4_countStacked, Cond.instanceMethod yX4_countStacked, Cond.selects RX4 yX4_countStacked yX4_countStacked, Cond.code yX4_countStacked cX4_countStacked 3 (some .int), Cond.methodLink RX5 229 yX4_countDry, Cond.instanceMethod yX4_countDry, Cond.selects RX4 yX4_countDry yX4_countDry, Cond.code yX4_countDry cX4_countDry 3 (some .int), Cond.methodLink RX4 68 yX4_isDry, Cond.methodLink RX5 235 yX5_sumOf, Cond.static yX5_sumOf, Cond.code yX5_sumOf cX5_sumOf 6 (some .int), Cond.methodLink RL 116 yX6_count, Cond.instanceMethod yX6_count, Cond.selects RX6 yX6_count yX6_count, Cond.code yX6_count cX6_count 2 (some .int), Cond.methodLink RX6 150 yX6_rowsThat, Cond.instanceMethod yX6_rowsThat, Cond.selects RX6 yX6_rowsThat yX6_rowsThat, Cond.code yX6_rowsThat cX6_rowsThat 4 (some .int), Cond.methodLink RX6 153 yX6_allPeats, Cond.instanceMethod yX6_allPeats, Cond.selects RX6 yX6_allPeats yX6_allPeats]
def wsL_law_r30 : List Cond := [Cond.code yX6_allPeats cX6_allPeats 3 (some .int), Cond.methodLink RX6 156 yX6_allLayers, Cond.instanceMethod yX6_allLayers, Cond.selects RX6 yX6_allLayers yX6_allLayers, Cond.code yX6_allLayers cX6_allLayers 3 (some .int)]
def wsL_law : List Cond := (wsL_law_r1 ++ (wsL_law_r2 ++ (wsL_law_r3 ++ (wsL_law_r4 ++ (wsL_law_r5 ++ (wsL_law_r6 ++ (wsL_law_r7 ++ (wsL_law_r8 ++ (wsL_law_r9 ++ (wsL_law_r10 ++ (wsL_law_r11 ++ (wsL_law_r12 ++ (wsL_law_r13 ++ (wsL_law_r14 ++ (wsL_law_r15 ++ (wsL_law_r16 ++ (wsL_law_r17 ++ (wsL_law_r18 ++ (wsL_law_r19 ++ (wsL_law_r20 ++ (wsL_law_r21 ++ (wsL_law_r22 ++ (wsL_law_r23 ++ (wsL_law_r24 ++ (wsL_law_r25 ++ (wsL_law_r26 ++ (wsL_law_r27 ++ (wsL_law_r28 ++ (wsL_law_r29 ++ wsL_law_r30))))))))))))))))))))))))))))) ++ wsX50 ++ wsX60 ++ wsX30 ++ wsX20 ++ wsX00 ++ wsX40 ++ wsX10 ++ ([] : List Cond)
set_option maxRecDepth 20000 in
theorem wsL_law_in : ∀ w ∈ wsL_law, w ∈ lw_tbl := fun w h => (goodIn_p wsL_law [53, 56, 61, 67, 105, 197, 222, 599, 267, 270, 273, 276, 280, 290, 284, 287, 297, 301, 305, 644, 647, 650, 653, 657, 661, 311, 665, 315, 669, 673, 677, 319, 322, 681, 326, 330, 334, 340, 343, 347, 351, 355, 359, 364, 685, 689, 693, 697, 701, 368, 372, 705, 709, 713, 377, 381, 386, 390, 717, 721, 394, 397, 401, 405, 412, 408, 416, 420, 424, 429, 725, 729, 733, 736, 740, 744, 748, 752, 433, 437, 440, 443, 447, 450, 756, 760, 764, 768, 772, 454, 458, 462, 467, 471, 776, 780, 784, 476, 480, 484, 788, 489, 493, 792, 497, 796, 501, 505, 800, 509, 804, 515, 808, 519, 523, 527, 530, 535, 812, 816, 820, 540, 824, 544, 828, 549, 553, 557, 561, 832, 836, 565, 840, 569, 844, 573, 848, 578, 852, 582, 586, 590, 594, 856, 860, 864, 868] (by decide +kernel) (by decide +kernel) w h).1
theorem inlX0 : ∀ w ∈ wsX00, w ∈ wsL_law := fun _ h => List.mem_append_left _ (List.mem_append_left _ (List.mem_append_left _ (List.mem_append_right _ h)))
theorem inX0 : ∀ w ∈ wsX00, w ∈ lw_tbl := fun w h => wsL_law_in w (inlX0 w h)
theorem inlX1 : ∀ w ∈ wsX10, w ∈ wsL_law := fun _ h => List.mem_append_left _ (List.mem_append_right _ h)
theorem inX1 : ∀ w ∈ wsX10, w ∈ lw_tbl := fun w h => wsL_law_in w (inlX1 w h)
theorem inlX2 : ∀ w ∈ wsX20, w ∈ wsL_law := fun _ h => List.mem_append_left _ (List.mem_append_left _ (List.mem_append_left _ (List.mem_append_left _ (List.mem_append_right _ h))))
theorem inX2 : ∀ w ∈ wsX20, w ∈ lw_tbl := fun w h => wsL_law_in w (inlX2 w h)
theorem inlX3 : ∀ w ∈ wsX30, w ∈ wsL_law := fun _ h => List.mem_append_left _ (List.mem_append_left _ (List.mem_append_left _ (List.mem_append_left _ (List.mem_append_left _ (List.mem_append_right _ h)))))
theorem inX3 : ∀ w ∈ wsX30, w ∈ lw_tbl := fun w h => wsL_law_in w (inlX3 w h)
theorem inlX4 : ∀ w ∈ wsX40, w ∈ wsL_law := fun _ h => List.mem_append_left _ (List.mem_append_left _ (List.mem_append_right _ h))
theorem inX4 : ∀ w ∈ wsX40, w ∈ lw_tbl := fun w h => wsL_law_in w (inlX4 w h)
theorem inlX5 : ∀ w ∈ wsX50, w ∈ wsL_law := fun _ h => List.mem_append_left _ (List.mem_append_left _ (List.mem_append_left _ (List.mem_append_left _ (List.mem_append_left _ (List.mem_append_left _ (List.mem_append_left _ (List.mem_append_right _ h)))))))
theorem inX5 : ∀ w ∈ wsX50, w ∈ lw_tbl := fun w h => wsL_law_in w (inlX5 w h)
theorem inlX6 : ∀ w ∈ wsX60, w ∈ wsL_law := fun _ h => List.mem_append_left _ (List.mem_append_left _ (List.mem_append_left _ (List.mem_append_left _ (List.mem_append_left _ (List.mem_append_left _ (List.mem_append_right _ h))))))
theorem inX6 : ∀ w ∈ wsX60, w ∈ lw_tbl := fun w h => wsL_law_in w (inlX6 w h)
theorem inJ9 : ∀ w ∈ wsJ90, w ∈ lw_tbl := by decide +kernel
theorem inJ10 : ∀ w ∈ wsJ100, w ∈ lw_tbl := by decide +kernel
set_option maxRecDepth 20000 in
theorem ggX0_readGroups_X0_isWeatherLetter : GoodIn wsX0_readGroups wsX0_isWeatherLetter := goodIn_r _ [8] (by decide +kernel) (by decide +kernel)
set_option maxRecDepth 20000 in
theorem gX0_readGroups_X0_isWeatherLetter : GoodIn wsX0_readGroups (va_wsS RX0 29 yX0_isWeatherLetter wsX0_isWeatherLetter) := goodIn_app (goodIn_of _ (by decide +kernel)) ggX0_readGroups_X0_isWeatherLetter
set_option maxRecDepth 20000 in
theorem ggX0_readGroups_X0_weatherOf : GoodIn wsX0_readGroups wsX0_weatherOf := goodIn_r _ [11] (by decide +kernel) (by decide +kernel)
set_option maxRecDepth 20000 in
theorem gX0_readGroups_X0_weatherOf : GoodIn wsX0_readGroups (va_wsS RX0 33 yX0_weatherOf wsX0_weatherOf) := goodIn_app (goodIn_of _ (by decide +kernel)) ggX0_readGroups_X0_weatherOf
set_option maxRecDepth 20000 in
theorem ggX0_readGroups_X0_openGroup : GoodIn wsX0_readGroups wsX0_openGroup := goodIn_r _ [15, 1, 16, 4, 20, 21, 22, 23, 24] (by decide +kernel) (by decide +kernel)
set_option maxRecDepth 20000 in
theorem gX0_readGroups_X0_openGroup : GoodIn wsX0_readGroups (wsV RX0 37 RX0 yX0_openGroup wsX0_openGroup) := goodIn_app (goodIn_of _ (by decide +kernel)) ggX0_readGroups_X0_openGroup
set_option maxRecDepth 20000 in
theorem ggX0_readGroups_X0_isDigit : GoodIn wsX0_readGroups wsX0_isDigit := goodIn_r _ [19] (by decide +kernel) (by decide +kernel)
set_option maxRecDepth 20000 in
theorem gX0_readGroups_X0_isDigit : GoodIn wsX0_readGroups (va_wsS RX0 41 yX0_isDigit wsX0_isDigit) := goodIn_app (goodIn_of _ (by decide +kernel)) ggX0_readGroups_X0_isDigit
set_option maxRecDepth 20000 in
theorem ggX1_copyFrom_X5_copyNumbers : GoodIn wsX1_copyFrom wsX5_copyNumbers := goodIn_r _ [9, 10, 11, 12, 13, 14, 15, 16, 17] (by decide +kernel) (by decide +kernel)
set_option maxRecDepth 20000 in
theorem gX1_copyFrom_X5_copyNumbers_n24 : GoodIn wsX1_copyFrom (wsX5_copyNumbers) := ggX1_copyFrom_X5_copyNumbers
set_option maxRecDepth 20000 in
theorem ggX1_countOpenWith_X5_oneIf : GoodIn wsX1_countOpenWith wsX5_oneIf := goodIn_r _ [7] (by decide +kernel) (by decide +kernel)
set_option maxRecDepth 20000 in
theorem gX1_countOpenWith_X5_oneIf_n35 : GoodIn wsX1_countOpenWith (wsX5_oneIf) := ggX1_countOpenWith_X5_oneIf
set_option maxRecDepth 20000 in
theorem ggX2_init_X3_init : GoodIn wsX2_init wsX3_init := goodIn_r _ [13, 14, 2, 3, 15, 16, 17, 18, 19, 20, 21, 22, 23, 24, 25, 26, 27, 28, 29, 30, 31, 32, 33, 34, 35, 36, 37, 38, 39, 40, 41, 42, 43, 44, 45, 46, 47, 48, 49, 50, 51, 52, 53, 54, 55, 56, 57, 58, 59, 60, 61, 62, 63, 69, 70, 71, 72, 73, 74, 75, 76, 77, 78, 79, 80, 81] (by decide +kernel) (by decide +kernel)
set_option maxRecDepth 20000 in
theorem gX2_init_X3_init : GoodIn wsX2_init (wsX3_init) := ggX2_init_X3_init
set_option maxRecDepth 20000 in
theorem ggX2_record_X3_copyFrom : GoodIn wsX2_record wsX3_copyFrom := goodIn_r _ [14, 15, 16, 17, 18, 19, 20, 21, 22, 23, 24, 25, 26, 27, 28, 29, 30, 31, 32, 7, 8, 9, 33, 34, 35, 36, 37, 38, 39, 40, 41, 42, 43, 44, 45, 46, 47, 48, 49, 50, 51, 52, 53, 54, 55, 56, 57, 58, 59, 60, 61, 67, 68, 69, 70, 71, 72, 73, 74, 75, 76, 77, 78, 79, 80, 81, 82, 83, 84, 85, 86, 87, 88, 89, 90, 91, 92, 93] (by decide +kernel) (by decide +kernel)
set_option maxRecDepth 20000 in
theorem gX2_record_X3_copyFrom : GoodIn wsX2_record (wsV RX2 27 RX3 yX3_copyFrom wsX3_copyFrom) := goodIn_app (goodIn_of _ (by decide +kernel)) ggX2_record_X3_copyFrom
set_option maxRecDepth 20000 in
theorem ggX2_takeBack_X3_copyFrom : GoodIn wsX2_takeBack wsX3_copyFrom := goodIn_r _ [10, 11, 12, 13, 14, 15, 16, 17, 18, 19, 20, 21, 22, 23, 24, 25, 26, 27, 28, 29, 30, 31, 32, 33, 34, 35, 36, 37, 38, 39, 40, 41, 42, 43, 44, 45, 46, 47, 48, 49, 50, 51, 52, 53, 54, 55, 56, 57, 58, 59, 60, 66, 67, 68, 69, 70, 71, 72, 73, 74, 75, 76, 77, 78, 79, 80, 81, 82, 83, 84, 85, 86, 87, 88, 89, 90, 91, 92] (by decide +kernel) (by decide +kernel)
set_option maxRecDepth 20000 in
theorem gX2_takeBack_X3_copyFrom : GoodIn wsX2_takeBack (wsV RX2 27 RX3 yX3_copyFrom wsX3_copyFrom) := goodIn_app (goodIn_of _ (by decide +kernel)) ggX2_takeBack_X3_copyFrom
set_option maxRecDepth 20000 in
theorem ggX3_init_X4_init : GoodIn wsX3_init wsX4_init := goodIn_r _ [22, 23, 2, 3, 4, 24, 25, 26, 27, 28, 29, 30, 53, 54, 55, 56, 57, 58, 59] (by decide +kernel) (by decide +kernel)
set_option maxRecDepth 20000 in
theorem gX3_init_X4_init : GoodIn wsX3_init (wsX4_init) := ggX3_init_X4_init
set_option maxRecDepth 20000 in
theorem ggX3_init_X1_init : GoodIn wsX3_init wsX1_init := goodIn_r _ [33, 34, 2, 3, 4, 35, 36, 37, 38, 60, 61, 62, 63, 64, 65] (by decide +kernel) (by decide +kernel)
set_option maxRecDepth 20000 in
theorem gX3_init_X1_init : GoodIn wsX3_init (wsX1_init) := ggX3_init_X1_init
set_option maxRecDepth 20000 in
theorem ggX3_copyFrom_X5_copyNumbers : GoodIn wsX3_copyFrom wsX5_copyNumbers := goodIn_r _ [17, 18, 19, 20, 21, 22, 23, 24, 25] (by decide +kernel) (by decide +kernel)
set_option maxRecDepth 20000 in
theorem gX3_copyFrom_X5_copyNumbers_n48 : GoodIn wsX3_copyFrom (wsX5_copyNumbers) := ggX3_copyFrom_X5_copyNumbers
set_option maxRecDepth 20000 in
theorem ggX3_copyFrom_X4_copyFrom : GoodIn wsX3_copyFrom wsX4_copyFrom := goodIn_r _ [30, 31, 32, 33, 34, 35, 36, 37, 15, 16, 17, 18, 19, 20, 21, 22, 23, 24, 25, 38, 39, 65, 66, 67, 68, 69, 70, 71] (by decide +kernel) (by decide +kernel)
set_option maxRecDepth 20000 in
theorem gX3_copyFrom_X4_copyFrom : GoodIn wsX3_copyFrom (wsV RX3 52 RX4 yX4_copyFrom wsX4_copyFrom) := goodIn_app (goodIn_of _ (by decide +kernel)) ggX3_copyFrom_X4_copyFrom
set_option maxRecDepth 20000 in
theorem ggX3_copyFrom_X1_copyFrom : GoodIn wsX3_copyFrom wsX1_copyFrom := goodIn_r _ [44, 45, 46, 47, 48, 49, 50, 15, 16, 17, 18, 19, 20, 21, 22, 23, 24, 25, 72, 73, 74, 75, 76, 77] (by decide +kernel) (by decide +kernel)
set_option maxRecDepth 20000 in
theorem gX3_copyFrom_X1_copyFrom : GoodIn wsX3_copyFrom (wsV RX3 56 RX1 yX1_copyFrom wsX1_copyFrom) := goodIn_app (goodIn_of _ (by decide +kernel)) ggX3_copyFrom_X1_copyFrom
set_option maxRecDepth 20000 in
theorem ggX3_reasonAgainst_X3_hasDayLeft : GoodIn wsX3_reasonAgainst wsX3_hasDayLeft := goodIn_r _ [7, 8, 9, 10, 11, 12, 13, 14, 15, 32, 33, 34, 35, 36, 37, 38, 39, 40, 41, 42, 43, 44, 45] (by decide +kernel) (by decide +kernel)
set_option maxRecDepth 20000 in
theorem gX3_reasonAgainst_X3_hasDayLeft : GoodIn wsX3_reasonAgainst (wsV RX3 74 RX3 yX3_hasDayLeft wsX3_hasDayLeft) := goodIn_app (goodIn_of _ (by decide +kernel)) ggX3_reasonAgainst_X3_hasDayLeft
set_option maxRecDepth 20000 in
theorem ggX3_reasonAgainst_X5_isPlot : GoodIn wsX3_reasonAgainst wsX5_isPlot := goodIn_r _ [17, 13, 14, 11, 15] (by decide +kernel) (by decide +kernel)
set_option maxRecDepth 20000 in
theorem gX3_reasonAgainst_X5_isPlot_n78 : GoodIn wsX3_reasonAgainst (wsX5_isPlot) := ggX3_reasonAgainst_X5_isPlot
set_option maxRecDepth 20000 in
theorem ggX3_reasonAgainst_X4_countLying : GoodIn wsX3_reasonAgainst wsX4_countLying := goodIn_r _ [22, 23, 24, 25, 11, 26, 46, 47, 48, 49, 50, 51, 52] (by decide +kernel) (by decide +kernel)
set_option maxRecDepth 20000 in
theorem gX3_reasonAgainst_X4_countLying : GoodIn wsX3_reasonAgainst (wsV RX3 81 RX4 yX4_countLying wsX4_countLying) := goodIn_app (goodIn_of _ (by decide +kernel)) ggX3_reasonAgainst_X4_countLying
set_option maxRecDepth 20000 in
theorem ggX3_reasonAgainst_X3_hasRight : GoodIn wsX3_reasonAgainst wsX3_hasRight := goodIn_r _ [30, 31, 16, 11, 17, 13, 14, 15, 32, 33, 34, 35, 36, 37, 38, 39, 40, 41, 42, 43, 44, 45] (by decide +kernel) (by decide +kernel)
set_option maxRecDepth 20000 in
theorem gX3_reasonAgainst_X3_hasRight : GoodIn wsX3_reasonAgainst (wsV RX3 85 RX3 yX3_hasRight wsX3_hasRight) := goodIn_app (goodIn_of _ (by decide +kernel)) ggX3_reasonAgainst_X3_hasRight
set_option maxRecDepth 20000 in
theorem ggX3_hasDayLeft_X5_isCommoner : GoodIn wsX3_hasDayLeft wsX5_isCommoner := goodIn_r _ [5, 6, 7, 4, 8] (by decide +kernel) (by decide +kernel)
set_option maxRecDepth 20000 in
theorem gX3_hasDayLeft_X5_isCommoner_n89 : GoodIn wsX3_hasDayLeft (wsX5_isCommoner) := ggX3_hasDayLeft_X5_isCommoner
set_option maxRecDepth 20000 in
theorem ggX3_hasRight_X5_isPlot : GoodIn wsX3_hasRight wsX5_isPlot := goodIn_r _ [4, 5, 6, 3, 7] (by decide +kernel) (by decide +kernel)
set_option maxRecDepth 20000 in
theorem gX3_hasRight_X5_isPlot_n78 : GoodIn wsX3_hasRight (wsX5_isPlot) := ggX3_hasRight_X5_isPlot
set_option maxRecDepth 20000 in
theorem ggX3_takeLayer_X5_isCommoner : GoodIn wsX3_takeLayer wsX5_isCommoner := goodIn_r _ [8, 9, 10, 7, 11] (by decide +kernel) (by decide +kernel)
set_option maxRecDepth 20000 in
theorem gX3_takeLayer_X5_isCommoner_n89 : GoodIn wsX3_takeLayer (wsX5_isCommoner) := ggX3_takeLayer_X5_isCommoner
set_option maxRecDepth 20000 in
theorem ggX3_takeLayer_X5_isPlot : GoodIn wsX3_takeLayer wsX5_isPlot := goodIn_r _ [13, 9, 10, 7, 11] (by decide +kernel) (by decide +kernel)
set_option maxRecDepth 20000 in
theorem gX3_takeLayer_X5_isPlot_n78 : GoodIn wsX3_takeLayer (wsX5_isPlot) := ggX3_takeLayer_X5_isPlot
set_option maxRecDepth 20000 in
theorem ggX3_takeLayer_X4_lay : GoodIn wsX3_takeLayer wsX4_lay := goodIn_r _ [18, 19, 20, 21, 22, 23, 24, 25, 26, 27, 28, 17, 29, 54, 55, 56, 57, 58, 59, 60] (by decide +kernel) (by decide +kernel)
set_option maxRecDepth 20000 in
theorem gX3_takeLayer_X4_lay : GoodIn wsX3_takeLayer (wsV RX3 92 RX4 yX4_lay wsX4_lay) := goodIn_app (goodIn_of _ (by decide +kernel)) ggX3_takeLayer_X4_lay
set_option maxRecDepth 20000 in
theorem ggX3_takeLayer_X1_open : GoodIn wsX3_takeLayer wsX1_open := goodIn_r _ [34, 35, 36, 37, 38, 39, 61, 62, 63, 64, 65, 66] (by decide +kernel) (by decide +kernel)
set_option maxRecDepth 20000 in
theorem gX3_takeLayer_X1_open : GoodIn wsX3_takeLayer (wsV RX3 96 RX1 yX1_open wsX1_open) := goodIn_app (goodIn_of _ (by decide +kernel)) ggX3_takeLayer_X1_open
set_option maxRecDepth 20000 in
theorem ggX3_passDays_X4_dryOrWet : GoodIn wsX3_passDays wsX4_dryOrWet := goodIn_r _ [9, 10, 11, 12, 13, 14, 15, 16, 17, 18, 19, 20, 21, 22, 23, 8, 24, 71, 72, 73, 74, 75, 76, 77] (by decide +kernel) (by decide +kernel)
set_option maxRecDepth 20000 in
theorem gX3_passDays_X4_dryOrWet : GoodIn wsX3_passDays (wsV RX3 100 RX4 yX4_dryOrWet wsX4_dryOrWet) := goodIn_app (goodIn_of _ (by decide +kernel)) ggX3_passDays_X4_dryOrWet
set_option maxRecDepth 20000 in
theorem ggX3_passDays_X3_commonerOfCart : GoodIn wsX3_passDays wsX3_commonerOfCart := goodIn_r _ [29, 3, 57, 58, 59, 60, 61, 62, 63, 64, 65, 66, 67, 68, 69, 70] (by decide +kernel) (by decide +kernel)
set_option maxRecDepth 20000 in
theorem gX3_passDays_X3_commonerOfCart : GoodIn wsX3_passDays (wsV RX3 104 RX3 yX3_commonerOfCart wsX3_commonerOfCart) := goodIn_app (goodIn_of _ (by decide +kernel)) ggX3_passDays_X3_commonerOfCart
set_option maxRecDepth 20000 in
theorem ggX3_passDays_X3_serve : GoodIn wsX3_passDays wsX3_serve := goodIn_r _ [33, 34, 2, 35, 36, 1, 37, 38, 39, 8, 40, 10, 11, 12, 41, 13, 42, 43, 44, 45, 46, 47, 48, 49, 50, 51, 52, 53, 54, 55, 19, 20, 17, 21, 56, 57, 58, 59, 60, 61, 62, 63, 64, 65, 66, 67, 68, 69, 70, 71, 72, 73, 74, 75, 76, 77] (by decide +kernel) (by decide +kernel)
set_option maxRecDepth 20000 in
theorem gX3_passDays_X3_serve : GoodIn wsX3_passDays (wsV RX3 108 RX3 yX3_serve wsX3_serve) := goodIn_app (goodIn_of _ (by decide +kernel)) ggX3_passDays_X3_serve
set_option maxRecDepth 20000 in
theorem ggX3_serve_X4_driestStackedOf : GoodIn wsX3_serve wsX4_driestStackedOf := goodIn_r _ [10, 11, 12, 13, 14, 15, 49, 50, 51, 52, 53, 54, 55] (by decide +kernel) (by decide +kernel)
set_option maxRecDepth 20000 in
theorem gX3_serve_X4_driestStackedOf : GoodIn wsX3_serve (wsV RX3 111 RX4 yX4_driestStackedOf wsX4_driestStackedOf) := goodIn_app (goodIn_of _ (by decide +kernel)) ggX3_serve_X4_driestStackedOf
set_option maxRecDepth 20000 in
theorem ggX3_serve_X5_isCommoner : GoodIn wsX3_serve wsX5_isCommoner := goodIn_r _ [18, 19, 20, 17, 21] (by decide +kernel) (by decide +kernel)
set_option maxRecDepth 20000 in
theorem gX3_serve_X5_isCommoner_n89 : GoodIn wsX3_serve (wsX5_isCommoner) := ggX3_serve_X5_isCommoner
set_option maxRecDepth 20000 in
theorem ggX3_serve_X4_isLying : GoodIn wsX3_serve wsX4_isLying := goodIn_r _ [25, 11, 12, 20, 17, 21, 49, 50, 51, 52, 53, 54, 55] (by decide +kernel) (by decide +kernel)
set_option maxRecDepth 20000 in
theorem gX3_serve_X4_isLying : GoodIn wsX3_serve (wsV RX3 114 RX4 yX4_isLying wsX4_isLying) := goodIn_app (goodIn_of _ (by decide +kernel)) ggX3_serve_X4_isLying
set_option maxRecDepth 20000 in
theorem ggX3_serve_X4_peatsAtHearth : GoodIn wsX3_serve wsX4_peatsAtHearth := goodIn_r _ [29, 15, 30, 31, 32, 33, 34, 23, 24, 9, 25, 11, 12, 20, 17, 21, 49, 50, 51, 52, 53, 54, 55] (by decide +kernel) (by decide +kernel)
set_option maxRecDepth 20000 in
theorem gX3_serve_X4_peatsAtHearth : GoodIn wsX3_serve (wsV RX3 117 RX4 yX4_peatsAtHearth wsX4_peatsAtHearth) := goodIn_app (goodIn_of _ (by decide +kernel)) ggX3_serve_X4_peatsAtHearth
set_option maxRecDepth 20000 in
theorem ggX3_settleOldest_X1_countOpen : GoodIn wsX3_settleOldest wsX1_countOpen := goodIn_r _ [13, 14, 15, 63, 64, 65, 66, 67, 68] (by decide +kernel) (by decide +kernel)
set_option maxRecDepth 20000 in
theorem gX3_settleOldest_X1_countOpen : GoodIn wsX3_settleOldest (wsV RX3 124 RX1 yX1_countOpen wsX1_countOpen) := goodIn_app (goodIn_of _ (by decide +kernel)) ggX3_settleOldest_X1_countOpen
set_option maxRecDepth 20000 in
theorem ggX3_settleOldest_X3_useDayIfLeft : GoodIn wsX3_settleOldest wsX3_useDayIfLeft := goodIn_r _ [20, 21, 22, 23, 24, 19, 25, 26, 27, 28, 29, 30, 31, 32, 49, 50, 51, 52, 53, 54, 55, 56, 57, 58, 59, 60, 61, 62] (by decide +kernel) (by decide +kernel)
set_option maxRecDepth 20000 in
theorem gX3_settleOldest_X3_useDayIfLeft : GoodIn wsX3_settleOldest (wsV RX3 133 RX3 yX3_useDayIfLeft wsX3_useDayIfLeft) := goodIn_app (goodIn_of _ (by decide +kernel)) ggX3_settleOldest_X3_useDayIfLeft
set_option maxRecDepth 20000 in
theorem ggX3_settleOldest_X4_isLying : GoodIn wsX3_settleOldest wsX4_isLying := goodIn_r _ [37, 38, 39, 31, 28, 32, 69, 70, 71, 72, 73, 74, 75] (by decide +kernel) (by decide +kernel)
set_option maxRecDepth 20000 in
theorem gX3_settleOldest_X4_isLying : GoodIn wsX3_settleOldest (wsV RX3 114 RX4 yX4_isLying wsX4_isLying) := goodIn_app (goodIn_of _ (by decide +kernel)) ggX3_settleOldest_X4_isLying
set_option maxRecDepth 20000 in
theorem ggX3_settleOldest_X3_givePeats : GoodIn wsX3_settleOldest wsX3_givePeats := goodIn_r _ [43, 44, 45, 46, 47, 48, 27, 28, 29, 30, 31, 32, 49, 50, 51, 52, 53, 54, 55, 56, 57, 58, 59, 60, 61, 62] (by decide +kernel) (by decide +kernel)
set_option maxRecDepth 20000 in
theorem gX3_settleOldest_X3_givePeats : GoodIn wsX3_settleOldest (wsV RX3 145 RX3 yX3_givePeats wsX3_givePeats) := goodIn_app (goodIn_of _ (by decide +kernel)) ggX3_settleOldest_X3_givePeats
set_option maxRecDepth 20000 in
theorem ggX3_useDayIfLeft_X3_hasDayLeft : GoodIn wsX3_useDayIfLeft wsX3_hasDayLeft := goodIn_r _ [6, 1, 7, 8, 9, 10, 11, 12, 13, 14, 15, 16, 17, 18, 19, 20, 21, 22, 23, 24, 25, 26, 27] (by decide +kernel) (by decide +kernel)
set_option maxRecDepth 20000 in
theorem gX3_useDayIfLeft_X3_hasDayLeft : GoodIn wsX3_useDayIfLeft (wsV RX3 74 RX3 yX3_hasDayLeft wsX3_hasDayLeft) := goodIn_app (goodIn_of _ (by decide +kernel)) ggX3_useDayIfLeft_X3_hasDayLeft
set_option maxRecDepth 20000 in
theorem ggX3_givePeats_X5_isCommoner : GoodIn wsX3_givePeats wsX5_isCommoner := goodIn_r _ [8, 9, 10, 7, 11] (by decide +kernel) (by decide +kernel)
set_option maxRecDepth 20000 in
theorem gX3_givePeats_X5_isCommoner_n89 : GoodIn wsX3_givePeats (wsX5_isCommoner) := ggX3_givePeats_X5_isCommoner
set_option maxRecDepth 20000 in
theorem ggX3_closeYear_X4_loseAll : GoodIn wsX3_closeYear wsX4_loseAll := goodIn_r _ [14, 15, 16, 17, 18, 19, 13, 20, 21, 22, 23, 54, 55, 56, 57, 58, 59, 60] (by decide +kernel) (by decide +kernel)
set_option maxRecDepth 20000 in
theorem gX3_closeYear_X4_loseAll : GoodIn wsX3_closeYear (wsV RX3 154 RX4 yX4_loseAll wsX4_loseAll) := goodIn_app (goodIn_of _ (by decide +kernel)) ggX3_closeYear_X4_loseAll
set_option maxRecDepth 20000 in
theorem ggX3_closeYear_X5_copyNumbers : GoodIn wsX3_closeYear wsX5_copyNumbers := goodIn_r _ [25, 26, 27, 28, 29, 30, 31, 32, 33] (by decide +kernel) (by decide +kernel)
set_option maxRecDepth 20000 in
theorem gX3_closeYear_X5_copyNumbers_n48 : GoodIn wsX3_closeYear (wsX5_copyNumbers) := ggX3_closeYear_X5_copyNumbers
set_option maxRecDepth 20000 in
theorem ggX4_copyFrom_X5_copyNumbers : GoodIn wsX4_copyFrom wsX5_copyNumbers := goodIn_r _ [10, 11, 12, 13, 14, 15, 16, 17, 18] (by decide +kernel) (by decide +kernel)
set_option maxRecDepth 20000 in
theorem gX4_copyFrom_X5_copyNumbers_n31 : GoodIn wsX4_copyFrom (wsX5_copyNumbers) := ggX4_copyFrom_X5_copyNumbers
set_option maxRecDepth 20000 in
theorem ggX4_copyFrom_X5_copyFlags : GoodIn wsX4_copyFrom wsX5_copyFlags := goodIn_r _ [20, 11, 12, 13, 14, 15, 16, 17, 18] (by decide +kernel) (by decide +kernel)
set_option maxRecDepth 20000 in
theorem gX4_copyFrom_X5_copyFlags_n35 : GoodIn wsX4_copyFrom (wsX5_copyFlags) := ggX4_copyFrom_X5_copyFlags
set_option maxRecDepth 20000 in
theorem ggX4_lay_X4_hasNumberLeft : GoodIn wsX4_lay wsX4_hasNumberLeft := goodIn_r _ [12, 1, 13, 14, 15, 16, 17, 18, 19] (by decide +kernel) (by decide +kernel)
set_option maxRecDepth 20000 in
theorem gX4_lay_X4_hasNumberLeft : GoodIn wsX4_lay (wsV RX4 43 RX4 yX4_hasNumberLeft wsX4_hasNumberLeft) := goodIn_app (goodIn_of _ (by decide +kernel)) ggX4_lay_X4_hasNumberLeft
set_option maxRecDepth 20000 in
theorem ggX4_isLying_X5_isWithin : GoodIn wsX4_isLying wsX5_isWithin := goodIn_r _ [5] (by decide +kernel) (by decide +kernel)
set_option maxRecDepth 20000 in
theorem gX4_isLying_X5_isWithin_n47 : GoodIn wsX4_isLying (wsX5_isWithin) := ggX4_isLying_X5_isWithin
set_option maxRecDepth 20000 in
theorem ggX4_isLyingOf_X4_isLying : GoodIn wsX4_isLyingOf wsX4_isLying := goodIn_r _ [6, 7, 8, 9, 10, 11, 12, 13, 14, 15, 16, 17, 18] (by decide +kernel) (by decide +kernel)
set_option maxRecDepth 20000 in
theorem gX4_isLyingOf_X4_isLying : GoodIn wsX4_isLyingOf (wsV RX4 51 RX4 yX4_isLying wsX4_isLying) := goodIn_app (goodIn_of _ (by decide +kernel)) ggX4_isLyingOf_X4_isLying
set_option maxRecDepth 20000 in
theorem ggX4_isStacked_X4_isLying : GoodIn wsX4_isStacked wsX4_isLying := goodIn_r _ [6, 7, 8, 9, 10, 11, 12, 13, 14, 15, 16, 17, 18] (by decide +kernel) (by decide +kernel)
set_option maxRecDepth 20000 in
theorem gX4_isStacked_X4_isLying : GoodIn wsX4_isStacked (wsV RX4 51 RX4 yX4_isLying wsX4_isLying) := goodIn_app (goodIn_of _ (by decide +kernel)) ggX4_isStacked_X4_isLying
set_option maxRecDepth 20000 in
theorem ggX4_isDry_X4_isLying : GoodIn wsX4_isDry wsX4_isLying := goodIn_r _ [6, 7, 8, 9, 10, 11, 12, 13, 14, 15, 16, 17, 18] (by decide +kernel) (by decide +kernel)
set_option maxRecDepth 20000 in
theorem gX4_isDry_X4_isLying : GoodIn wsX4_isDry (wsV RX4 51 RX4 yX4_isLying wsX4_isLying) := goodIn_app (goodIn_of _ (by decide +kernel)) ggX4_isDry_X4_isLying
set_option maxRecDepth 20000 in
theorem ggX4_peatsAtHearth_X4_isLying : GoodIn wsX4_peatsAtHearth wsX4_isLying := goodIn_r _ [10, 11, 12, 13, 14, 15, 16, 17, 18, 19, 20, 21, 22] (by decide +kernel) (by decide +kernel)
set_option maxRecDepth 20000 in
theorem gX4_peatsAtHearth_X4_isLying : GoodIn wsX4_peatsAtHearth (wsV RX4 51 RX4 yX4_isLying wsX4_isLying) := goodIn_app (goodIn_of _ (by decide +kernel)) ggX4_peatsAtHearth_X4_isLying
set_option maxRecDepth 20000 in
theorem ggX4_countLying_X5_oneIf : GoodIn wsX4_countLying wsX5_oneIf := goodIn_r _ [5] (by decide +kernel) (by decide +kernel)
set_option maxRecDepth 20000 in
theorem gX4_countLying_X5_oneIf_n61 : GoodIn wsX4_countLying (wsX5_oneIf) := ggX4_countLying_X5_oneIf
set_option maxRecDepth 20000 in
theorem ggX4_countStacked_X4_isStacked : GoodIn wsX4_countStacked wsX4_isStacked := goodIn_r _ [6, 7, 8, 9, 10, 5, 11, 1, 12, 13, 14, 15, 18, 19, 20, 21, 22, 23, 24] (by decide +kernel) (by decide +kernel)
set_option maxRecDepth 20000 in
theorem gX4_countStacked_X4_isStacked : GoodIn wsX4_countStacked (wsV RX4 65 RX4 yX4_isStacked wsX4_isStacked) := goodIn_app (goodIn_of _ (by decide +kernel)) ggX4_countStacked_X4_isStacked
set_option maxRecDepth 20000 in
theorem ggX4_countStacked_X5_oneIf : GoodIn wsX4_countStacked wsX5_oneIf := goodIn_r _ [17] (by decide +kernel) (by decide +kernel)
set_option maxRecDepth 20000 in
theorem gX4_countStacked_X5_oneIf_n61 : GoodIn wsX4_countStacked (wsX5_oneIf) := ggX4_countStacked_X5_oneIf
set_option maxRecDepth 20000 in
theorem ggX4_countDry_X4_isDry : GoodIn wsX4_countDry wsX4_isDry := goodIn_r _ [6, 7, 8, 9, 10, 5, 11, 1, 12, 13, 14, 15, 18, 19, 20, 21, 22, 23, 24] (by decide +kernel) (by decide +kernel)
set_option maxRecDepth 20000 in
theorem gX4_countDry_X4_isDry : GoodIn wsX4_countDry (wsV RX4 68 RX4 yX4_isDry wsX4_isDry) := goodIn_app (goodIn_of _ (by decide +kernel)) ggX4_countDry_X4_isDry
set_option maxRecDepth 20000 in
theorem ggX4_countDry_X5_oneIf : GoodIn wsX4_countDry wsX5_oneIf := goodIn_r _ [17] (by decide +kernel) (by decide +kernel)
set_option maxRecDepth 20000 in
theorem gX4_countDry_X5_oneIf_n61 : GoodIn wsX4_countDry (wsX5_oneIf) := ggX4_countDry_X5_oneIf
set_option maxRecDepth 20000 in
theorem ggX4_countLyingOf_X4_isLyingOf : GoodIn wsX4_countLyingOf wsX4_isLyingOf := goodIn_r _ [6, 7, 8, 9, 10, 5, 11, 1, 12, 13, 14, 15, 18, 19, 20, 21, 22, 23, 24] (by decide +kernel) (by decide +kernel)
set_option maxRecDepth 20000 in
theorem gX4_countLyingOf_X4_isLyingOf : GoodIn wsX4_countLyingOf (wsV RX4 71 RX4 yX4_isLyingOf wsX4_isLyingOf) := goodIn_app (goodIn_of _ (by decide +kernel)) ggX4_countLyingOf_X4_isLyingOf
set_option maxRecDepth 20000 in
theorem ggX4_countLyingOf_X5_oneIf : GoodIn wsX4_countLyingOf wsX5_oneIf := goodIn_r _ [17] (by decide +kernel) (by decide +kernel)
set_option maxRecDepth 20000 in
theorem gX4_countLyingOf_X5_oneIf_n61 : GoodIn wsX4_countLyingOf (wsX5_oneIf) := ggX4_countLyingOf_X5_oneIf
set_option maxRecDepth 20000 in
theorem ggX4_countStackedOf_X4_isStacked : GoodIn wsX4_countStackedOf wsX4_isStacked := goodIn_r _ [7, 8, 9, 10, 11, 6, 12, 1, 13, 14, 15, 16, 19, 20, 21, 22, 23, 24, 25] (by decide +kernel) (by decide +kernel)
set_option maxRecDepth 20000 in
theorem gX4_countStackedOf_X4_isStacked : GoodIn wsX4_countStackedOf (wsV RX4 65 RX4 yX4_isStacked wsX4_isStacked) := goodIn_app (goodIn_of _ (by decide +kernel)) ggX4_countStackedOf_X4_isStacked
set_option maxRecDepth 20000 in
theorem ggX4_countStackedOf_X5_oneIf : GoodIn wsX4_countStackedOf wsX5_oneIf := goodIn_r _ [18] (by decide +kernel) (by decide +kernel)
set_option maxRecDepth 20000 in
theorem gX4_countStackedOf_X5_oneIf_n61 : GoodIn wsX4_countStackedOf (wsX5_oneIf) := ggX4_countStackedOf_X5_oneIf
set_option maxRecDepth 20000 in
theorem ggX4_driestOf_X4_isLyingOf : GoodIn wsX4_driestOf wsX4_isLyingOf := goodIn_r _ [6, 7, 8, 9, 10, 5, 11, 1, 12, 13, 14, 15, 27, 28, 29, 30, 31, 32, 33] (by decide +kernel) (by decide +kernel)
set_option maxRecDepth 20000 in
theorem gX4_driestOf_X4_isLyingOf : GoodIn wsX4_driestOf (wsV RX4 71 RX4 yX4_isLyingOf wsX4_isLyingOf) := goodIn_app (goodIn_of _ (by decide +kernel)) ggX4_driestOf_X4_isLyingOf
set_option maxRecDepth 20000 in
theorem ggX4_driestOf_X4_countDrierThan : GoodIn wsX4_driestOf wsX4_countDrierThan := goodIn_r _ [19, 1, 2, 3, 4, 5, 6, 7, 8, 9, 10, 11, 12, 13, 14, 15, 20, 21, 22, 23, 24, 25, 26, 27, 28, 29, 30, 31, 32, 33] (by decide +kernel) (by decide +kernel)
set_option maxRecDepth 20000 in
theorem gX4_driestOf_X4_countDrierThan : GoodIn wsX4_driestOf (wsV RX4 75 RX4 yX4_countDrierThan wsX4_countDrierThan) := goodIn_app (goodIn_of _ (by decide +kernel)) ggX4_driestOf_X4_countDrierThan
set_option maxRecDepth 20000 in
theorem ggX4_countDrierThan_X4_isLyingOf : GoodIn wsX4_countDrierThan wsX4_isLyingOf := goodIn_r _ [6, 7, 8, 9, 10, 5, 11, 1, 12, 13, 14, 15, 23, 24, 25, 26, 27, 28, 29] (by decide +kernel) (by decide +kernel)
set_option maxRecDepth 20000 in
theorem gX4_countDrierThan_X4_isLyingOf : GoodIn wsX4_countDrierThan (wsV RX4 71 RX4 yX4_isLyingOf wsX4_isLyingOf) := goodIn_app (goodIn_of _ (by decide +kernel)) ggX4_countDrierThan_X4_isLyingOf
set_option maxRecDepth 20000 in
theorem ggX4_countDrierThan_X4_comesBefore : GoodIn wsX4_countDrierThan wsX4_comesBefore := goodIn_r _ [19, 20, 23, 24, 25, 26, 27, 28, 29] (by decide +kernel) (by decide +kernel)
set_option maxRecDepth 20000 in
theorem gX4_countDrierThan_X4_comesBefore : GoodIn wsX4_countDrierThan (wsV RX4 78 RX4 yX4_comesBefore wsX4_comesBefore) := goodIn_app (goodIn_of _ (by decide +kernel)) ggX4_countDrierThan_X4_comesBefore
set_option maxRecDepth 20000 in
theorem ggX4_countDrierThan_X5_oneIf : GoodIn wsX4_countDrierThan wsX5_oneIf := goodIn_r _ [22] (by decide +kernel) (by decide +kernel)
set_option maxRecDepth 20000 in
theorem gX4_countDrierThan_X5_oneIf_n61 : GoodIn wsX4_countDrierThan (wsX5_oneIf) := ggX4_countDrierThan_X5_oneIf
set_option maxRecDepth 20000 in
theorem ggX4_dryOrWet_X4_changeBy : GoodIn wsX4_dryOrWet wsX4_changeBy := goodIn_r _ [16] (by decide +kernel) (by decide +kernel)
set_option maxRecDepth 20000 in
theorem gX4_dryOrWet_X4_changeBy : GoodIn wsX4_dryOrWet (va_wsS RX4 81 yX4_changeBy wsX4_changeBy) := goodIn_app (goodIn_of _ (by decide +kernel)) ggX4_dryOrWet_X4_changeBy
set_option maxRecDepth 20000 in
theorem ggX4_loseAll_X4_countLying : GoodIn wsX4_loseAll wsX4_countLying := goodIn_r _ [7, 1, 2, 8, 9, 10, 11, 12, 13, 14, 15, 16, 17] (by decide +kernel) (by decide +kernel)
set_option maxRecDepth 20000 in
theorem gX4_loseAll_X4_countLying : GoodIn wsX4_loseAll (wsV RX4 88 RX4 yX4_countLying wsX4_countLying) := goodIn_app (goodIn_of _ (by decide +kernel)) ggX4_loseAll_X4_countLying
set_option maxRecDepth 20000 in
theorem ggX5_init_X3_init : GoodIn wsX5_init wsX3_init := goodIn_r _ [21, 22, 2, 3, 23, 24, 25, 26, 27, 28, 29, 30, 31, 32, 33, 34, 35, 36, 37, 38, 39, 40, 41, 42, 43, 44, 45, 46, 47, 48, 49, 50, 51, 52, 53, 54, 55, 56, 57, 76, 77, 78, 79, 80, 81, 82, 83, 84, 85, 86, 87, 88, 89, 106, 107, 108, 109, 110, 111, 112, 113, 114, 115, 116, 117, 118] (by decide +kernel) (by decide +kernel)
set_option maxRecDepth 20000 in
theorem gX5_init_X3_init : GoodIn wsX5_init (wsX3_init) := ggX5_init_X3_init
set_option maxRecDepth 20000 in
theorem ggX5_init_X2_init : GoodIn wsX5_init wsX2_init := goodIn_r _ [60, 61, 2, 3, 62, 5, 6, 63, 64, 65, 66, 67, 20, 21, 22, 23, 24, 25, 26, 27, 28, 29, 30, 31, 32, 33, 34, 35, 36, 37, 38, 39, 40, 41, 42, 43, 44, 45, 46, 47, 48, 49, 50, 51, 52, 53, 54, 55, 56, 57, 76, 77, 78, 79, 80, 81, 82, 83, 84, 85, 86, 87, 88, 89, 96, 97, 98, 99, 100, 106, 107, 108, 109, 110, 111, 112, 113, 114, 115, 116, 117, 118] (by decide +kernel) (by decide +kernel)
set_option maxRecDepth 20000 in
theorem gX5_init_X2_init : GoodIn wsX5_init (wsX2_init) := ggX5_init_X2_init
set_option maxRecDepth 20000 in
theorem ggX5_init_X0_init : GoodIn wsX5_init wsX0_init := goodIn_r _ [70, 71, 2, 3, 72, 73, 23, 74, 75, 101, 102, 103, 104, 105] (by decide +kernel) (by decide +kernel)
set_option maxRecDepth 20000 in
theorem gX5_init_X0_init : GoodIn wsX5_init (wsX0_init) := ggX5_init_X0_init
set_option maxRecDepth 20000 in
theorem ggX5_lend_X5_isPlot : GoodIn wsX5_lend wsX5_isPlot := goodIn_r _ [7, 8, 9, 6, 10] (by decide +kernel) (by decide +kernel)
set_option maxRecDepth 20000 in
theorem gX5_lend_X5_isPlot : GoodIn wsX5_lend (va_wsS RX5 40 yX5_isPlot wsX5_isPlot) := goodIn_app (goodIn_of _ (by decide +kernel)) ggX5_lend_X5_isPlot
set_option maxRecDepth 20000 in
theorem ggX5_lend_X5_isCommoner : GoodIn wsX5_lend wsX5_isCommoner := goodIn_r _ [13, 8, 9, 6, 10] (by decide +kernel) (by decide +kernel)
set_option maxRecDepth 20000 in
theorem gX5_lend_X5_isCommoner : GoodIn wsX5_lend (va_wsS RX5 44 yX5_isCommoner wsX5_isCommoner) := goodIn_app (goodIn_of _ (by decide +kernel)) ggX5_lend_X5_isCommoner
set_option maxRecDepth 20000 in
theorem ggX5_lend_X2_record : GoodIn wsX5_lend wsX2_record := goodIn_r _ [18, 19, 20, 21, 22, 23, 24, 25, 26, 27, 28, 29, 30, 31, 32, 33, 34, 35, 36, 37, 38, 39, 40, 41, 42, 43, 44, 45, 46, 47, 6, 48, 49, 50, 51, 52, 53, 54, 55, 56, 57, 58, 59, 60, 61, 62, 63, 64, 65, 66, 67, 68, 69, 70, 71, 72, 73, 74, 75, 76, 77, 78, 99, 100, 101, 102, 103, 85, 86, 87, 88, 89, 90, 91, 92, 93, 94, 95, 96, 97, 98, 104, 105, 106, 107, 108, 109, 110, 111, 112, 113, 114, 115, 116] (by decide +kernel) (by decide +kernel)
set_option maxRecDepth 20000 in
theorem gX5_lend_X2_record : GoodIn wsX5_lend (wsV RX5 51 RX2 yX2_record wsX2_record) := goodIn_app (goodIn_of _ (by decide +kernel)) ggX5_lend_X2_record
set_option maxRecDepth 20000 in
theorem ggX5_handOver_X5_isPlot : GoodIn wsX5_handOver wsX5_isPlot := goodIn_r _ [8, 9, 10, 7, 11] (by decide +kernel) (by decide +kernel)
set_option maxRecDepth 20000 in
theorem gX5_handOver_X5_isPlot : GoodIn wsX5_handOver (va_wsS RX5 40 yX5_isPlot wsX5_isPlot) := goodIn_app (goodIn_of _ (by decide +kernel)) ggX5_handOver_X5_isPlot
set_option maxRecDepth 20000 in
theorem ggX5_handOver_X5_isCommoner : GoodIn wsX5_handOver wsX5_isCommoner := goodIn_r _ [14, 9, 10, 7, 11] (by decide +kernel) (by decide +kernel)
set_option maxRecDepth 20000 in
theorem gX5_handOver_X5_isCommoner : GoodIn wsX5_handOver (va_wsS RX5 44 yX5_isCommoner wsX5_isCommoner) := goodIn_app (goodIn_of _ (by decide +kernel)) ggX5_handOver_X5_isCommoner
set_option maxRecDepth 20000 in
theorem ggX5_handOver_X2_record : GoodIn wsX5_handOver wsX2_record := goodIn_r _ [19, 20, 21, 22, 23, 24, 25, 26, 27, 28, 29, 30, 31, 32, 33, 34, 35, 36, 37, 38, 39, 40, 41, 42, 43, 44, 45, 46, 47, 48, 7, 49, 50, 51, 52, 53, 54, 55, 56, 57, 58, 59, 60, 61, 62, 63, 64, 65, 66, 67, 68, 69, 70, 71, 72, 73, 74, 75, 76, 77, 78, 79, 100, 101, 102, 103, 104, 86, 87, 88, 89, 90, 91, 92, 93, 94, 95, 96, 97, 98, 99, 105, 106, 107, 108, 109, 110, 111, 112, 113, 114, 115, 116, 117] (by decide +kernel) (by decide +kernel)
set_option maxRecDepth 20000 in
theorem gX5_handOver_X2_record : GoodIn wsX5_handOver (wsV RX5 51 RX2 yX2_record wsX2_record) := goodIn_app (goodIn_of _ (by decide +kernel)) ggX5_handOver_X2_record
set_option maxRecDepth 20000 in
theorem ggX5_setDays_X5_isCommoner : GoodIn wsX5_setDays wsX5_isCommoner := goodIn_r _ [7, 8, 9, 6, 10] (by decide +kernel) (by decide +kernel)
set_option maxRecDepth 20000 in
theorem gX5_setDays_X5_isCommoner : GoodIn wsX5_setDays (va_wsS RX5 44 yX5_isCommoner wsX5_isCommoner) := goodIn_app (goodIn_of _ (by decide +kernel)) ggX5_setDays_X5_isCommoner
set_option maxRecDepth 20000 in
theorem ggX5_setDays_X5_isWithin : GoodIn wsX5_setDays wsX5_isWithin := goodIn_r _ [10] (by decide +kernel) (by decide +kernel)
set_option maxRecDepth 20000 in
theorem gX5_setDays_X5_isWithin : GoodIn wsX5_setDays (va_wsS RX5 58 yX5_isWithin wsX5_isWithin) := goodIn_app (goodIn_of _ (by decide +kernel)) ggX5_setDays_X5_isWithin
set_option maxRecDepth 20000 in
theorem ggX5_setDays_X2_record : GoodIn wsX5_setDays wsX2_record := goodIn_r _ [15, 16, 17, 18, 19, 20, 21, 22, 23, 24, 25, 26, 27, 28, 29, 30, 31, 32, 33, 34, 35, 36, 37, 38, 39, 40, 41, 42, 43, 44, 6, 45, 46, 47, 48, 49, 50, 51, 52, 53, 54, 55, 56, 57, 58, 59, 60, 61, 62, 63, 64, 65, 66, 67, 68, 69, 70, 71, 72, 73, 74, 75, 96, 97, 98, 99, 100, 82, 83, 84, 85, 86, 87, 88, 89, 90, 91, 92, 93, 94, 95, 101, 102, 103, 104, 105, 106, 107, 108, 109, 110, 111, 112, 113] (by decide +kernel) (by decide +kernel)
set_option maxRecDepth 20000 in
theorem gX5_setDays_X2_record : GoodIn wsX5_setDays (wsV RX5 51 RX2 yX2_record wsX2_record) := goodIn_app (goodIn_of _ (by decide +kernel)) ggX5_setDays_X2_record
set_option maxRecDepth 20000 in
theorem ggX5_set_X5_isSettingValue : GoodIn wsX5_set wsX5_isSettingValue := goodIn_r _ [8, 9, 10, 7, 11] (by decide +kernel) (by decide +kernel)
set_option maxRecDepth 20000 in
theorem gX5_set_X5_isSettingValue : GoodIn wsX5_set (va_wsS RX5 65 yX5_isSettingValue wsX5_isSettingValue) := goodIn_app (goodIn_of _ (by decide +kernel)) ggX5_set_X5_isSettingValue
set_option maxRecDepth 20000 in
theorem ggX5_set_X2_record : GoodIn wsX5_set wsX2_record := goodIn_r _ [16, 17, 18, 19, 20, 21, 22, 23, 24, 25, 26, 27, 28, 29, 30, 31, 32, 33, 34, 35, 36, 37, 38, 39, 40, 41, 42, 43, 44, 45, 7, 46, 47, 48, 49, 50, 51, 52, 53, 54, 55, 56, 57, 58, 59, 60, 61, 62, 63, 64, 65, 66, 67, 68, 69, 70, 71, 72, 73, 74, 75, 76, 97, 98, 99, 100, 101, 83, 84, 85, 86, 87, 88, 89, 90, 91, 92, 93, 94, 95, 96, 102, 103, 104, 105, 106, 107, 108, 109, 110, 111, 112, 113, 114] (by decide +kernel) (by decide +kernel)
set_option maxRecDepth 20000 in
theorem gX5_set_X2_record : GoodIn wsX5_set (wsV RX5 51 RX2 yX2_record wsX2_record) := goodIn_app (goodIn_of _ (by decide +kernel)) ggX5_set_X2_record
set_option maxRecDepth 20000 in
theorem ggX5_cut_X5_isCommoner : GoodIn wsX5_cut wsX5_isCommoner := goodIn_r _ [7, 8, 9, 6, 10] (by decide +kernel) (by decide +kernel)
set_option maxRecDepth 20000 in
theorem gX5_cut_X5_isCommoner : GoodIn wsX5_cut (va_wsS RX5 44 yX5_isCommoner wsX5_isCommoner) := goodIn_app (goodIn_of _ (by decide +kernel)) ggX5_cut_X5_isCommoner
set_option maxRecDepth 20000 in
theorem ggX5_cut_X5_isPlot : GoodIn wsX5_cut wsX5_isPlot := goodIn_r _ [13, 8, 9, 6, 10] (by decide +kernel) (by decide +kernel)
set_option maxRecDepth 20000 in
theorem gX5_cut_X5_isPlot : GoodIn wsX5_cut (va_wsS RX5 40 yX5_isPlot wsX5_isPlot) := goodIn_app (goodIn_of _ (by decide +kernel)) ggX5_cut_X5_isPlot
set_option maxRecDepth 20000 in
theorem ggX5_cut_X3_reasonAgainst : GoodIn wsX5_cut wsX3_reasonAgainst := goodIn_r _ [18, 19, 20, 21, 22, 23, 17, 24, 25, 26, 5, 6, 7, 8, 9, 10, 12, 13, 27, 28, 29, 30, 31, 32, 33, 34, 35, 36, 37, 38, 39, 40, 120, 121, 122, 123, 124, 125, 126, 127, 128, 129, 130, 131, 132, 133, 134, 135, 136, 137, 138, 139, 140] (by decide +kernel) (by decide +kernel)
set_option maxRecDepth 20000 in
theorem gX5_cut_X3_reasonAgainst : GoodIn wsX5_cut (wsV RX5 76 RX3 yX3_reasonAgainst wsX3_reasonAgainst) := goodIn_app (goodIn_of _ (by decide +kernel)) ggX5_cut_X3_reasonAgainst
set_option maxRecDepth 20000 in
theorem ggX5_cut_X4_hasNumberLeft : GoodIn wsX5_cut wsX4_hasNumberLeft := goodIn_r _ [44, 32, 134, 135, 136, 137, 138, 139, 140] (by decide +kernel) (by decide +kernel)
set_option maxRecDepth 20000 in
theorem gX5_cut_X4_hasNumberLeft : GoodIn wsX5_cut (wsV RX5 84 RX4 yX4_hasNumberLeft wsX4_hasNumberLeft) := goodIn_app (goodIn_of _ (by decide +kernel)) ggX5_cut_X4_hasNumberLeft
set_option maxRecDepth 20000 in
theorem ggX5_cut_X2_record : GoodIn wsX5_cut wsX2_record := goodIn_r _ [49, 50, 51, 52, 53, 54, 55, 56, 57, 58, 59, 60, 61, 17, 62, 19, 63, 40, 26, 25, 64, 20, 65, 66, 67, 68, 69, 70, 71, 72, 6, 73, 74, 75, 76, 77, 78, 79, 80, 81, 30, 82, 83, 84, 85, 86, 87, 33, 32, 88, 89, 90, 91, 92, 93, 94, 95, 96, 97, 98, 99, 100, 141, 142, 143, 144, 145, 120, 121, 122, 123, 124, 125, 126, 127, 128, 129, 130, 131, 132, 133, 134, 135, 136, 137, 138, 139, 140, 146, 147, 148, 149, 150, 151] (by decide +kernel) (by decide +kernel)
set_option maxRecDepth 20000 in
theorem gX5_cut_X2_record : GoodIn wsX5_cut (wsV RX5 51 RX2 yX2_record wsX2_record) := goodIn_app (goodIn_of _ (by decide +kernel)) ggX5_cut_X2_record
set_option maxRecDepth 20000 in
theorem ggX5_cut_X3_takeLayer : GoodIn wsX5_cut wsX3_takeLayer := goodIn_r _ [104, 19, 25, 20, 40, 65, 5, 6, 7, 8, 9, 10, 12, 13, 105, 106, 107, 30, 108, 32, 83, 84, 85, 86, 87, 33, 109, 42, 43, 44, 110, 111, 112, 93, 113, 100, 95, 96, 97, 98, 120, 121, 122, 123, 124, 125, 126, 127, 128, 129, 130, 131, 132, 133, 134, 135, 136, 137, 138, 139, 140, 146, 147, 148, 149, 150, 151] (by decide +kernel) (by decide +kernel)
set_option maxRecDepth 20000 in
theorem gX5_cut_X3_takeLayer : GoodIn wsX5_cut (wsV RX5 90 RX3 yX3_takeLayer wsX3_takeLayer) := goodIn_app (goodIn_of _ (by decide +kernel)) ggX5_cut_X3_takeLayer
set_option maxRecDepth 20000 in
theorem ggX5_turn_X4_isLying : GoodIn wsX5_turn wsX4_isLying := goodIn_r _ [11, 12, 13, 14, 15, 16, 99, 100, 101, 102, 103, 104, 105] (by decide +kernel) (by decide +kernel)
set_option maxRecDepth 20000 in
theorem gX5_turn_X4_isLying : GoodIn wsX5_turn (wsV RX5 93 RX4 yX4_isLying wsX4_isLying) := goodIn_app (goodIn_of _ (by decide +kernel)) ggX5_turn_X4_isLying
set_option maxRecDepth 20000 in
theorem ggX5_turn_X2_record : GoodIn wsX5_turn wsX2_record := goodIn_r _ [21, 22, 23, 24, 25, 26, 27, 28, 29, 30, 31, 32, 33, 34, 35, 36, 37, 38, 39, 40, 41, 42, 43, 44, 45, 46, 47, 48, 49, 50, 15, 51, 52, 53, 54, 55, 56, 57, 58, 59, 10, 60, 61, 62, 63, 64, 65, 13, 12, 66, 67, 68, 69, 70, 71, 72, 73, 74, 75, 76, 77, 78, 106, 107, 108, 109, 110, 85, 86, 87, 88, 89, 90, 91, 92, 93, 94, 95, 96, 97, 98, 99, 100, 101, 102, 103, 104, 105, 111, 112, 113, 114, 115, 116] (by decide +kernel) (by decide +kernel)
set_option maxRecDepth 20000 in
theorem gX5_turn_X2_record : GoodIn wsX5_turn (wsV RX5 51 RX2 yX2_record wsX2_record) := goodIn_app (goodIn_of _ (by decide +kernel)) ggX5_turn_X2_record
set_option maxRecDepth 20000 in
theorem ggX5_stack_X4_isLying : GoodIn wsX5_stack wsX4_isLying := goodIn_r _ [10, 11, 12, 13, 14, 15, 113, 114, 115, 116, 117, 118, 119] (by decide +kernel) (by decide +kernel)
set_option maxRecDepth 20000 in
theorem gX5_stack_X4_isLying : GoodIn wsX5_stack (wsV RX5 93 RX4 yX4_isLying wsX4_isLying) := goodIn_app (goodIn_of _ (by decide +kernel)) ggX5_stack_X4_isLying
set_option maxRecDepth 20000 in
theorem ggX5_stack_X4_isDry : GoodIn wsX5_stack wsX4_isDry := goodIn_r _ [19, 20, 21, 7, 8, 9, 10, 11, 12, 13, 14, 15, 113, 114, 115, 116, 117, 118, 119] (by decide +kernel) (by decide +kernel)
set_option maxRecDepth 20000 in
theorem gX5_stack_X4_isDry : GoodIn wsX5_stack (wsV RX5 106 RX4 yX4_isDry wsX4_isDry) := goodIn_app (goodIn_of _ (by decide +kernel)) ggX5_stack_X4_isDry
set_option maxRecDepth 20000 in
theorem ggX5_stack_X2_record : GoodIn wsX5_stack wsX2_record := goodIn_r _ [26, 27, 28, 29, 30, 31, 32, 33, 34, 35, 36, 37, 38, 39, 40, 41, 42, 43, 44, 45, 46, 47, 48, 49, 50, 51, 52, 53, 54, 55, 14, 56, 57, 58, 59, 60, 61, 62, 63, 64, 9, 65, 66, 67, 20, 68, 69, 12, 11, 70, 71, 72, 73, 74, 75, 76, 77, 78, 79, 80, 81, 82, 120, 121, 122, 123, 124, 99, 100, 101, 102, 103, 104, 105, 106, 107, 108, 109, 110, 111, 112, 113, 114, 115, 116, 117, 118, 119, 125, 126, 127, 128, 129, 130] (by decide +kernel) (by decide +kernel)
set_option maxRecDepth 20000 in
theorem gX5_stack_X2_record : GoodIn wsX5_stack (wsV RX5 51 RX2 yX2_record wsX2_record) := goodIn_app (goodIn_of _ (by decide +kernel)) ggX5_stack_X2_record
set_option maxRecDepth 20000 in
theorem ggX5_stack_X4_countStackedOf : GoodIn wsX5_stack wsX4_countStackedOf := goodIn_r _ [86, 11, 66, 87, 88, 89, 9, 90, 69, 21, 7, 8, 10, 12, 13, 14, 15, 91, 92, 113, 114, 115, 116, 117, 118, 119] (by decide +kernel) (by decide +kernel)
set_option maxRecDepth 20000 in
theorem gX5_stack_X4_countStackedOf : GoodIn wsX5_stack (wsV RX5 112 RX4 yX4_countStackedOf wsX4_countStackedOf) := goodIn_app (goodIn_of _ (by decide +kernel)) ggX5_stack_X4_countStackedOf
set_option maxRecDepth 20000 in
theorem ggX5_pass_X5_isWeather : GoodIn wsX5_pass wsX5_isWeather := goodIn_r _ [6, 7, 8, 5, 9] (by decide +kernel) (by decide +kernel)
set_option maxRecDepth 20000 in
theorem gX5_pass_X5_isWeather : GoodIn wsX5_pass (va_wsS RX5 116 yX5_isWeather wsX5_isWeather) := goodIn_app (goodIn_of _ (by decide +kernel)) ggX5_pass_X5_isWeather
set_option maxRecDepth 20000 in
theorem ggX5_pass_X2_record : GoodIn wsX5_pass wsX2_record := goodIn_r _ [14, 15, 16, 17, 18, 19, 20, 21, 22, 23, 24, 25, 26, 27, 28, 29, 30, 31, 32, 33, 34, 35, 36, 37, 38, 39, 40, 41, 42, 43, 5, 44, 45, 46, 47, 48, 49, 50, 51, 52, 53, 54, 55, 56, 57, 58, 59, 60, 61, 62, 63, 64, 65, 66, 67, 68, 69, 70, 71, 72, 73, 74, 120, 121, 122, 123, 124, 125, 126, 127, 128, 129, 130, 131, 132, 133, 134, 135, 136, 137, 138, 139, 140, 141, 142, 143, 144, 145, 146, 147, 148, 149, 150, 151] (by decide +kernel) (by decide +kernel)
set_option maxRecDepth 20000 in
theorem gX5_pass_X2_record : GoodIn wsX5_pass (wsV RX5 51 RX2 yX2_record wsX2_record) := goodIn_app (goodIn_of _ (by decide +kernel)) ggX5_pass_X2_record
set_option maxRecDepth 20000 in
theorem ggX5_pass_X3_passDays : GoodIn wsX5_pass wsX3_passDays := goodIn_r _ [78, 42, 35, 39, 40, 79, 80, 81, 53, 82, 61, 60, 59, 57, 58, 83, 21, 22, 23, 84, 85, 86, 87, 88, 89, 90, 91, 92, 27, 93, 94, 95, 96, 97, 37, 34, 98, 99, 100, 101, 102, 55, 103, 5, 104, 7, 8, 9, 105, 106, 107, 108, 109, 110, 111, 112, 113, 125, 126, 127, 128, 129, 130, 131, 132, 133, 134, 135, 136, 137, 138, 139, 140, 141, 142, 143, 144, 145] (by decide +kernel) (by decide +kernel)
set_option maxRecDepth 20000 in
theorem gX5_pass_X3_passDays : GoodIn wsX5_pass (wsV RX5 119 RX3 yX3_passDays wsX3_passDays) := goodIn_app (goodIn_of _ (by decide +kernel)) ggX5_pass_X3_passDays
set_option maxRecDepth 20000 in
theorem ggX5_passAll_X0_readGroups : GoodIn wsX5_passAll wsX0_readGroups := goodIn_r _ [11, 12, 13, 14, 15, 16, 17, 10, 18, 19, 20, 21, 22, 23, 24, 25, 26, 27, 28, 29, 144, 145, 146, 147, 148] (by decide +kernel) (by decide +kernel)
set_option maxRecDepth 20000 in
theorem gX5_passAll_X0_readGroups : GoodIn wsX5_passAll (wsV RX5 122 RX0 yX0_readGroups wsX0_readGroups) := goodIn_app (goodIn_of _ (by decide +kernel)) ggX5_passAll_X0_readGroups
set_option maxRecDepth 20000 in
theorem ggX5_passAll_X2_record : GoodIn wsX5_passAll wsX2_record := goodIn_r _ [34, 35, 36, 37, 38, 39, 40, 41, 42, 43, 44, 45, 46, 47, 48, 49, 50, 51, 52, 53, 54, 55, 56, 57, 58, 59, 60, 61, 62, 63, 64, 65, 66, 67, 68, 69, 70, 71, 72, 73, 74, 75, 76, 77, 78, 79, 80, 81, 82, 83, 84, 85, 86, 87, 88, 89, 90, 91, 92, 93, 94, 95, 149, 150, 151, 152, 153, 154, 155, 156, 157, 158, 159, 160, 161, 162, 163, 164, 165, 166, 167, 168, 169, 170, 171, 172, 173, 174, 175, 176, 177, 178, 179, 180] (by decide +kernel) (by decide +kernel)
set_option maxRecDepth 20000 in
theorem gX5_passAll_X2_record : GoodIn wsX5_passAll (wsV RX5 51 RX2 yX2_record wsX2_record) := goodIn_app (goodIn_of _ (by decide +kernel)) ggX5_passAll_X2_record
set_option maxRecDepth 20000 in
theorem ggX5_passAll_X3_passDays : GoodIn wsX5_passAll wsX3_passDays := goodIn_r _ [99, 62, 55, 59, 60, 100, 101, 102, 74, 103, 82, 81, 80, 78, 79, 104, 41, 42, 43, 105, 106, 107, 108, 109, 110, 111, 112, 113, 47, 114, 115, 116, 117, 118, 57, 54, 119, 120, 121, 122, 123, 76, 124, 64, 125, 126, 127, 128, 129, 130, 131, 132, 133, 134, 135, 136, 137, 154, 155, 156, 157, 158, 159, 160, 161, 162, 163, 164, 165, 166, 167, 168, 169, 170, 171, 172, 173, 174] (by decide +kernel) (by decide +kernel)
set_option maxRecDepth 20000 in
theorem gX5_passAll_X3_passDays : GoodIn wsX5_passAll (wsV RX5 119 RX3 yX3_passDays wsX3_passDays) := goodIn_app (goodIn_of _ (by decide +kernel)) ggX5_passAll_X3_passDays
set_option maxRecDepth 20000 in
theorem ggX5_settle_X1_countOpen : GoodIn wsX5_settle wsX1_countOpen := goodIn_r _ [8, 9, 10, 126, 127, 128, 129, 130, 131] (by decide +kernel) (by decide +kernel)
set_option maxRecDepth 20000 in
theorem gX5_settle_X1_countOpen : GoodIn wsX5_settle (wsV RX5 139 RX1 yX1_countOpen wsX1_countOpen) := goodIn_app (goodIn_of _ (by decide +kernel)) ggX5_settle_X1_countOpen
set_option maxRecDepth 20000 in
theorem ggX5_settle_X2_record : GoodIn wsX5_settle wsX2_record := goodIn_r _ [15, 16, 17, 18, 19, 20, 21, 22, 23, 24, 25, 26, 27, 28, 29, 30, 31, 32, 33, 34, 35, 36, 37, 38, 39, 40, 41, 42, 43, 44, 45, 46, 47, 48, 49, 50, 51, 52, 53, 54, 55, 56, 57, 58, 59, 60, 61, 62, 63, 64, 65, 66, 67, 68, 7, 69, 70, 71, 72, 73, 10, 9, 132, 133, 134, 135, 136, 112, 113, 114, 115, 116, 117, 118, 119, 120, 121, 122, 123, 124, 125, 137, 138, 139, 140, 141, 142, 143, 126, 127, 128, 129, 130, 131] (by decide +kernel) (by decide +kernel)
set_option maxRecDepth 20000 in
theorem gX5_settle_X2_record : GoodIn wsX5_settle (wsV RX5 51 RX2 yX2_record wsX2_record) := goodIn_app (goodIn_of _ (by decide +kernel)) ggX5_settle_X2_record
set_option maxRecDepth 20000 in
theorem ggX5_settle_X3_settleOldest : GoodIn wsX5_settle wsX3_settleOldest := goodIn_r _ [77, 37, 78, 79, 39, 80, 81, 36, 82, 83, 5, 6, 7, 8, 9, 10, 84, 85, 86, 28, 87, 34, 88, 89, 90, 91, 33, 92, 45, 93, 94, 95, 96, 97, 98, 99, 55, 100, 63, 62, 101, 102, 103, 104, 35, 105, 22, 23, 24, 112, 113, 114, 115, 116, 117, 118, 119, 120, 121, 122, 123, 124, 125, 126, 127, 128, 129, 130, 131, 137, 138, 139, 140, 141, 142, 143] (by decide +kernel) (by decide +kernel)
set_option maxRecDepth 20000 in
theorem gX5_settle_X3_settleOldest : GoodIn wsX5_settle (wsV RX5 144 RX3 yX3_settleOldest wsX3_settleOldest) := goodIn_app (goodIn_of _ (by decide +kernel)) ggX5_settle_X3_settleOldest
set_option maxRecDepth 20000 in
theorem ggX5_endYear_X2_record : GoodIn wsX5_endYear wsX2_record := goodIn_r _ [7, 8, 9, 10, 11, 12, 13, 14, 15, 16, 17, 18, 19, 20, 21, 22, 23, 24, 25, 26, 27, 28, 29, 30, 31, 32, 33, 34, 35, 36, 37, 38, 39, 40, 41, 42, 43, 44, 45, 46, 47, 48, 49, 50, 51, 52, 53, 54, 55, 56, 57, 58, 59, 60, 61, 62, 63, 64, 65, 66, 67, 68, 91, 92, 93, 94, 95, 96, 97, 98, 99, 100, 101, 102, 103, 104, 105, 106, 107, 108, 109, 110, 111, 112, 113, 114, 115, 116, 117, 118, 119, 120, 121, 122] (by decide +kernel) (by decide +kernel)
set_option maxRecDepth 20000 in
theorem gX5_endYear_X2_record : GoodIn wsX5_endYear (wsV RX5 51 RX2 yX2_record wsX2_record) := goodIn_app (goodIn_of _ (by decide +kernel)) ggX5_endYear_X2_record
set_option maxRecDepth 20000 in
theorem ggX5_endYear_X3_closeYear : GoodIn wsX5_endYear wsX3_closeYear := goodIn_r _ [72, 28, 29, 73, 74, 23, 24, 26, 33, 34, 75, 76, 77, 47, 78, 55, 54, 79, 80, 81, 82, 83, 37, 84, 36, 38, 39, 14, 15, 16, 40, 41, 42, 43, 96, 97, 98, 99, 100, 101, 102, 103, 104, 105, 106, 107, 108, 109, 117, 118, 119, 120, 121, 122, 110, 111, 112, 113, 114, 115, 116] (by decide +kernel) (by decide +kernel)
set_option maxRecDepth 20000 in
theorem gX5_endYear_X3_closeYear : GoodIn wsX5_endYear (wsV RX5 147 RX3 yX3_closeYear wsX3_closeYear) := goodIn_app (goodIn_of _ (by decide +kernel)) ggX5_endYear_X3_closeYear
set_option maxRecDepth 20000 in
theorem ggX5_type_X0_append : GoodIn wsX5_type wsX0_append := goodIn_r _ [7, 8, 9, 16, 17, 18, 19, 20] (by decide +kernel) (by decide +kernel)
set_option maxRecDepth 20000 in
theorem gX5_type_X0_append : GoodIn wsX5_type (wsV RX5 150 RX0 yX0_append wsX0_append) := goodIn_app (goodIn_of _ (by decide +kernel)) ggX5_type_X0_append
set_option maxRecDepth 20000 in
theorem ggX5_undo_X2_takeBack : GoodIn wsX5_undo wsX2_takeBack := goodIn_r _ [8, 9, 10, 11, 12, 13, 14, 15, 16, 17, 18, 19, 20, 21, 22, 23, 24, 25, 26, 27, 28, 29, 30, 31, 32, 33, 34, 35, 36, 37, 38, 39, 40, 41, 42, 43, 44, 45, 46, 47, 48, 49, 50, 51, 52, 53, 54, 55, 56, 57, 58, 59, 60, 61, 62, 63, 64, 65, 66, 67, 68, 75, 76, 77, 78, 79, 80, 81, 82, 83, 84, 85, 86, 87, 88, 89, 90, 91, 92, 93, 94, 95, 96, 97, 98, 99, 100, 101, 102, 103, 104, 105, 106] (by decide +kernel) (by decide +kernel)
set_option maxRecDepth 20000 in
theorem gX5_undo_X2_takeBack : GoodIn wsX5_undo (wsV RX5 160 RX2 yX2_takeBack wsX2_takeBack) := goodIn_app (goodIn_of _ (by decide +kernel)) ggX5_undo_X2_takeBack
set_option maxRecDepth 20000 in
theorem ggX5_keep_X3_copyFrom : GoodIn wsX5_keep wsX3_copyFrom := goodIn_r _ [9, 10, 11, 12, 13, 14, 15, 16, 17, 18, 19, 20, 21, 22, 23, 24, 25, 26, 27, 28, 29, 30, 31, 32, 33, 34, 35, 36, 37, 38, 39, 40, 41, 42, 43, 44, 45, 46, 47, 48, 49, 50, 51, 52, 53, 54, 55, 56, 57, 58, 59, 72, 73, 74, 75, 76, 77, 78, 79, 80, 81, 82, 83, 84, 85, 86, 87, 88, 89, 90, 91, 92, 93, 94, 95, 96, 97, 98] (by decide +kernel) (by decide +kernel)
set_option maxRecDepth 20000 in
theorem gX5_keep_X3_copyFrom : GoodIn wsX5_keep (wsV RX5 163 RX3 yX3_copyFrom wsX3_copyFrom) := goodIn_app (goodIn_of _ (by decide +kernel)) ggX5_keep_X3_copyFrom
set_option maxRecDepth 20000 in
theorem ggX5_keep_X4_countLying : GoodIn wsX5_keep wsX4_countLying := goodIn_r _ [63, 46, 45, 64, 25, 65, 86, 87, 88, 89, 90, 91, 92] (by decide +kernel) (by decide +kernel)
set_option maxRecDepth 20000 in
theorem gX5_keep_X4_countLying : GoodIn wsX5_keep (wsV RX5 166 RX4 yX4_countLying wsX4_countLying) := goodIn_app (goodIn_of _ (by decide +kernel)) ggX5_keep_X4_countLying
set_option maxRecDepth 20000 in
theorem ggX5_restore_X2_record : GoodIn wsX5_restore wsX2_record := goodIn_r _ [10, 11, 12, 13, 14, 15, 16, 17, 18, 19, 20, 21, 22, 23, 24, 25, 26, 27, 28, 29, 30, 31, 32, 33, 34, 35, 36, 37, 38, 39, 40, 41, 42, 43, 44, 45, 46, 47, 48, 49, 50, 51, 52, 53, 54, 55, 56, 57, 58, 59, 60, 61, 62, 63, 64, 65, 66, 67, 68, 69, 70, 71, 99, 100, 101, 102, 103, 85, 86, 87, 88, 89, 90, 91, 92, 93, 94, 95, 96, 97, 98, 104, 105, 106, 107, 108, 109, 110, 111, 112, 113, 114, 115, 116] (by decide +kernel) (by decide +kernel)
set_option maxRecDepth 20000 in
theorem gX5_restore_X2_record : GoodIn wsX5_restore (wsV RX5 51 RX2 yX2_record wsX2_record) := goodIn_app (goodIn_of _ (by decide +kernel)) ggX5_restore_X2_record
set_option maxRecDepth 20000 in
theorem ggX5_restore_X3_copyFrom : GoodIn wsX5_restore wsX3_copyFrom := goodIn_r _ [24, 25, 26, 27, 28, 29, 30, 31, 32, 33, 34, 35, 36, 37, 38, 39, 40, 41, 42, 17, 18, 19, 43, 44, 45, 46, 47, 48, 49, 50, 51, 52, 53, 54, 55, 56, 57, 58, 59, 60, 61, 62, 63, 64, 65, 66, 67, 68, 69, 70, 71, 85, 86, 87, 88, 89, 90, 91, 92, 93, 94, 95, 96, 97, 98, 104, 105, 106, 107, 108, 109, 110, 111, 112, 113, 114, 115, 116] (by decide +kernel) (by decide +kernel)
set_option maxRecDepth 20000 in
theorem gX5_restore_X3_copyFrom : GoodIn wsX5_restore (wsV RX5 163 RX3 yX3_copyFrom wsX3_copyFrom) := goodIn_app (goodIn_of _ (by decide +kernel)) ggX5_restore_X3_copyFrom
set_option maxRecDepth 20000 in
theorem ggX5_restore_X4_countLying : GoodIn wsX5_restore wsX4_countLying := goodIn_r _ [76, 58, 57, 77, 40, 78, 104, 105, 106, 107, 108, 109, 110] (by decide +kernel) (by decide +kernel)
set_option maxRecDepth 20000 in
theorem gX5_restore_X4_countLying : GoodIn wsX5_restore (wsV RX5 166 RX4 yX4_countLying wsX4_countLying) := goodIn_app (goodIn_of _ (by decide +kernel)) ggX5_restore_X4_countLying
set_option maxRecDepth 20000 in
theorem ggX5_commoner_X5_isCommoner : GoodIn wsX5_commoner wsX5_isCommoner := goodIn_r _ [12, 13, 14, 11, 15] (by decide +kernel) (by decide +kernel)
set_option maxRecDepth 20000 in
theorem gX5_commoner_X5_isCommoner : GoodIn wsX5_commoner (va_wsS RX5 44 yX5_isCommoner wsX5_isCommoner) := goodIn_app (goodIn_of _ (by decide +kernel)) ggX5_commoner_X5_isCommoner
set_option maxRecDepth 20000 in
theorem ggX5_commoner_X4_countLyingOf : GoodIn wsX5_commoner wsX4_countLyingOf := goodIn_r _ [20, 21, 22, 23, 24, 19, 25, 26, 27, 28, 29, 30, 31, 14, 11, 15, 32, 33, 76, 77, 78, 79, 80, 81, 82] (by decide +kernel) (by decide +kernel)
set_option maxRecDepth 20000 in
theorem gX5_commoner_X4_countLyingOf : GoodIn wsX5_commoner (wsV RX5 175 RX4 yX4_countLyingOf wsX4_countLyingOf) := goodIn_app (goodIn_of _ (by decide +kernel)) ggX5_commoner_X4_countLyingOf
set_option maxRecDepth 20000 in
theorem ggX5_commoner_X4_countStackedOf : GoodIn wsX5_commoner wsX4_countStackedOf := goodIn_r _ [37, 21, 26, 38, 39, 40, 19, 41, 42, 27, 28, 29, 30, 31, 14, 11, 15, 32, 33, 76, 77, 78, 79, 80, 81, 82] (by decide +kernel) (by decide +kernel)
set_option maxRecDepth 20000 in
theorem gX5_commoner_X4_countStackedOf : GoodIn wsX5_commoner (wsV RX5 112 RX4 yX4_countStackedOf wsX4_countStackedOf) := goodIn_app (goodIn_of _ (by decide +kernel)) ggX5_commoner_X4_countStackedOf
set_option maxRecDepth 20000 in
theorem ggX5_commoner_X5_countEqual : GoodIn wsX5_commoner wsX5_countEqual := goodIn_r _ [45, 46, 32, 11, 33] (by decide +kernel) (by decide +kernel)
set_option maxRecDepth 20000 in
theorem gX5_commoner_X5_countEqual : GoodIn wsX5_commoner (va_wsS RX5 178 yX5_countEqual wsX5_countEqual) := goodIn_app (goodIn_of _ (by decide +kernel)) ggX5_commoner_X5_countEqual
set_option maxRecDepth 20000 in
theorem ggX5_commoner_X1_countOpenWith : GoodIn wsX5_commoner wsX1_countOpenWith := goodIn_r _ [51, 52, 53, 54, 55, 32, 11, 33, 83, 84, 85, 86, 87, 88] (by decide +kernel) (by decide +kernel)
set_option maxRecDepth 20000 in
theorem gX5_commoner_X1_countOpenWith : GoodIn wsX5_commoner (wsV RX5 182 RX1 yX1_countOpenWith wsX1_countOpenWith) := goodIn_app (goodIn_of _ (by decide +kernel)) ggX5_commoner_X1_countOpenWith
set_option maxRecDepth 20000 in
theorem ggX5_plot_X5_isPlot : GoodIn wsX5_plot wsX5_isPlot := goodIn_r _ [8, 9, 10, 7, 11] (by decide +kernel) (by decide +kernel)
set_option maxRecDepth 20000 in
theorem gX5_plot_X5_isPlot : GoodIn wsX5_plot (va_wsS RX5 40 yX5_isPlot wsX5_isPlot) := goodIn_app (goodIn_of _ (by decide +kernel)) ggX5_plot_X5_isPlot
set_option maxRecDepth 20000 in
theorem ggX5_plot_X5_oneIf : GoodIn wsX5_plot wsX5_oneIf := goodIn_r _ [14] (by decide +kernel) (by decide +kernel)
set_option maxRecDepth 20000 in
theorem gX5_plot_X5_oneIf : GoodIn wsX5_plot (va_wsS RX5 188 yX5_oneIf wsX5_oneIf) := goodIn_app (goodIn_of _ (by decide +kernel)) ggX5_plot_X5_oneIf
set_option maxRecDepth 20000 in
theorem ggX5_row_X4_isLying : GoodIn wsX5_row wsX4_isLying := goodIn_r _ [12, 13, 14, 15, 16, 17, 55, 56, 57, 58, 59, 60, 61] (by decide +kernel) (by decide +kernel)
set_option maxRecDepth 20000 in
theorem gX5_row_X4_isLying : GoodIn wsX5_row (wsV RX5 93 RX4 yX4_isLying wsX4_isLying) := goodIn_app (goodIn_of _ (by decide +kernel)) ggX5_row_X4_isLying
set_option maxRecDepth 20000 in
theorem ggX5_row_X5_oneIf : GoodIn wsX5_row wsX5_oneIf := goodIn_r _ [20] (by decide +kernel) (by decide +kernel)
set_option maxRecDepth 20000 in
theorem gX5_row_X5_oneIf : GoodIn wsX5_row (va_wsS RX5 188 yX5_oneIf wsX5_oneIf) := goodIn_app (goodIn_of _ (by decide +kernel)) ggX5_row_X5_oneIf
set_option maxRecDepth 20000 in
theorem ggX5_row_X4_isDry : GoodIn wsX5_row wsX4_isDry := goodIn_r _ [24, 25, 26, 9, 10, 11, 12, 13, 14, 15, 16, 17, 55, 56, 57, 58, 59, 60, 61] (by decide +kernel) (by decide +kernel)
set_option maxRecDepth 20000 in
theorem gX5_row_X4_isDry : GoodIn wsX5_row (wsV RX5 106 RX4 yX4_isDry wsX4_isDry) := goodIn_app (goodIn_of _ (by decide +kernel)) ggX5_row_X4_isDry
set_option maxRecDepth 20000 in
theorem ggX5_row_X4_peatsAtHearth : GoodIn wsX5_row wsX4_peatsAtHearth := goodIn_r _ [30, 25, 31, 32, 33, 34, 26, 9, 10, 11, 12, 13, 14, 15, 16, 17, 55, 56, 57, 58, 59, 60, 61] (by decide +kernel) (by decide +kernel)
set_option maxRecDepth 20000 in
theorem gX5_row_X4_peatsAtHearth : GoodIn wsX5_row (wsV RX5 195 RX4 yX4_peatsAtHearth wsX4_peatsAtHearth) := goodIn_app (goodIn_of _ (by decide +kernel)) ggX5_row_X4_peatsAtHearth
set_option maxRecDepth 20000 in
theorem ggX5_driest_X5_isCommoner : GoodIn wsX5_driest wsX5_isCommoner := goodIn_r _ [6, 7, 8, 5, 9] (by decide +kernel) (by decide +kernel)
set_option maxRecDepth 20000 in
theorem gX5_driest_X5_isCommoner : GoodIn wsX5_driest (va_wsS RX5 44 yX5_isCommoner wsX5_isCommoner) := goodIn_app (goodIn_of _ (by decide +kernel)) ggX5_driest_X5_isCommoner
set_option maxRecDepth 20000 in
theorem ggX5_driest_X4_driestOf : GoodIn wsX5_driest wsX4_driestOf := goodIn_r _ [14, 15, 16, 17, 18, 13, 19, 20, 21, 22, 23, 24, 25, 8, 5, 9, 26, 27, 28, 29, 30, 31, 32, 33, 34, 35, 36, 57, 58, 59, 60, 61, 62, 63] (by decide +kernel) (by decide +kernel)
set_option maxRecDepth 20000 in
theorem gX5_driest_X4_driestOf : GoodIn wsX5_driest (wsV RX5 198 RX4 yX4_driestOf wsX4_driestOf) := goodIn_app (goodIn_of _ (by decide +kernel)) ggX5_driest_X4_driestOf
set_option maxRecDepth 20000 in
theorem ggX5_why_X5_isCommoner : GoodIn wsX5_why wsX5_isCommoner := goodIn_r _ [5, 6, 7, 4, 8] (by decide +kernel) (by decide +kernel)
set_option maxRecDepth 20000 in
theorem gX5_why_X5_isCommoner : GoodIn wsX5_why (va_wsS RX5 44 yX5_isCommoner wsX5_isCommoner) := goodIn_app (goodIn_of _ (by decide +kernel)) ggX5_why_X5_isCommoner
set_option maxRecDepth 20000 in
theorem ggX5_why_X5_isPlot : GoodIn wsX5_why wsX5_isPlot := goodIn_r _ [11, 6, 7, 4, 8] (by decide +kernel) (by decide +kernel)
set_option maxRecDepth 20000 in
theorem gX5_why_X5_isPlot : GoodIn wsX5_why (va_wsS RX5 40 yX5_isPlot wsX5_isPlot) := goodIn_app (goodIn_of _ (by decide +kernel)) ggX5_why_X5_isPlot
set_option maxRecDepth 20000 in
theorem ggX5_why_X3_reasonAgainst : GoodIn wsX5_why wsX3_reasonAgainst := goodIn_r _ [16, 17, 18, 19, 20, 21, 15, 22, 23, 24, 3, 4, 5, 6, 7, 8, 10, 11, 25, 26, 27, 28, 29, 30, 31, 32, 33, 34, 35, 36, 37, 38, 45, 46, 47, 48, 49, 50, 51, 52, 53, 54, 55, 56, 57, 58, 59, 60, 61, 62, 63, 64, 65] (by decide +kernel) (by decide +kernel)
set_option maxRecDepth 20000 in
theorem gX5_why_X3_reasonAgainst : GoodIn wsX5_why (wsV RX5 76 RX3 yX3_reasonAgainst wsX3_reasonAgainst) := goodIn_app (goodIn_of _ (by decide +kernel)) ggX5_why_X3_reasonAgainst
set_option maxRecDepth 20000 in
theorem ggX5_dispute_X5_isWithin : GoodIn wsX5_dispute wsX5_isWithin := goodIn_r _ [11] (by decide +kernel) (by decide +kernel)
set_option maxRecDepth 20000 in
theorem gX5_dispute_X5_isWithin : GoodIn wsX5_dispute (va_wsS RX5 58 yX5_isWithin wsX5_isWithin) := goodIn_app (goodIn_of _ (by decide +kernel)) ggX5_dispute_X5_isWithin
set_option maxRecDepth 20000 in
theorem ggX5_dispute_X1_countOpen : GoodIn wsX5_dispute wsX1_countOpen := goodIn_r _ [16, 17, 18, 39, 40, 41, 42, 43, 44] (by decide +kernel) (by decide +kernel)
set_option maxRecDepth 20000 in
theorem gX5_dispute_X1_countOpen : GoodIn wsX5_dispute (wsV RX5 139 RX1 yX1_countOpen wsX1_countOpen) := goodIn_app (goodIn_of _ (by decide +kernel)) ggX5_dispute_X1_countOpen
set_option maxRecDepth 20000 in
theorem ggX5_cart_X5_isWithin : GoodIn wsX5_cart wsX5_isWithin := goodIn_r _ [5] (by decide +kernel) (by decide +kernel)
set_option maxRecDepth 20000 in
theorem gX5_cart_X5_isWithin : GoodIn wsX5_cart (va_wsS RX5 58 yX5_isWithin wsX5_isWithin) := goodIn_app (goodIn_of _ (by decide +kernel)) ggX5_cart_X5_isWithin
set_option maxRecDepth 20000 in
theorem ggX5_cart_X3_commonerOfCart : GoodIn wsX5_cart wsX3_commonerOfCart := goodIn_r _ [10, 11, 18, 19, 20, 21, 22, 23, 24, 25, 26, 27, 28, 29, 30, 31] (by decide +kernel) (by decide +kernel)
set_option maxRecDepth 20000 in
theorem gX5_cart_X3_commonerOfCart : GoodIn wsX5_cart (wsV RX5 214 RX3 yX3_commonerOfCart wsX3_commonerOfCart) := goodIn_app (goodIn_of _ (by decide +kernel)) ggX5_cart_X3_commonerOfCart
set_option maxRecDepth 20000 in
theorem ggX5_would_X5_isWithin : GoodIn wsX5_would wsX5_isWithin := goodIn_r _ [6] (by decide +kernel) (by decide +kernel)
set_option maxRecDepth 20000 in
theorem gX5_would_X5_isWithin : GoodIn wsX5_would (va_wsS RX5 58 yX5_isWithin wsX5_isWithin) := goodIn_app (goodIn_of _ (by decide +kernel)) ggX5_would_X5_isWithin
set_option maxRecDepth 20000 in
theorem ggX5_would_X5_isWeather : GoodIn wsX5_would wsX5_isWeather := goodIn_r _ [9, 3, 4, 5, 6] (by decide +kernel) (by decide +kernel)
set_option maxRecDepth 20000 in
theorem gX5_would_X5_isWeather : GoodIn wsX5_would (va_wsS RX5 116 yX5_isWeather wsX5_isWeather) := goodIn_app (goodIn_of _ (by decide +kernel)) ggX5_would_X5_isWeather
set_option maxRecDepth 20000 in
theorem ggX5_would_X3_copyFrom : GoodIn wsX5_would wsX3_copyFrom := goodIn_r _ [14, 15, 16, 17, 18, 19, 20, 21, 22, 23, 24, 25, 26, 27, 28, 29, 5, 30, 31, 32, 33, 34, 35, 36, 37, 38, 39, 40, 41, 42, 43, 44, 45, 46, 47, 48, 49, 50, 51, 52, 53, 54, 55, 56, 57, 58, 59, 60, 61, 62, 63, 109, 110, 111, 112, 113, 114, 115, 116, 117, 118, 119, 120, 121, 122, 123, 124, 125, 126, 127, 128, 129, 130, 131, 132, 133, 134, 135] (by decide +kernel) (by decide +kernel)
set_option maxRecDepth 20000 in
theorem gX5_would_X3_copyFrom : GoodIn wsX5_would (wsV RX5 163 RX3 yX3_copyFrom wsX3_copyFrom) := goodIn_app (goodIn_of _ (by decide +kernel)) ggX5_would_X3_copyFrom
set_option maxRecDepth 20000 in
theorem ggX5_would_X3_passDays : GoodIn wsX5_would wsX3_passDays := goodIn_r _ [67, 28, 21, 25, 26, 68, 69, 70, 42, 71, 50, 49, 48, 46, 47, 72, 32, 33, 34, 73, 74, 75, 76, 77, 78, 79, 80, 81, 13, 82, 83, 84, 85, 86, 23, 20, 87, 88, 89, 90, 91, 44, 92, 5, 93, 3, 4, 6, 94, 95, 96, 97, 98, 99, 100, 101, 102, 109, 110, 111, 112, 113, 114, 115, 116, 117, 118, 119, 120, 121, 122, 123, 124, 125, 126, 127, 128, 129] (by decide +kernel) (by decide +kernel)
set_option maxRecDepth 20000 in
theorem gX5_would_X3_passDays : GoodIn wsX5_would (wsV RX5 119 RX3 yX3_passDays wsX3_passDays) := goodIn_app (goodIn_of _ (by decide +kernel)) ggX5_would_X3_passDays
set_option maxRecDepth 20000 in
theorem ggX5_count_X4_countLying : GoodIn wsX5_count wsX4_countLying := goodIn_r _ [21, 22, 23, 24, 25, 26, 81, 82, 83, 84, 85, 86, 87] (by decide +kernel) (by decide +kernel)
set_option maxRecDepth 20000 in
theorem gX5_count_X4_countLying : GoodIn wsX5_count (wsV RX5 166 RX4 yX4_countLying wsX4_countLying) := goodIn_app (goodIn_of _ (by decide +kernel)) ggX5_count_X4_countLying
set_option maxRecDepth 20000 in
theorem ggX5_count_X4_countStacked : GoodIn wsX5_count wsX4_countStacked := goodIn_r _ [30, 22, 31, 32, 33, 20, 34, 35, 36, 37, 38, 39, 23, 40, 25, 41, 24, 26, 81, 82, 83, 84, 85, 86, 87] (by decide +kernel) (by decide +kernel)
set_option maxRecDepth 20000 in
theorem gX5_count_X4_countStacked : GoodIn wsX5_count (wsV RX5 226 RX4 yX4_countStacked wsX4_countStacked) := goodIn_app (goodIn_of _ (by decide +kernel)) ggX5_count_X4_countStacked
set_option maxRecDepth 20000 in
theorem ggX5_count_X4_countDry : GoodIn wsX5_count wsX4_countDry := goodIn_r _ [45, 22, 46, 47, 48, 20, 49, 50, 36, 37, 38, 39, 23, 40, 25, 41, 24, 26, 81, 82, 83, 84, 85, 86, 87] (by decide +kernel) (by decide +kernel)
set_option maxRecDepth 20000 in
theorem gX5_count_X4_countDry : GoodIn wsX5_count (wsV RX5 229 RX4 yX4_countDry wsX4_countDry) := goodIn_app (goodIn_of _ (by decide +kernel)) ggX5_count_X4_countDry
set_option maxRecDepth 20000 in
theorem ggX5_count_X5_sumOf : GoodIn wsX5_count wsX5_sumOf := goodIn_r _ [53] (by decide +kernel) (by decide +kernel)
set_option maxRecDepth 20000 in
theorem gX5_count_X5_sumOf : GoodIn wsX5_count (va_wsS RX5 235 yX5_sumOf wsX5_sumOf) := goodIn_app (goodIn_of _ (by decide +kernel)) ggX5_count_X5_sumOf
set_option maxRecDepth 20000 in
theorem ggX5_count_X1_countOpen : GoodIn wsX5_count wsX1_countOpen := goodIn_r _ [58, 59, 60, 88, 89, 90, 91, 92, 93] (by decide +kernel) (by decide +kernel)
set_option maxRecDepth 20000 in
theorem gX5_count_X1_countOpen : GoodIn wsX5_count (wsV RX5 139 RX1 yX1_countOpen wsX1_countOpen) := goodIn_app (goodIn_of _ (by decide +kernel)) ggX5_count_X1_countOpen
set_option maxRecDepth 20000 in
theorem ggX5_isCommoner_X5_isWithin : GoodIn wsX5_isCommoner wsX5_isWithin := goodIn_r _ [4] (by decide +kernel) (by decide +kernel)
set_option maxRecDepth 20000 in
theorem gX5_isCommoner_X5_isWithin : GoodIn wsX5_isCommoner (va_wsS RX5 58 yX5_isWithin wsX5_isWithin) := goodIn_app (goodIn_of _ (by decide +kernel)) ggX5_isCommoner_X5_isWithin
set_option maxRecDepth 20000 in
theorem ggX5_isPlot_X5_isWithin : GoodIn wsX5_isPlot wsX5_isWithin := goodIn_r _ [4] (by decide +kernel) (by decide +kernel)
set_option maxRecDepth 20000 in
theorem gX5_isPlot_X5_isWithin : GoodIn wsX5_isPlot (va_wsS RX5 58 yX5_isWithin wsX5_isWithin) := goodIn_app (goodIn_of _ (by decide +kernel)) ggX5_isPlot_X5_isWithin
set_option maxRecDepth 20000 in
theorem ggX5_isWeather_X5_isWithin : GoodIn wsX5_isWeather wsX5_isWithin := goodIn_r _ [4] (by decide +kernel) (by decide +kernel)
set_option maxRecDepth 20000 in
theorem gX5_isWeather_X5_isWithin : GoodIn wsX5_isWeather (va_wsS RX5 58 yX5_isWithin wsX5_isWithin) := goodIn_app (goodIn_of _ (by decide +kernel)) ggX5_isWeather_X5_isWithin
set_option maxRecDepth 20000 in
theorem ggX5_isSettingValue_X5_isWithin : GoodIn wsX5_isSettingValue wsX5_isWithin := goodIn_r _ [4] (by decide +kernel) (by decide +kernel)
set_option maxRecDepth 20000 in
theorem gX5_isSettingValue_X5_isWithin : GoodIn wsX5_isSettingValue (va_wsS RX5 58 yX5_isWithin wsX5_isWithin) := goodIn_app (goodIn_of _ (by decide +kernel)) ggX5_isSettingValue_X5_isWithin
set_option maxRecDepth 20000 in
theorem ggX5_countEqual_X5_oneIf : GoodIn wsX5_countEqual wsX5_oneIf := goodIn_r _ [4] (by decide +kernel) (by decide +kernel)
set_option maxRecDepth 20000 in
theorem gX5_countEqual_X5_oneIf : GoodIn wsX5_countEqual (va_wsS RX5 188 yX5_oneIf wsX5_oneIf) := goodIn_app (goodIn_of _ (by decide +kernel)) ggX5_countEqual_X5_oneIf
set_option maxRecDepth 20000 in
theorem ggX6_isCommoner_X6_in : GoodIn wsX6_isCommoner wsX6_in := goodIn_r _ [4] (by decide +kernel) (by decide +kernel)
set_option maxRecDepth 20000 in
theorem gX6_isCommoner_X6_in : GoodIn wsX6_isCommoner (va_wsS RX6 32 yX6_in wsX6_in) := goodIn_app (goodIn_of _ (by decide +kernel)) ggX6_isCommoner_X6_in
set_option maxRecDepth 20000 in
theorem ggX6_isPlot_X6_in : GoodIn wsX6_isPlot wsX6_in := goodIn_r _ [4] (by decide +kernel) (by decide +kernel)
set_option maxRecDepth 20000 in
theorem gX6_isPlot_X6_in : GoodIn wsX6_isPlot (va_wsS RX6 32 yX6_in wsX6_in) := goodIn_app (goodIn_of _ (by decide +kernel)) ggX6_isPlot_X6_in
set_option maxRecDepth 20000 in
theorem ggX6_placeOf_X6_ofRow : GoodIn wsX6_placeOf wsX6_ofRow := goodIn_r _ [6, 1, 7, 8, 9, 10, 11, 12, 13, 14, 15, 16, 17, 18, 19] (by decide +kernel) (by decide +kernel)
set_option maxRecDepth 20000 in
theorem gX6_placeOf_X6_ofRow : GoodIn wsX6_placeOf (wsV RX6 36 RX6 yX6_ofRow wsX6_ofRow) := goodIn_app (goodIn_of _ (by decide +kernel)) ggX6_placeOf_X6_ofRow
set_option maxRecDepth 20000 in
theorem ggX6_weathers_X6_ofRow : GoodIn wsX6_weathers wsX6_ofRow := goodIn_r _ [6, 1, 14, 15, 16, 17, 18, 19, 20, 21, 22, 23, 24, 25, 26] (by decide +kernel) (by decide +kernel)
set_option maxRecDepth 20000 in
theorem gX6_weathers_X6_ofRow : GoodIn wsX6_weathers (wsV RX6 36 RX6 yX6_ofRow wsX6_ofRow) := goodIn_app (goodIn_of _ (by decide +kernel)) ggX6_weathers_X6_ofRow
set_option maxRecDepth 20000 in
theorem ggX6_weathers_X6_drier : GoodIn wsX6_weathers wsX6_drier := goodIn_r _ [9] (by decide +kernel) (by decide +kernel)
set_option maxRecDepth 20000 in
theorem gX6_weathers_X6_drier : GoodIn wsX6_weathers (va_wsS RX6 43 yX6_drier wsX6_drier) := goodIn_app (goodIn_of _ (by decide +kernel)) ggX6_weathers_X6_drier
set_option maxRecDepth 20000 in
theorem ggX6_weathers_X6_layRow : GoodIn wsX6_weathers wsX6_layRow := goodIn_r _ [13, 1, 14, 15, 16, 17, 18, 19, 20, 21, 22, 23, 24, 25, 26] (by decide +kernel) (by decide +kernel)
set_option maxRecDepth 20000 in
theorem gX6_weathers_X6_layRow : GoodIn wsX6_weathers (wsV RX6 46 RX6 yX6_layRow wsX6_layRow) := goodIn_app (goodIn_of _ (by decide +kernel)) ggX6_weathers_X6_layRow
set_option maxRecDepth 20000 in
theorem ggX6_brings_X6_ofRow : GoodIn wsX6_brings wsX6_ofRow := goodIn_r _ [5, 6, 7, 8, 9, 10, 11, 12, 13, 14, 15, 16, 17, 18, 19] (by decide +kernel) (by decide +kernel)
set_option maxRecDepth 20000 in
theorem gX6_brings_X6_ofRow : GoodIn wsX6_brings (wsV RX6 36 RX6 yX6_ofRow wsX6_ofRow) := goodIn_app (goodIn_of _ (by decide +kernel)) ggX6_brings_X6_ofRow
set_option maxRecDepth 20000 in
theorem ggX6_leaves_X6_layRow : GoodIn wsX6_leaves wsX6_layRow := goodIn_r _ [6, 1, 7, 8, 9, 10, 11, 12, 13, 14, 15, 16, 17, 18, 19] (by decide +kernel) (by decide +kernel)
set_option maxRecDepth 20000 in
theorem gX6_leaves_X6_layRow : GoodIn wsX6_leaves (wsV RX6 46 RX6 yX6_layRow wsX6_layRow) := goodIn_app (goodIn_of _ (by decide +kernel)) ggX6_leaves_X6_layRow
set_option maxRecDepth 20000 in
theorem ggX6_nextFor_X6_ofRow : GoodIn wsX6_nextFor wsX6_ofRow := goodIn_r _ [6, 1, 7, 8, 9, 10, 11, 12, 13, 14, 15, 16, 17, 18, 19] (by decide +kernel) (by decide +kernel)
set_option maxRecDepth 20000 in
theorem gX6_nextFor_X6_ofRow : GoodIn wsX6_nextFor (wsV RX6 36 RX6 yX6_ofRow wsX6_ofRow) := goodIn_app (goodIn_of _ (by decide +kernel)) ggX6_nextFor_X6_ofRow
set_option maxRecDepth 20000 in
theorem ggX6_serves_X6_nextFor : GoodIn wsX6_serves wsX6_nextFor := goodIn_r _ [6, 1, 7, 8, 9, 5, 10, 27, 28, 29, 30, 31, 32, 33, 34, 35, 36, 37, 38, 39] (by decide +kernel) (by decide +kernel)
set_option maxRecDepth 20000 in
theorem gX6_serves_X6_nextFor : GoodIn wsX6_serves (wsV RX6 50 RX6 yX6_nextFor wsX6_nextFor) := goodIn_app (goodIn_of _ (by decide +kernel)) ggX6_serves_X6_nextFor
set_option maxRecDepth 20000 in
theorem ggX6_serves_X6_brings : GoodIn wsX6_serves wsX6_brings := goodIn_r _ [14, 7, 8, 9, 5, 10, 1, 27, 28, 29, 30, 31, 32, 33, 34, 35, 36, 37, 38, 39] (by decide +kernel) (by decide +kernel)
set_option maxRecDepth 20000 in
theorem gX6_serves_X6_brings : GoodIn wsX6_serves (wsV RX6 54 RX6 yX6_brings wsX6_brings) := goodIn_app (goodIn_of _ (by decide +kernel)) ggX6_serves_X6_brings
set_option maxRecDepth 20000 in
theorem ggX6_serves_X6_addCommoner : GoodIn wsX6_serves wsX6_addCommoner := goodIn_r _ [18, 1, 27, 28, 29, 30, 31, 32, 33, 34, 35, 36, 37, 38, 39] (by decide +kernel) (by decide +kernel)
set_option maxRecDepth 20000 in
theorem gX6_serves_X6_addCommoner : GoodIn wsX6_serves (wsV RX6 57 RX6 yX6_addCommoner wsX6_addCommoner) := goodIn_app (goodIn_of _ (by decide +kernel)) ggX6_serves_X6_addCommoner
set_option maxRecDepth 20000 in
theorem ggX6_serves_X6_leaves : GoodIn wsX6_serves wsX6_leaves := goodIn_r _ [22, 1, 23, 24, 25, 5, 26, 27, 28, 29, 30, 31, 32, 33, 34, 35, 36, 37, 38, 39] (by decide +kernel) (by decide +kernel)
set_option maxRecDepth 20000 in
theorem gX6_serves_X6_leaves : GoodIn wsX6_serves (wsV RX6 60 RX6 yX6_leaves wsX6_leaves) := goodIn_app (goodIn_of _ (by decide +kernel)) ggX6_serves_X6_leaves
set_option maxRecDepth 20000 in
theorem ggX6_passes_X6_weathers : GoodIn wsX6_passes wsX6_weathers := goodIn_r _ [6, 1, 7, 8, 9, 5, 10, 11, 12, 13, 14, 15, 16, 17, 38, 39, 40, 41, 42, 43, 44, 45, 46, 47, 48, 49, 50] (by decide +kernel) (by decide +kernel)
set_option maxRecDepth 20000 in
theorem gX6_passes_X6_weathers : GoodIn wsX6_passes (wsV RX6 64 RX6 yX6_weathers wsX6_weathers) := goodIn_app (goodIn_of _ (by decide +kernel)) ggX6_passes_X6_weathers
set_option maxRecDepth 20000 in
theorem ggX6_passes_X6_serves : GoodIn wsX6_passes wsX6_serves := goodIn_r _ [21, 1, 22, 23, 24, 5, 25, 7, 8, 9, 10, 26, 27, 28, 29, 30, 31, 32, 33, 34, 35, 36, 37, 14, 15, 16, 17, 38, 39, 40, 41, 42, 43, 44, 45, 46, 47, 48, 49, 50] (by decide +kernel) (by decide +kernel)
set_option maxRecDepth 20000 in
theorem gX6_passes_X6_serves : GoodIn wsX6_passes (wsV RX6 67 RX6 yX6_serves wsX6_serves) := goodIn_app (goodIn_of _ (by decide +kernel)) ggX6_passes_X6_serves
set_option maxRecDepth 20000 in
theorem ggX6_lend_X6_isPlot : GoodIn wsX6_lend wsX6_isPlot := goodIn_r _ [6, 7, 8, 5, 9] (by decide +kernel) (by decide +kernel)
set_option maxRecDepth 20000 in
theorem gX6_lend_X6_isPlot : GoodIn wsX6_lend (va_wsS RX6 70 yX6_isPlot wsX6_isPlot) := goodIn_app (goodIn_of _ (by decide +kernel)) ggX6_lend_X6_isPlot
set_option maxRecDepth 20000 in
theorem ggX6_lend_X6_isCommoner : GoodIn wsX6_lend wsX6_isCommoner := goodIn_r _ [12, 7, 8, 5, 9] (by decide +kernel) (by decide +kernel)
set_option maxRecDepth 20000 in
theorem gX6_lend_X6_isCommoner : GoodIn wsX6_lend (va_wsS RX6 74 yX6_isCommoner wsX6_isCommoner) := goodIn_app (goodIn_of _ (by decide +kernel)) ggX6_lend_X6_isCommoner
set_option maxRecDepth 20000 in
theorem ggX6_lend_X6_ofPlot : GoodIn wsX6_lend wsX6_ofPlot := goodIn_r _ [16, 2, 23, 24, 25, 26, 27, 28, 29, 30, 31, 32, 33, 34, 35] (by decide +kernel) (by decide +kernel)
set_option maxRecDepth 20000 in
theorem gX6_lend_X6_ofPlot : GoodIn wsX6_lend (wsV RX6 77 RX6 yX6_ofPlot wsX6_ofPlot) := goodIn_app (goodIn_of _ (by decide +kernel)) ggX6_lend_X6_ofPlot
set_option maxRecDepth 20000 in
theorem ggX6_lend_X6_records : GoodIn wsX6_lend wsX6_records := goodIn_r _ [20, 21, 22, 2, 23, 24, 25, 26, 27, 28, 29, 30, 31, 32, 33, 34, 35] (by decide +kernel) (by decide +kernel)
set_option maxRecDepth 20000 in
theorem gX6_lend_X6_records : GoodIn wsX6_lend (wsV RX6 80 RX6 yX6_records wsX6_records) := goodIn_app (goodIn_of _ (by decide +kernel)) ggX6_lend_X6_records
set_option maxRecDepth 20000 in
theorem ggX6_handOver_X6_isPlot : GoodIn wsX6_handOver wsX6_isPlot := goodIn_r _ [6, 7, 8, 5, 9] (by decide +kernel) (by decide +kernel)
set_option maxRecDepth 20000 in
theorem gX6_handOver_X6_isPlot : GoodIn wsX6_handOver (va_wsS RX6 70 yX6_isPlot wsX6_isPlot) := goodIn_app (goodIn_of _ (by decide +kernel)) ggX6_handOver_X6_isPlot
set_option maxRecDepth 20000 in
theorem ggX6_handOver_X6_isCommoner : GoodIn wsX6_handOver wsX6_isCommoner := goodIn_r _ [12, 7, 8, 5, 9] (by decide +kernel) (by decide +kernel)
set_option maxRecDepth 20000 in
theorem gX6_handOver_X6_isCommoner : GoodIn wsX6_handOver (va_wsS RX6 74 yX6_isCommoner wsX6_isCommoner) := goodIn_app (goodIn_of _ (by decide +kernel)) ggX6_handOver_X6_isCommoner
set_option maxRecDepth 20000 in
theorem ggX6_handOver_X6_ofPlot : GoodIn wsX6_handOver wsX6_ofPlot := goodIn_r _ [16, 2, 23, 24, 25, 26, 27, 28, 29, 30, 31, 32, 33, 34, 35] (by decide +kernel) (by decide +kernel)
set_option maxRecDepth 20000 in
theorem gX6_handOver_X6_ofPlot : GoodIn wsX6_handOver (wsV RX6 77 RX6 yX6_ofPlot wsX6_ofPlot) := goodIn_app (goodIn_of _ (by decide +kernel)) ggX6_handOver_X6_ofPlot
set_option maxRecDepth 20000 in
theorem ggX6_handOver_X6_records : GoodIn wsX6_handOver wsX6_records := goodIn_r _ [20, 21, 22, 2, 23, 24, 25, 26, 27, 28, 29, 30, 31, 32, 33, 34, 35] (by decide +kernel) (by decide +kernel)
set_option maxRecDepth 20000 in
theorem gX6_handOver_X6_records : GoodIn wsX6_handOver (wsV RX6 80 RX6 yX6_records wsX6_records) := goodIn_app (goodIn_of _ (by decide +kernel)) ggX6_handOver_X6_records
set_option maxRecDepth 20000 in
theorem ggX6_setDays_X6_isCommoner : GoodIn wsX6_setDays wsX6_isCommoner := goodIn_r _ [5, 6, 7, 4, 8] (by decide +kernel) (by decide +kernel)
set_option maxRecDepth 20000 in
theorem gX6_setDays_X6_isCommoner : GoodIn wsX6_setDays (va_wsS RX6 74 yX6_isCommoner wsX6_isCommoner) := goodIn_app (goodIn_of _ (by decide +kernel)) ggX6_setDays_X6_isCommoner
set_option maxRecDepth 20000 in
theorem ggX6_setDays_X6_in : GoodIn wsX6_setDays wsX6_in := goodIn_r _ [8] (by decide +kernel) (by decide +kernel)
set_option maxRecDepth 20000 in
theorem gX6_setDays_X6_in : GoodIn wsX6_setDays (va_wsS RX6 32 yX6_in wsX6_in) := goodIn_app (goodIn_of _ (by decide +kernel)) ggX6_setDays_X6_in
set_option maxRecDepth 20000 in
theorem ggX6_setDays_X6_ofCommoner : GoodIn wsX6_setDays wsX6_ofCommoner := goodIn_r _ [12, 13, 24, 25, 26, 27, 28, 29, 30, 31, 32, 33, 34, 35, 36] (by decide +kernel) (by decide +kernel)
set_option maxRecDepth 20000 in
theorem gX6_setDays_X6_ofCommoner : GoodIn wsX6_setDays (wsV RX6 83 RX6 yX6_ofCommoner wsX6_ofCommoner) := goodIn_app (goodIn_of _ (by decide +kernel)) ggX6_setDays_X6_ofCommoner
set_option maxRecDepth 20000 in
theorem ggX6_setDays_X6_records : GoodIn wsX6_setDays wsX6_records := goodIn_r _ [17, 18, 19, 13, 24, 25, 26, 27, 28, 29, 30, 31, 32, 33, 34, 35, 36] (by decide +kernel) (by decide +kernel)
set_option maxRecDepth 20000 in
theorem gX6_setDays_X6_records : GoodIn wsX6_setDays (wsV RX6 80 RX6 yX6_records wsX6_records) := goodIn_app (goodIn_of _ (by decide +kernel)) ggX6_setDays_X6_records
set_option maxRecDepth 20000 in
theorem ggX6_setDays_X6_addCommoner : GoodIn wsX6_setDays wsX6_addCommoner := goodIn_r _ [23, 13, 24, 25, 26, 27, 28, 29, 30, 31, 32, 33, 34, 35, 36] (by decide +kernel) (by decide +kernel)
set_option maxRecDepth 20000 in
theorem gX6_setDays_X6_addCommoner : GoodIn wsX6_setDays (wsV RX6 57 RX6 yX6_addCommoner wsX6_addCommoner) := goodIn_app (goodIn_of _ (by decide +kernel)) ggX6_setDays_X6_addCommoner
set_option maxRecDepth 20000 in
theorem ggX6_set_X6_in : GoodIn wsX6_set wsX6_in := goodIn_r _ [6] (by decide +kernel) (by decide +kernel)
set_option maxRecDepth 20000 in
theorem gX6_set_X6_in : GoodIn wsX6_set (va_wsS RX6 32 yX6_in wsX6_in) := goodIn_app (goodIn_of _ (by decide +kernel)) ggX6_set_X6_in
set_option maxRecDepth 20000 in
theorem ggX6_set_X6_records : GoodIn wsX6_set wsX6_records := goodIn_r _ [10, 11, 12, 2, 13, 14, 15, 16, 17, 18, 19, 20, 21, 22, 23, 24, 25] (by decide +kernel) (by decide +kernel)
set_option maxRecDepth 20000 in
theorem gX6_set_X6_records : GoodIn wsX6_set (wsV RX6 80 RX6 yX6_records wsX6_records) := goodIn_app (goodIn_of _ (by decide +kernel)) ggX6_set_X6_records
set_option maxRecDepth 20000 in
theorem ggX6_hasRight_X6_isPlot : GoodIn wsX6_hasRight wsX6_isPlot := goodIn_r _ [4, 5, 6, 3, 7] (by decide +kernel) (by decide +kernel)
set_option maxRecDepth 20000 in
theorem gX6_hasRight_X6_isPlot : GoodIn wsX6_hasRight (va_wsS RX6 70 yX6_isPlot wsX6_isPlot) := goodIn_app (goodIn_of _ (by decide +kernel)) ggX6_hasRight_X6_isPlot
set_option maxRecDepth 20000 in
theorem ggX6_hasRight_X6_ofPlot : GoodIn wsX6_hasRight wsX6_ofPlot := goodIn_r _ [11, 12, 13, 14, 15, 16, 17, 18, 19, 20, 21, 22, 23, 24, 25] (by decide +kernel) (by decide +kernel)
set_option maxRecDepth 20000 in
theorem gX6_hasRight_X6_ofPlot : GoodIn wsX6_hasRight (wsV RX6 77 RX6 yX6_ofPlot wsX6_ofPlot) := goodIn_app (goodIn_of _ (by decide +kernel)) ggX6_hasRight_X6_ofPlot
set_option maxRecDepth 20000 in
theorem ggX6_reason_X6_ofCommoner : GoodIn wsX6_reason wsX6_ofCommoner := goodIn_r _ [6, 1, 21, 22, 23, 24, 25, 26, 27, 28, 29, 30, 31, 32, 33] (by decide +kernel) (by decide +kernel)
set_option maxRecDepth 20000 in
theorem gX6_reason_X6_ofCommoner : GoodIn wsX6_reason (wsV RX6 83 RX6 yX6_ofCommoner wsX6_ofCommoner) := goodIn_app (goodIn_of _ (by decide +kernel)) ggX6_reason_X6_ofCommoner
set_option maxRecDepth 20000 in
theorem ggX6_reason_X6_ofPlot : GoodIn wsX6_reason wsX6_ofPlot := goodIn_r _ [10, 1, 21, 22, 23, 24, 25, 26, 27, 28, 29, 30, 31, 32, 33] (by decide +kernel) (by decide +kernel)
set_option maxRecDepth 20000 in
theorem gX6_reason_X6_ofPlot : GoodIn wsX6_reason (wsV RX6 77 RX6 yX6_ofPlot wsX6_ofPlot) := goodIn_app (goodIn_of _ (by decide +kernel)) ggX6_reason_X6_ofPlot
set_option maxRecDepth 20000 in
theorem ggX6_reason_X6_hasRight : GoodIn wsX6_reason wsX6_hasRight := goodIn_r _ [14, 15, 16, 5, 17, 18, 19, 20, 7, 8, 9, 10, 1, 21, 22, 23, 24, 25, 26, 27, 28, 29, 30, 31, 32, 33] (by decide +kernel) (by decide +kernel)
set_option maxRecDepth 20000 in
theorem gX6_reason_X6_hasRight : GoodIn wsX6_reason (wsV RX6 86 RX6 yX6_hasRight wsX6_hasRight) := goodIn_app (goodIn_of _ (by decide +kernel)) ggX6_reason_X6_hasRight
set_option maxRecDepth 20000 in
theorem ggX6_opensDispute_X6_ofPlot : GoodIn wsX6_opensDispute wsX6_ofPlot := goodIn_r _ [6, 1, 7, 8, 9, 10, 11, 12, 13, 14, 15, 16, 17, 18, 19] (by decide +kernel) (by decide +kernel)
set_option maxRecDepth 20000 in
theorem gX6_opensDispute_X6_ofPlot : GoodIn wsX6_opensDispute (wsV RX6 77 RX6 yX6_ofPlot wsX6_ofPlot) := goodIn_app (goodIn_of _ (by decide +kernel)) ggX6_opensDispute_X6_ofPlot
set_option maxRecDepth 20000 in
theorem ggX6_cut_X6_isCommoner : GoodIn wsX6_cut wsX6_isCommoner := goodIn_r _ [6, 7, 8, 5, 9] (by decide +kernel) (by decide +kernel)
set_option maxRecDepth 20000 in
theorem gX6_cut_X6_isCommoner : GoodIn wsX6_cut (va_wsS RX6 74 yX6_isCommoner wsX6_isCommoner) := goodIn_app (goodIn_of _ (by decide +kernel)) ggX6_cut_X6_isCommoner
set_option maxRecDepth 20000 in
theorem ggX6_cut_X6_isPlot : GoodIn wsX6_cut wsX6_isPlot := goodIn_r _ [12, 7, 8, 5, 9] (by decide +kernel) (by decide +kernel)
set_option maxRecDepth 20000 in
theorem gX6_cut_X6_isPlot : GoodIn wsX6_cut (va_wsS RX6 70 yX6_isPlot wsX6_isPlot) := goodIn_app (goodIn_of _ (by decide +kernel)) ggX6_cut_X6_isPlot
set_option maxRecDepth 20000 in
theorem ggX6_cut_X6_reason : GoodIn wsX6_cut wsX6_reason := goodIn_r _ [16, 2, 17, 18, 19, 5, 20, 21, 22, 23, 24, 25, 26, 27, 28, 10, 11, 12, 7, 8, 9, 47, 48, 49, 50, 51, 52, 53, 54, 55, 56, 57, 58, 59] (by decide +kernel) (by decide +kernel)
set_option maxRecDepth 20000 in
theorem gX6_cut_X6_reason : GoodIn wsX6_cut (wsV RX6 90 RX6 yX6_reason wsX6_reason) := goodIn_app (goodIn_of _ (by decide +kernel)) ggX6_cut_X6_reason
set_option maxRecDepth 20000 in
theorem ggX6_cut_X6_records : GoodIn wsX6_cut wsX6_records := goodIn_r _ [32, 33, 34, 2, 47, 48, 49, 50, 51, 52, 53, 54, 55, 56, 57, 58, 59] (by decide +kernel) (by decide +kernel)
set_option maxRecDepth 20000 in
theorem gX6_cut_X6_records : GoodIn wsX6_cut (wsV RX6 80 RX6 yX6_records wsX6_records) := goodIn_app (goodIn_of _ (by decide +kernel)) ggX6_cut_X6_records
set_option maxRecDepth 20000 in
theorem ggX6_cut_X6_addCommoner : GoodIn wsX6_cut wsX6_addCommoner := goodIn_r _ [38, 2, 47, 48, 49, 50, 51, 52, 53, 54, 55, 56, 57, 58, 59] (by decide +kernel) (by decide +kernel)
set_option maxRecDepth 20000 in
theorem gX6_cut_X6_addCommoner : GoodIn wsX6_cut (wsV RX6 57 RX6 yX6_addCommoner wsX6_addCommoner) := goodIn_app (goodIn_of _ (by decide +kernel)) ggX6_cut_X6_addCommoner
set_option maxRecDepth 20000 in
theorem ggX6_cut_X6_layRow : GoodIn wsX6_cut wsX6_layRow := goodIn_r _ [42, 2, 47, 48, 49, 50, 51, 52, 53, 54, 55, 56, 57, 58, 59] (by decide +kernel) (by decide +kernel)
set_option maxRecDepth 20000 in
theorem gX6_cut_X6_layRow : GoodIn wsX6_cut (wsV RX6 46 RX6 yX6_layRow wsX6_layRow) := goodIn_app (goodIn_of _ (by decide +kernel)) ggX6_cut_X6_layRow
set_option maxRecDepth 20000 in
theorem ggX6_cut_X6_hasRight : GoodIn wsX6_cut wsX6_hasRight := goodIn_r _ [28, 10, 11, 5, 12, 7, 8, 9, 21, 22, 23, 24, 2, 47, 48, 49, 50, 51, 52, 53, 54, 55, 56, 57, 58, 59] (by decide +kernel) (by decide +kernel)
set_option maxRecDepth 20000 in
theorem gX6_cut_X6_hasRight : GoodIn wsX6_cut (wsV RX6 86 RX6 yX6_hasRight wsX6_hasRight) := goodIn_app (goodIn_of _ (by decide +kernel)) ggX6_cut_X6_hasRight
set_option maxRecDepth 20000 in
theorem ggX6_cut_X6_opensDispute : GoodIn wsX6_cut wsX6_opensDispute := goodIn_r _ [46, 2, 21, 22, 23, 5, 24, 47, 48, 49, 50, 51, 52, 53, 54, 55, 56, 57, 58, 59] (by decide +kernel) (by decide +kernel)
set_option maxRecDepth 20000 in
theorem gX6_cut_X6_opensDispute : GoodIn wsX6_cut (wsV RX6 93 RX6 yX6_opensDispute wsX6_opensDispute) := goodIn_app (goodIn_of _ (by decide +kernel)) ggX6_cut_X6_opensDispute
set_option maxRecDepth 20000 in
theorem ggX6_turn_X6_placeOf : GoodIn wsX6_turn wsX6_placeOf := goodIn_r _ [6, 7, 8, 9, 10, 5, 11, 22, 23, 24, 25, 26, 27, 28, 29, 30, 31, 32, 33, 34] (by decide +kernel) (by decide +kernel)
set_option maxRecDepth 20000 in
theorem gX6_turn_X6_placeOf : GoodIn wsX6_turn (wsV RX6 96 RX6 yX6_placeOf wsX6_placeOf) := goodIn_app (goodIn_of _ (by decide +kernel)) ggX6_turn_X6_placeOf
set_option maxRecDepth 20000 in
theorem ggX6_turn_X6_ofRow : GoodIn wsX6_turn wsX6_ofRow := goodIn_r _ [11, 7, 22, 23, 24, 25, 26, 27, 28, 29, 30, 31, 32, 33, 34] (by decide +kernel) (by decide +kernel)
set_option maxRecDepth 20000 in
theorem gX6_turn_X6_ofRow : GoodIn wsX6_turn (wsV RX6 36 RX6 yX6_ofRow wsX6_ofRow) := goodIn_app (goodIn_of _ (by decide +kernel)) ggX6_turn_X6_ofRow
set_option maxRecDepth 20000 in
theorem ggX6_turn_X6_records : GoodIn wsX6_turn wsX6_records := goodIn_r _ [15, 16, 17, 7, 22, 23, 24, 25, 26, 27, 28, 29, 30, 31, 32, 33, 34] (by decide +kernel) (by decide +kernel)
set_option maxRecDepth 20000 in
theorem gX6_turn_X6_records : GoodIn wsX6_turn (wsV RX6 80 RX6 yX6_records wsX6_records) := goodIn_app (goodIn_of _ (by decide +kernel)) ggX6_turn_X6_records
set_option maxRecDepth 20000 in
theorem ggX6_turn_X6_layRow : GoodIn wsX6_turn wsX6_layRow := goodIn_r _ [21, 7, 22, 23, 24, 25, 26, 27, 28, 29, 30, 31, 32, 33, 34] (by decide +kernel) (by decide +kernel)
set_option maxRecDepth 20000 in
theorem gX6_turn_X6_layRow : GoodIn wsX6_turn (wsV RX6 46 RX6 yX6_layRow wsX6_layRow) := goodIn_app (goodIn_of _ (by decide +kernel)) ggX6_turn_X6_layRow
set_option maxRecDepth 20000 in
theorem ggX6_rowsOf_X6_ofRow : GoodIn wsX6_rowsOf wsX6_ofRow := goodIn_r _ [6, 1, 7, 8, 9, 10, 11, 12, 13, 14, 15, 16, 17, 18, 19] (by decide +kernel) (by decide +kernel)
set_option maxRecDepth 20000 in
theorem gX6_rowsOf_X6_ofRow : GoodIn wsX6_rowsOf (wsV RX6 36 RX6 yX6_ofRow wsX6_ofRow) := goodIn_app (goodIn_of _ (by decide +kernel)) ggX6_rowsOf_X6_ofRow
set_option maxRecDepth 20000 in
theorem ggX6_stack_X6_placeOf : GoodIn wsX6_stack wsX6_placeOf := goodIn_r _ [6, 7, 8, 9, 10, 5, 11, 26, 27, 28, 29, 30, 31, 32, 33, 34, 35, 36, 37, 38] (by decide +kernel) (by decide +kernel)
set_option maxRecDepth 20000 in
theorem gX6_stack_X6_placeOf : GoodIn wsX6_stack (wsV RX6 96 RX6 yX6_placeOf wsX6_placeOf) := goodIn_app (goodIn_of _ (by decide +kernel)) ggX6_stack_X6_placeOf
set_option maxRecDepth 20000 in
theorem ggX6_stack_X6_ofRow : GoodIn wsX6_stack wsX6_ofRow := goodIn_r _ [11, 7, 26, 27, 28, 29, 30, 31, 32, 33, 34, 35, 36, 37, 38] (by decide +kernel) (by decide +kernel)
set_option maxRecDepth 20000 in
theorem gX6_stack_X6_ofRow : GoodIn wsX6_stack (wsV RX6 36 RX6 yX6_ofRow wsX6_ofRow) := goodIn_app (goodIn_of _ (by decide +kernel)) ggX6_stack_X6_ofRow
set_option maxRecDepth 20000 in
theorem ggX6_stack_X6_records : GoodIn wsX6_stack wsX6_records := goodIn_r _ [15, 16, 17, 7, 26, 27, 28, 29, 30, 31, 32, 33, 34, 35, 36, 37, 38] (by decide +kernel) (by decide +kernel)
set_option maxRecDepth 20000 in
theorem gX6_stack_X6_records : GoodIn wsX6_stack (wsV RX6 80 RX6 yX6_records wsX6_records) := goodIn_app (goodIn_of _ (by decide +kernel)) ggX6_stack_X6_records
set_option maxRecDepth 20000 in
theorem ggX6_stack_X6_layRow : GoodIn wsX6_stack wsX6_layRow := goodIn_r _ [21, 7, 26, 27, 28, 29, 30, 31, 32, 33, 34, 35, 36, 37, 38] (by decide +kernel) (by decide +kernel)
set_option maxRecDepth 20000 in
theorem gX6_stack_X6_layRow : GoodIn wsX6_stack (wsV RX6 46 RX6 yX6_layRow wsX6_layRow) := goodIn_app (goodIn_of _ (by decide +kernel)) ggX6_stack_X6_layRow
set_option maxRecDepth 20000 in
theorem ggX6_stack_X6_rowsOf : GoodIn wsX6_stack wsX6_rowsOf := goodIn_r _ [25, 7, 8, 9, 10, 5, 11, 26, 27, 28, 29, 30, 31, 32, 33, 34, 35, 36, 37, 38] (by decide +kernel) (by decide +kernel)
set_option maxRecDepth 20000 in
theorem gX6_stack_X6_rowsOf : GoodIn wsX6_stack (wsV RX6 99 RX6 yX6_rowsOf wsX6_rowsOf) := goodIn_app (goodIn_of _ (by decide +kernel)) ggX6_stack_X6_rowsOf
set_option maxRecDepth 20000 in
theorem ggX6_pass_X6_in : GoodIn wsX6_pass wsX6_in := goodIn_r _ [5] (by decide +kernel) (by decide +kernel)
set_option maxRecDepth 20000 in
theorem gX6_pass_X6_in : GoodIn wsX6_pass (va_wsS RX6 32 yX6_in wsX6_in) := goodIn_app (goodIn_of _ (by decide +kernel)) ggX6_pass_X6_in
set_option maxRecDepth 20000 in
theorem ggX6_pass_X6_records : GoodIn wsX6_pass wsX6_records := goodIn_r _ [9, 10, 11, 12, 52, 53, 54, 55, 56, 57, 58, 59, 60, 61, 62, 63, 64] (by decide +kernel) (by decide +kernel)
set_option maxRecDepth 20000 in
theorem gX6_pass_X6_records : GoodIn wsX6_pass (wsV RX6 80 RX6 yX6_records wsX6_records) := goodIn_app (goodIn_of _ (by decide +kernel)) ggX6_pass_X6_records
set_option maxRecDepth 20000 in
theorem ggX6_pass_X6_passes : GoodIn wsX6_pass wsX6_passes := goodIn_r _ [16, 12, 17, 18, 19, 4, 20, 21, 22, 23, 24, 25, 26, 27, 28, 29, 30, 31, 32, 33, 34, 35, 36, 37, 38, 39, 40, 41, 42, 43, 44, 45, 46, 47, 48, 49, 50, 51, 52, 53, 54, 55, 56, 57, 58, 59, 60, 61, 62, 63, 64] (by decide +kernel) (by decide +kernel)
set_option maxRecDepth 20000 in
theorem gX6_pass_X6_passes : GoodIn wsX6_pass (wsV RX6 103 RX6 yX6_passes wsX6_passes) := goodIn_app (goodIn_of _ (by decide +kernel)) ggX6_pass_X6_passes
set_option maxRecDepth 20000 in
theorem ggX6_passAll_X6_reads : GoodIn wsX6_passAll wsX6_reads := goodIn_r _ [8, 9, 2, 10, 11, 12, 13, 14, 7, 15, 3, 16, 17, 18, 19, 20, 21, 22, 23, 24, 25, 26, 27, 74, 75, 76, 77, 78, 79, 80, 81, 82, 83, 84, 85, 86] (by decide +kernel) (by decide +kernel)
set_option maxRecDepth 20000 in
theorem gX6_passAll_X6_reads : GoodIn wsX6_passAll (wsV RX6 106 RX6 yX6_reads wsX6_reads) := goodIn_app (goodIn_of _ (by decide +kernel)) ggX6_passAll_X6_reads
set_option maxRecDepth 20000 in
theorem ggX6_passAll_X6_records : GoodIn wsX6_passAll wsX6_records := goodIn_r _ [31, 32, 33, 34, 74, 75, 76, 77, 78, 79, 80, 81, 82, 83, 84, 85, 86] (by decide +kernel) (by decide +kernel)
set_option maxRecDepth 20000 in
theorem gX6_passAll_X6_records : GoodIn wsX6_passAll (wsV RX6 80 RX6 yX6_records wsX6_records) := goodIn_app (goodIn_of _ (by decide +kernel)) ggX6_passAll_X6_records
set_option maxRecDepth 20000 in
theorem ggX6_passAll_X6_passes : GoodIn wsX6_passAll wsX6_passes := goodIn_r _ [38, 34, 39, 40, 41, 7, 42, 43, 44, 45, 46, 47, 48, 49, 50, 51, 52, 53, 54, 55, 56, 57, 58, 59, 60, 61, 62, 63, 64, 65, 66, 67, 68, 69, 70, 71, 72, 73, 74, 75, 76, 77, 78, 79, 80, 81, 82, 83, 84, 85, 86] (by decide +kernel) (by decide +kernel)
set_option maxRecDepth 20000 in
theorem gX6_passAll_X6_passes : GoodIn wsX6_passAll (wsV RX6 103 RX6 yX6_passes wsX6_passes) := goodIn_app (goodIn_of _ (by decide +kernel)) ggX6_passAll_X6_passes
set_option maxRecDepth 20000 in
theorem ggX6_settle_X6_records : GoodIn wsX6_settle wsX6_records := goodIn_r _ [7, 8, 9, 2, 38, 39, 40, 41, 42, 43, 44, 45, 46, 47, 48, 49, 50] (by decide +kernel) (by decide +kernel)
set_option maxRecDepth 20000 in
theorem gX6_settle_X6_records : GoodIn wsX6_settle (wsV RX6 80 RX6 yX6_records wsX6_records) := goodIn_app (goodIn_of _ (by decide +kernel)) ggX6_settle_X6_records
set_option maxRecDepth 20000 in
theorem ggX6_settle_X6_ofDispute : GoodIn wsX6_settle wsX6_ofDispute := goodIn_r _ [13, 2, 38, 39, 40, 41, 42, 43, 44, 45, 46, 47, 48, 49, 50] (by decide +kernel) (by decide +kernel)
set_option maxRecDepth 20000 in
theorem gX6_settle_X6_ofDispute : GoodIn wsX6_settle (wsV RX6 113 RX6 yX6_ofDispute wsX6_ofDispute) := goodIn_app (goodIn_of _ (by decide +kernel)) ggX6_settle_X6_ofDispute
set_option maxRecDepth 20000 in
theorem ggX6_settle_X6_placeOf : GoodIn wsX6_settle wsX6_placeOf := goodIn_r _ [17, 2, 18, 19, 20, 6, 21, 38, 39, 40, 41, 42, 43, 44, 45, 46, 47, 48, 49, 50] (by decide +kernel) (by decide +kernel)
set_option maxRecDepth 20000 in
theorem gX6_settle_X6_placeOf : GoodIn wsX6_settle (wsV RX6 96 RX6 yX6_placeOf wsX6_placeOf) := goodIn_app (goodIn_of _ (by decide +kernel)) ggX6_settle_X6_placeOf
set_option maxRecDepth 20000 in
theorem ggX6_settle_X6_dropsOldest : GoodIn wsX6_settle wsX6_dropsOldest := goodIn_r _ [25, 2, 38, 39, 40, 41, 42, 43, 44, 45, 46, 47, 48, 49, 50] (by decide +kernel) (by decide +kernel)
set_option maxRecDepth 20000 in
theorem gX6_settle_X6_dropsOldest : GoodIn wsX6_settle (wsV RX6 116 RX6 yX6_dropsOldest wsX6_dropsOldest) := goodIn_app (goodIn_of _ (by decide +kernel)) ggX6_settle_X6_dropsOldest
set_option maxRecDepth 20000 in
theorem ggX6_settle_X6_ofCommoner : GoodIn wsX6_settle wsX6_ofCommoner := goodIn_r _ [29, 2, 38, 39, 40, 41, 42, 43, 44, 45, 46, 47, 48, 49, 50] (by decide +kernel) (by decide +kernel)
set_option maxRecDepth 20000 in
theorem gX6_settle_X6_ofCommoner : GoodIn wsX6_settle (wsV RX6 83 RX6 yX6_ofCommoner wsX6_ofCommoner) := goodIn_app (goodIn_of _ (by decide +kernel)) ggX6_settle_X6_ofCommoner
set_option maxRecDepth 20000 in
theorem ggX6_settle_X6_addCommoner : GoodIn wsX6_settle wsX6_addCommoner := goodIn_r _ [33, 2, 38, 39, 40, 41, 42, 43, 44, 45, 46, 47, 48, 49, 50] (by decide +kernel) (by decide +kernel)
set_option maxRecDepth 20000 in
theorem gX6_settle_X6_addCommoner : GoodIn wsX6_settle (wsV RX6 57 RX6 yX6_addCommoner wsX6_addCommoner) := goodIn_app (goodIn_of _ (by decide +kernel)) ggX6_settle_X6_addCommoner
set_option maxRecDepth 20000 in
theorem ggX6_settle_X6_layRow : GoodIn wsX6_settle wsX6_layRow := goodIn_r _ [37, 2, 38, 39, 40, 41, 42, 43, 44, 45, 46, 47, 48, 49, 50] (by decide +kernel) (by decide +kernel)
set_option maxRecDepth 20000 in
theorem gX6_settle_X6_layRow : GoodIn wsX6_settle (wsV RX6 46 RX6 yX6_layRow wsX6_layRow) := goodIn_app (goodIn_of _ (by decide +kernel)) ggX6_settle_X6_layRow
set_option maxRecDepth 20000 in
theorem ggX6_endYear_X6_records : GoodIn wsX6_endYear wsX6_records := goodIn_r _ [7, 8, 9, 2, 14, 15, 16, 17, 18, 19, 20, 21, 22, 23, 24, 25, 26] (by decide +kernel) (by decide +kernel)
set_option maxRecDepth 20000 in
theorem gX6_endYear_X6_records : GoodIn wsX6_endYear (wsV RX6 80 RX6 yX6_records wsX6_records) := goodIn_app (goodIn_of _ (by decide +kernel)) ggX6_endYear_X6_records
set_option maxRecDepth 20000 in
theorem ggX6_endYear_X6_ofPlot : GoodIn wsX6_endYear wsX6_ofPlot := goodIn_r _ [13, 2, 14, 15, 16, 17, 18, 19, 20, 21, 22, 23, 24, 25, 26] (by decide +kernel) (by decide +kernel)
set_option maxRecDepth 20000 in
theorem gX6_endYear_X6_ofPlot : GoodIn wsX6_endYear (wsV RX6 77 RX6 yX6_ofPlot wsX6_ofPlot) := goodIn_app (goodIn_of _ (by decide +kernel)) ggX6_endYear_X6_ofPlot
set_option maxRecDepth 20000 in
theorem ggX6_number_X6_sign : GoodIn wsX6_number wsX6_sign := goodIn_r _ [7, 2, 8, 9, 13, 14, 15, 16, 17, 18, 19, 20, 21, 22, 23, 24, 25] (by decide +kernel) (by decide +kernel)
set_option maxRecDepth 20000 in
theorem gX6_number_X6_sign : GoodIn wsX6_number (wsV RX6 125 RX6 yX6_sign wsX6_sign) := goodIn_app (goodIn_of _ (by decide +kernel)) ggX6_number_X6_sign
set_option maxRecDepth 20000 in
theorem ggX6_number_X6_in : GoodIn wsX6_number wsX6_in := goodIn_r _ [12] (by decide +kernel) (by decide +kernel)
set_option maxRecDepth 20000 in
theorem gX6_number_X6_in : GoodIn wsX6_number (va_wsS RX6 32 yX6_in wsX6_in) := goodIn_app (goodIn_of _ (by decide +kernel)) ggX6_number_X6_in
set_option maxRecDepth 20000 in
theorem ggX6_readsGroup_X6_sign : GoodIn wsX6_readsGroup wsX6_sign := goodIn_r _ [9, 2, 10, 11, 19, 20, 21, 22, 23, 24, 25, 26, 27, 28, 29, 30, 31] (by decide +kernel) (by decide +kernel)
set_option maxRecDepth 20000 in
theorem gX6_readsGroup_X6_sign : GoodIn wsX6_readsGroup (wsV RX6 125 RX6 yX6_sign wsX6_sign) := goodIn_app (goodIn_of _ (by decide +kernel)) ggX6_readsGroup_X6_sign
set_option maxRecDepth 20000 in
theorem ggX6_readsGroup_X6_number : GoodIn wsX6_readsGroup wsX6_number := goodIn_r _ [15, 1, 2, 5, 6, 7, 8, 9, 10, 11, 16, 17, 18, 19, 20, 21, 22, 23, 24, 25, 26, 27, 28, 29, 30, 31] (by decide +kernel) (by decide +kernel)
set_option maxRecDepth 20000 in
theorem gX6_readsGroup_X6_number : GoodIn wsX6_readsGroup (wsV RX6 132 RX6 yX6_number wsX6_number) := goodIn_app (goodIn_of _ (by decide +kernel)) ggX6_readsGroup_X6_number
set_option maxRecDepth 20000 in
theorem ggX6_reads_X6_readsGroup : GoodIn wsX6_reads wsX6_readsGroup := goodIn_r _ [9, 3, 1, 10, 2, 11, 12, 13, 8, 14, 4, 15, 16, 17, 18, 19, 20, 21, 22, 23, 24, 25, 26, 27, 28, 29, 30, 31, 32, 33, 34, 35] (by decide +kernel) (by decide +kernel)
set_option maxRecDepth 20000 in
theorem gX6_reads_X6_readsGroup : GoodIn wsX6_reads (wsV RX6 135 RX6 yX6_readsGroup wsX6_readsGroup) := goodIn_app (goodIn_of _ (by decide +kernel)) ggX6_reads_X6_readsGroup
set_option maxRecDepth 20000 in
theorem ggX6_restore_X6_records : GoodIn wsX6_restore wsX6_records := goodIn_r _ [9, 10, 11, 3, 12, 13, 14, 15, 16, 17, 18, 19, 20, 21, 22, 23, 24] (by decide +kernel) (by decide +kernel)
set_option maxRecDepth 20000 in
theorem gX6_restore_X6_records : GoodIn wsX6_restore (wsV RX6 80 RX6 yX6_records wsX6_records) := goodIn_app (goodIn_of _ (by decide +kernel)) ggX6_restore_X6_records
set_option maxRecDepth 20000 in
theorem ggX6_plotsOf_X6_ofPlot : GoodIn wsX6_plotsOf wsX6_ofPlot := goodIn_r _ [5, 6, 7, 8, 9, 10, 11, 12, 13, 14, 15, 16, 17, 18, 19] (by decide +kernel) (by decide +kernel)
set_option maxRecDepth 20000 in
theorem gX6_plotsOf_X6_ofPlot : GoodIn wsX6_plotsOf (wsV RX6 77 RX6 yX6_ofPlot wsX6_ofPlot) := goodIn_app (goodIn_of _ (by decide +kernel)) ggX6_plotsOf_X6_ofPlot
set_option maxRecDepth 20000 in
theorem ggX6_disputesOf_X6_ofDispute : GoodIn wsX6_disputesOf wsX6_ofDispute := goodIn_r _ [6, 1, 7, 8, 9, 10, 11, 12, 13, 14, 15, 16, 17, 18, 19] (by decide +kernel) (by decide +kernel)
set_option maxRecDepth 20000 in
theorem gX6_disputesOf_X6_ofDispute : GoodIn wsX6_disputesOf (wsV RX6 113 RX6 yX6_ofDispute wsX6_ofDispute) := goodIn_app (goodIn_of _ (by decide +kernel)) ggX6_disputesOf_X6_ofDispute
set_option maxRecDepth 20000 in
theorem ggX6_commoner_X6_isCommoner : GoodIn wsX6_commoner wsX6_isCommoner := goodIn_r _ [5, 6, 7, 4, 8] (by decide +kernel) (by decide +kernel)
set_option maxRecDepth 20000 in
theorem gX6_commoner_X6_isCommoner : GoodIn wsX6_commoner (va_wsS RX6 74 yX6_isCommoner wsX6_isCommoner) := goodIn_app (goodIn_of _ (by decide +kernel)) ggX6_commoner_X6_isCommoner
set_option maxRecDepth 20000 in
theorem ggX6_commoner_X6_ofCommoner : GoodIn wsX6_commoner wsX6_ofCommoner := goodIn_r _ [12, 13, 38, 39, 40, 41, 42, 43, 44, 45, 46, 47, 48, 49, 50] (by decide +kernel) (by decide +kernel)
set_option maxRecDepth 20000 in
theorem gX6_commoner_X6_ofCommoner : GoodIn wsX6_commoner (wsV RX6 83 RX6 yX6_ofCommoner wsX6_ofCommoner) := goodIn_app (goodIn_of _ (by decide +kernel)) ggX6_commoner_X6_ofCommoner
set_option maxRecDepth 20000 in
theorem ggX6_commoner_X6_rowsOf : GoodIn wsX6_commoner wsX6_rowsOf := goodIn_r _ [17, 13, 18, 19, 20, 4, 21, 38, 39, 40, 41, 42, 43, 44, 45, 46, 47, 48, 49, 50] (by decide +kernel) (by decide +kernel)
set_option maxRecDepth 20000 in
theorem gX6_commoner_X6_rowsOf : GoodIn wsX6_commoner (wsV RX6 99 RX6 yX6_rowsOf wsX6_rowsOf) := goodIn_app (goodIn_of _ (by decide +kernel)) ggX6_commoner_X6_rowsOf
set_option maxRecDepth 20000 in
theorem ggX6_commoner_X6_plotsOf : GoodIn wsX6_commoner wsX6_plotsOf := goodIn_r _ [25, 26, 27, 28, 4, 29, 13, 38, 39, 40, 41, 42, 43, 44, 45, 46, 47, 48, 49, 50] (by decide +kernel) (by decide +kernel)
set_option maxRecDepth 20000 in
theorem gX6_commoner_X6_plotsOf : GoodIn wsX6_commoner (wsV RX6 141 RX6 yX6_plotsOf wsX6_plotsOf) := goodIn_app (goodIn_of _ (by decide +kernel)) ggX6_commoner_X6_plotsOf
set_option maxRecDepth 20000 in
theorem ggX6_commoner_X6_disputesOf : GoodIn wsX6_commoner wsX6_disputesOf := goodIn_r _ [33, 13, 34, 35, 36, 4, 37, 38, 39, 40, 41, 42, 43, 44, 45, 46, 47, 48, 49, 50] (by decide +kernel) (by decide +kernel)
set_option maxRecDepth 20000 in
theorem gX6_commoner_X6_disputesOf : GoodIn wsX6_commoner (wsV RX6 144 RX6 yX6_disputesOf wsX6_disputesOf) := goodIn_app (goodIn_of _ (by decide +kernel)) ggX6_commoner_X6_disputesOf
set_option maxRecDepth 20000 in
theorem ggX6_plot_X6_isPlot : GoodIn wsX6_plot wsX6_isPlot := goodIn_r _ [5, 6, 7, 4, 8] (by decide +kernel) (by decide +kernel)
set_option maxRecDepth 20000 in
theorem gX6_plot_X6_isPlot : GoodIn wsX6_plot (va_wsS RX6 70 yX6_isPlot wsX6_isPlot) := goodIn_app (goodIn_of _ (by decide +kernel)) ggX6_plot_X6_isPlot
set_option maxRecDepth 20000 in
theorem ggX6_plot_X6_ofPlot : GoodIn wsX6_plot wsX6_ofPlot := goodIn_r _ [12, 13, 14, 15, 16, 17, 18, 19, 20, 21, 22, 23, 24, 25, 26] (by decide +kernel) (by decide +kernel)
set_option maxRecDepth 20000 in
theorem gX6_plot_X6_ofPlot : GoodIn wsX6_plot (wsV RX6 77 RX6 yX6_ofPlot wsX6_ofPlot) := goodIn_app (goodIn_of _ (by decide +kernel)) ggX6_plot_X6_ofPlot
set_option maxRecDepth 20000 in
theorem ggX6_plot_X6_in : GoodIn wsX6_plot wsX6_in := goodIn_r _ [8] (by decide +kernel) (by decide +kernel)
set_option maxRecDepth 20000 in
theorem gX6_plot_X6_in : GoodIn wsX6_plot (va_wsS RX6 32 yX6_in wsX6_in) := goodIn_app (goodIn_of _ (by decide +kernel)) ggX6_plot_X6_in
set_option maxRecDepth 20000 in
theorem ggX6_row_X6_placeOf : GoodIn wsX6_row wsX6_placeOf := goodIn_r _ [6, 7, 8, 9, 10, 5, 11, 19, 20, 21, 22, 23, 24, 25, 26, 27, 28, 29, 30, 31] (by decide +kernel) (by decide +kernel)
set_option maxRecDepth 20000 in
theorem gX6_row_X6_placeOf : GoodIn wsX6_row (wsV RX6 96 RX6 yX6_placeOf wsX6_placeOf) := goodIn_app (goodIn_of _ (by decide +kernel)) ggX6_row_X6_placeOf
set_option maxRecDepth 20000 in
theorem ggX6_row_X6_ofRow : GoodIn wsX6_row wsX6_ofRow := goodIn_r _ [11, 7, 19, 20, 21, 22, 23, 24, 25, 26, 27, 28, 29, 30, 31] (by decide +kernel) (by decide +kernel)
set_option maxRecDepth 20000 in
theorem gX6_row_X6_ofRow : GoodIn wsX6_row (wsV RX6 36 RX6 yX6_ofRow wsX6_ofRow) := goodIn_app (goodIn_of _ (by decide +kernel)) ggX6_row_X6_ofRow
set_option maxRecDepth 20000 in
theorem ggX6_row_X6_brings : GoodIn wsX6_row wsX6_brings := goodIn_r _ [15, 8, 9, 10, 5, 11, 7, 19, 20, 21, 22, 23, 24, 25, 26, 27, 28, 29, 30, 31] (by decide +kernel) (by decide +kernel)
set_option maxRecDepth 20000 in
theorem gX6_row_X6_brings : GoodIn wsX6_row (wsV RX6 54 RX6 yX6_brings wsX6_brings) := goodIn_app (goodIn_of _ (by decide +kernel)) ggX6_row_X6_brings
set_option maxRecDepth 20000 in
theorem ggX6_row_X6_in : GoodIn wsX6_row wsX6_in := goodIn_r _ [18] (by decide +kernel) (by decide +kernel)
set_option maxRecDepth 20000 in
theorem gX6_row_X6_in : GoodIn wsX6_row (va_wsS RX6 32 yX6_in wsX6_in) := goodIn_app (goodIn_of _ (by decide +kernel)) ggX6_row_X6_in
set_option maxRecDepth 20000 in
theorem ggX6_ahead_X6_ofRow : GoodIn wsX6_ahead wsX6_ofRow := goodIn_r _ [6, 1, 7, 8, 9, 10, 11, 12, 13, 14, 15, 16, 17, 18, 19] (by decide +kernel) (by decide +kernel)
set_option maxRecDepth 20000 in
theorem gX6_ahead_X6_ofRow : GoodIn wsX6_ahead (wsV RX6 36 RX6 yX6_ofRow wsX6_ofRow) := goodIn_app (goodIn_of _ (by decide +kernel)) ggX6_ahead_X6_ofRow
set_option maxRecDepth 20000 in
theorem ggX6_driest_X6_isCommoner : GoodIn wsX6_driest wsX6_isCommoner := goodIn_r _ [6, 7, 8, 5, 9] (by decide +kernel) (by decide +kernel)
set_option maxRecDepth 20000 in
theorem gX6_driest_X6_isCommoner : GoodIn wsX6_driest (va_wsS RX6 74 yX6_isCommoner wsX6_isCommoner) := goodIn_app (goodIn_of _ (by decide +kernel)) ggX6_driest_X6_isCommoner
set_option maxRecDepth 20000 in
theorem ggX6_driest_X6_ofRow : GoodIn wsX6_driest wsX6_ofRow := goodIn_r _ [13, 2, 18, 19, 20, 21, 22, 23, 24, 25, 26, 27, 28, 29, 30] (by decide +kernel) (by decide +kernel)
set_option maxRecDepth 20000 in
theorem gX6_driest_X6_ofRow : GoodIn wsX6_driest (wsV RX6 36 RX6 yX6_ofRow wsX6_ofRow) := goodIn_app (goodIn_of _ (by decide +kernel)) ggX6_driest_X6_ofRow
set_option maxRecDepth 20000 in
theorem ggX6_driest_X6_ahead : GoodIn wsX6_driest wsX6_ahead := goodIn_r _ [17, 2, 10, 11, 12, 5, 13, 18, 19, 20, 21, 22, 23, 24, 25, 26, 27, 28, 29, 30] (by decide +kernel) (by decide +kernel)
set_option maxRecDepth 20000 in
theorem gX6_driest_X6_ahead : GoodIn wsX6_driest (wsV RX6 147 RX6 yX6_ahead wsX6_ahead) := goodIn_app (goodIn_of _ (by decide +kernel)) ggX6_driest_X6_ahead
set_option maxRecDepth 20000 in
theorem ggX6_why_X6_isCommoner : GoodIn wsX6_why wsX6_isCommoner := goodIn_r _ [5, 6, 7, 4, 8] (by decide +kernel) (by decide +kernel)
set_option maxRecDepth 20000 in
theorem gX6_why_X6_isCommoner : GoodIn wsX6_why (va_wsS RX6 74 yX6_isCommoner wsX6_isCommoner) := goodIn_app (goodIn_of _ (by decide +kernel)) ggX6_why_X6_isCommoner
set_option maxRecDepth 20000 in
theorem ggX6_why_X6_isPlot : GoodIn wsX6_why wsX6_isPlot := goodIn_r _ [11, 6, 7, 4, 8] (by decide +kernel) (by decide +kernel)
set_option maxRecDepth 20000 in
theorem gX6_why_X6_isPlot : GoodIn wsX6_why (va_wsS RX6 70 yX6_isPlot wsX6_isPlot) := goodIn_app (goodIn_of _ (by decide +kernel)) ggX6_why_X6_isPlot
set_option maxRecDepth 20000 in
theorem ggX6_why_X6_reason : GoodIn wsX6_why wsX6_reason := goodIn_r _ [15, 16, 17, 18, 19, 4, 20, 21, 22, 23, 24, 25, 26, 27, 28, 9, 10, 11, 6, 7, 8, 29, 30, 31, 32, 33, 34, 35, 36, 37, 38, 39, 40, 41] (by decide +kernel) (by decide +kernel)
set_option maxRecDepth 20000 in
theorem gX6_why_X6_reason : GoodIn wsX6_why (wsV RX6 90 RX6 yX6_reason wsX6_reason) := goodIn_app (goodIn_of _ (by decide +kernel)) ggX6_why_X6_reason
set_option maxRecDepth 20000 in
theorem ggX6_dispute_X6_in : GoodIn wsX6_dispute wsX6_in := goodIn_r _ [6] (by decide +kernel) (by decide +kernel)
set_option maxRecDepth 20000 in
theorem gX6_dispute_X6_in : GoodIn wsX6_dispute (va_wsS RX6 32 yX6_in wsX6_in) := goodIn_app (goodIn_of _ (by decide +kernel)) ggX6_dispute_X6_in
set_option maxRecDepth 20000 in
theorem ggX6_dispute_X6_ofDispute : GoodIn wsX6_dispute wsX6_ofDispute := goodIn_r _ [10, 2, 11, 12, 13, 14, 15, 16, 17, 18, 19, 20, 21, 22, 23] (by decide +kernel) (by decide +kernel)
set_option maxRecDepth 20000 in
theorem gX6_dispute_X6_ofDispute : GoodIn wsX6_dispute (wsV RX6 113 RX6 yX6_ofDispute wsX6_ofDispute) := goodIn_app (goodIn_of _ (by decide +kernel)) ggX6_dispute_X6_ofDispute
set_option maxRecDepth 20000 in
theorem ggX6_cart_X6_in : GoodIn wsX6_cart wsX6_in := goodIn_r _ [6] (by decide +kernel) (by decide +kernel)
set_option maxRecDepth 20000 in
theorem gX6_cart_X6_in : GoodIn wsX6_cart (va_wsS RX6 32 yX6_in wsX6_in) := goodIn_app (goodIn_of _ (by decide +kernel)) ggX6_cart_X6_in
set_option maxRecDepth 20000 in
theorem ggX6_would_X6_in : GoodIn wsX6_would wsX6_in := goodIn_r _ [7] (by decide +kernel) (by decide +kernel)
set_option maxRecDepth 20000 in
theorem gX6_would_X6_in : GoodIn wsX6_would (va_wsS RX6 32 yX6_in wsX6_in) := goodIn_app (goodIn_of _ (by decide +kernel)) ggX6_would_X6_in
set_option maxRecDepth 20000 in
theorem ggX6_would_X6_passes : GoodIn wsX6_would wsX6_passes := goodIn_r _ [11, 3, 12, 13, 14, 6, 15, 16, 17, 18, 19, 20, 21, 22, 23, 24, 25, 26, 27, 28, 29, 30, 31, 32, 33, 34, 35, 36, 37, 38, 39, 40, 41, 42, 43, 44, 45, 46, 47, 48, 49, 50, 51, 52, 53, 54, 55, 56, 57, 58, 59] (by decide +kernel) (by decide +kernel)
set_option maxRecDepth 20000 in
theorem gX6_would_X6_passes : GoodIn wsX6_would (wsV RX6 103 RX6 yX6_passes wsX6_passes) := goodIn_app (goodIn_of _ (by decide +kernel)) ggX6_would_X6_passes
set_option maxRecDepth 20000 in
theorem ggX6_rowsThat_X6_ofRow : GoodIn wsX6_rowsThat wsX6_ofRow := goodIn_r _ [6, 1, 7, 8, 9, 10, 11, 12, 13, 14, 15, 16, 17, 18, 19] (by decide +kernel) (by decide +kernel)
set_option maxRecDepth 20000 in
theorem gX6_rowsThat_X6_ofRow : GoodIn wsX6_rowsThat (wsV RX6 36 RX6 yX6_ofRow wsX6_ofRow) := goodIn_app (goodIn_of _ (by decide +kernel)) ggX6_rowsThat_X6_ofRow
set_option maxRecDepth 20000 in
theorem ggX6_allPeats_X6_ofCommoner : GoodIn wsX6_allPeats wsX6_ofCommoner := goodIn_r _ [5, 6, 7, 8, 9, 10, 11, 12, 13, 14, 15, 16, 17, 18, 19] (by decide +kernel) (by decide +kernel)
set_option maxRecDepth 20000 in
theorem gX6_allPeats_X6_ofCommoner : GoodIn wsX6_allPeats (wsV RX6 83 RX6 yX6_ofCommoner wsX6_ofCommoner) := goodIn_app (goodIn_of _ (by decide +kernel)) ggX6_allPeats_X6_ofCommoner
set_option maxRecDepth 20000 in
theorem ggX6_allLayers_X6_ofPlot : GoodIn wsX6_allLayers wsX6_ofPlot := goodIn_r _ [5, 6, 7, 8, 9, 10, 11, 12, 13, 14, 15, 16, 17, 18, 19] (by decide +kernel) (by decide +kernel)
set_option maxRecDepth 20000 in
theorem gX6_allLayers_X6_ofPlot : GoodIn wsX6_allLayers (wsV RX6 77 RX6 yX6_ofPlot wsX6_ofPlot) := goodIn_app (goodIn_of _ (by decide +kernel)) ggX6_allLayers_X6_ofPlot
set_option maxRecDepth 20000 in
theorem ggX6_count_X6_rowsThat : GoodIn wsX6_count wsX6_rowsThat := goodIn_r _ [9, 2, 10, 11, 12, 8, 13, 30, 31, 32, 33, 34, 35, 36, 37, 38, 39, 40, 41, 42] (by decide +kernel) (by decide +kernel)
set_option maxRecDepth 20000 in
theorem gX6_count_X6_rowsThat : GoodIn wsX6_count (wsV RX6 150 RX6 yX6_rowsThat wsX6_rowsThat) := goodIn_app (goodIn_of _ (by decide +kernel)) ggX6_count_X6_rowsThat
set_option maxRecDepth 20000 in
theorem ggX6_count_X6_allPeats : GoodIn wsX6_count wsX6_allPeats := goodIn_r _ [17, 18, 19, 20, 8, 21, 2, 30, 31, 32, 33, 34, 35, 36, 37, 38, 39, 40, 41, 42] (by decide +kernel) (by decide +kernel)
set_option maxRecDepth 20000 in
theorem gX6_count_X6_allPeats : GoodIn wsX6_count (wsV RX6 153 RX6 yX6_allPeats wsX6_allPeats) := goodIn_app (goodIn_of _ (by decide +kernel)) ggX6_count_X6_allPeats
set_option maxRecDepth 20000 in
theorem ggX6_count_X6_allLayers : GoodIn wsX6_count wsX6_allLayers := goodIn_r _ [25, 26, 27, 28, 8, 29, 2, 30, 31, 32, 33, 34, 35, 36, 37, 38, 39, 40, 41, 42] (by decide +kernel) (by decide +kernel)
set_option maxRecDepth 20000 in
theorem gX6_count_X6_allLayers : GoodIn wsX6_count (wsV RX6 156 RX6 yX6_allLayers wsX6_allLayers) := goodIn_app (goodIn_of _ (by decide +kernel)) ggX6_count_X6_allLayers
theorem dJ9_max_7cf53_0 : decode cJ9_max_7cf53 0 = .ok (.iload_n 0, 1) := by decide +kernel
theorem dJ9_max_7cf53_1 : decode cJ9_max_7cf53 1 = .ok (.iload_n 1, 1) := by decide +kernel
theorem dJ9_max_7cf53_2 : decode cJ9_max_7cf53 2 = .ok (.if_icmp .lt 7, 3) := by decide +kernel
theorem dJ9_max_7cf53_5 : decode cJ9_max_7cf53 5 = .ok (.iload_n 0, 1) := by decide +kernel
theorem dJ9_max_7cf53_6 : decode cJ9_max_7cf53 6 = .ok (.goto 4, 3) := by decide +kernel
theorem dJ9_max_7cf53_9 : decode cJ9_max_7cf53 9 = .ok (.iload_n 1, 1) := by decide +kernel
theorem dJ9_max_7cf53_10 : decode cJ9_max_7cf53 10 = .ok (.ireturn, 1) := by decide +kernel
theorem dJ9_min_7cf53_0 : decode cJ9_min_7cf53 0 = .ok (.iload_n 0, 1) := by decide +kernel
theorem dJ9_min_7cf53_1 : decode cJ9_min_7cf53 1 = .ok (.iload_n 1, 1) := by decide +kernel
theorem dJ9_min_7cf53_2 : decode cJ9_min_7cf53 2 = .ok (.if_icmp .gt 7, 3) := by decide +kernel
theorem dJ9_min_7cf53_5 : decode cJ9_min_7cf53 5 = .ok (.iload_n 0, 1) := by decide +kernel
theorem dJ9_min_7cf53_6 : decode cJ9_min_7cf53 6 = .ok (.goto 4, 3) := by decide +kernel
theorem dJ9_min_7cf53_9 : decode cJ9_min_7cf53 9 = .ok (.iload_n 1, 1) := by decide +kernel
theorem dJ9_min_7cf53_10 : decode cJ9_min_7cf53 10 = .ok (.ireturn, 1) := by decide +kernel
set_option maxRecDepth 20000 in
theorem ggL_law_X5_init : GoodIn wsL_law wsX5_init := goodIn_r _ [8, 9, 10, 11, 12, 13, 14, 15, 16, 17, 18, 19, 20, 21, 22, 23, 24, 25, 26, 27, 28, 29, 30, 31, 32, 33, 34, 35, 36, 37, 38, 39, 40, 41, 42, 43, 44, 45, 46, 47, 48, 49, 50, 51, 52, 53, 54, 55, 56, 57, 58, 59, 60, 61, 62, 63, 64, 65, 66, 67, 68, 69, 70, 71, 72, 73, 74, 75, 76, 77, 78, 79, 80, 81, 82, 83, 720, 721, 722, 723, 724, 725, 726, 727, 728, 729, 730, 731, 732, 733, 701, 702, 703, 704, 705, 706, 734, 735, 736, 737, 738, 739, 740, 741, 742, 743, 744, 745, 746, 747, 748, 749, 750, 751, 752, 753, 754, 755, 756] (by decide +kernel) (by decide +kernel)
set_option maxRecDepth 20000 in
theorem gL_law_X5_init : GoodIn wsL_law (wsX5_init) := ggL_law_X5_init
set_option maxRecDepth 20000 in
theorem ggL_law_X6_init : GoodIn wsL_law wsX6_init := goodIn_r _ [86, 87, 10, 11, 31, 88, 89, 90, 91, 92, 93, 94, 707, 708, 709, 710, 711, 712, 713, 714, 715, 716, 717, 718, 719] (by decide +kernel) (by decide +kernel)
set_option maxRecDepth 20000 in
theorem gL_law_X6_init : GoodIn wsL_law (wsX6_init) := ggL_law_X6_init
set_option maxRecDepth 20000 in
theorem ggL_law_X5_lend : GoodIn wsL_law wsX5_lend := goodIn_r _ [98, 15, 99, 21, 100, 101, 2, 102, 103, 104, 105, 106, 107, 108, 109, 110, 111, 20, 112, 74, 73, 72, 71, 113, 114, 115, 116, 117, 118, 119, 120, 14, 121, 32, 33, 34, 35, 36, 37, 41, 45, 46, 122, 123, 124, 125, 126, 127, 128, 129, 130, 131, 132, 133, 134, 135, 136, 40, 137, 51, 52, 53, 55, 56, 57, 138, 139, 140, 141, 142, 143, 44, 144, 62, 63, 64, 65, 145, 146, 701, 702, 703, 704, 705, 706, 720, 721, 722, 723, 724, 725, 726, 727, 728, 729, 730, 731, 732, 733, 734, 735, 736, 737, 738, 744, 745, 746, 747, 748, 749, 750, 751, 752, 753, 754, 755, 756] (by decide +kernel) (by decide +kernel)
set_option maxRecDepth 20000 in
theorem gL_law_X5_lend : GoodIn wsL_law (wsV RL 13 RX5 yX5_lend wsX5_lend) := goodIn_app (goodIn_of _ (by decide +kernel)) ggL_law_X5_lend
set_option maxRecDepth 20000 in
theorem ggL_law_X6_lend : GoodIn wsL_law wsX6_lend := goodIn_r _ [150, 94, 88, 151, 152, 5, 153, 154, 155, 156, 157, 158, 159, 160, 161, 162, 163, 164, 165, 166, 167, 168, 90, 707, 708, 709, 710, 711, 712, 713, 714, 715, 716, 717, 718, 719] (by decide +kernel) (by decide +kernel)
set_option maxRecDepth 20000 in
theorem gL_law_X6_lend : GoodIn wsL_law (wsV RL 17 RX6 yX6_lend wsX6_lend) := goodIn_app (goodIn_of _ (by decide +kernel)) ggL_law_X6_lend
set_option maxRecDepth 20000 in
theorem ggL_law_X5_handOver : GoodIn wsL_law wsX5_handOver := goodIn_r _ [172, 15, 173, 21, 99, 100, 101, 2, 102, 103, 104, 105, 106, 107, 108, 109, 110, 111, 20, 112, 74, 73, 72, 71, 113, 114, 115, 116, 117, 118, 119, 120, 14, 121, 32, 33, 34, 35, 36, 37, 41, 45, 46, 122, 123, 124, 125, 126, 127, 128, 129, 130, 131, 132, 133, 134, 135, 136, 40, 137, 51, 52, 53, 55, 56, 57, 138, 139, 140, 141, 142, 143, 44, 144, 62, 63, 64, 65, 145, 146, 701, 702, 703, 704, 705, 706, 720, 721, 722, 723, 724, 725, 726, 727, 728, 729, 730, 731, 732, 733, 734, 735, 736, 737, 738, 744, 745, 746, 747, 748, 749, 750, 751, 752, 753, 754, 755, 756] (by decide +kernel) (by decide +kernel)
set_option maxRecDepth 20000 in
theorem gL_law_X5_handOver : GoodIn wsL_law (wsV RL 18 RX5 yX5_handOver wsX5_handOver) := goodIn_app (goodIn_of _ (by decide +kernel)) ggL_law_X5_handOver
set_option maxRecDepth 20000 in
theorem ggL_law_X6_handOver : GoodIn wsL_law wsX6_handOver := goodIn_r _ [177, 94, 88, 151, 152, 5, 153, 154, 155, 156, 157, 158, 159, 160, 161, 162, 163, 164, 165, 166, 167, 168, 90, 707, 708, 709, 710, 711, 712, 713, 714, 715, 716, 717, 718, 719] (by decide +kernel) (by decide +kernel)
set_option maxRecDepth 20000 in
theorem gL_law_X6_handOver : GoodIn wsL_law (wsV RL 21 RX6 yX6_handOver wsX6_handOver) := goodIn_app (goodIn_of _ (by decide +kernel)) ggL_law_X6_handOver
set_option maxRecDepth 20000 in
theorem ggL_law_X5_setDays : GoodIn wsL_law wsX5_setDays := goodIn_r _ [181, 15, 182, 21, 106, 107, 2, 108, 103, 104, 105, 109, 110, 111, 20, 112, 74, 73, 72, 71, 113, 114, 115, 116, 117, 118, 119, 120, 14, 121, 32, 33, 34, 35, 36, 37, 41, 45, 46, 122, 123, 124, 125, 126, 127, 128, 129, 130, 131, 132, 133, 134, 135, 136, 40, 137, 51, 52, 53, 55, 56, 57, 138, 139, 140, 141, 142, 143, 44, 144, 62, 63, 64, 65, 145, 146, 701, 702, 703, 704, 705, 706, 720, 721, 722, 723, 724, 725, 726, 727, 728, 729, 730, 731, 732, 733, 734, 735, 736, 737, 738, 744, 745, 746, 747, 748, 749, 750, 751, 752, 753, 754, 755, 756] (by decide +kernel) (by decide +kernel)
set_option maxRecDepth 20000 in
theorem gL_law_X5_setDays : GoodIn wsL_law (wsV RL 22 RX5 yX5_setDays wsX5_setDays) := goodIn_app (goodIn_of _ (by decide +kernel)) ggL_law_X5_setDays
set_option maxRecDepth 20000 in
theorem ggL_law_X6_setDays : GoodIn wsL_law wsX6_setDays := goodIn_r _ [186, 94, 157, 158, 5, 159, 154, 155, 156, 187, 188, 189, 190, 88, 164, 165, 166, 167, 168, 90, 191, 192, 193, 194, 707, 708, 709, 710, 711, 712, 713, 714, 715, 716, 717, 718, 719] (by decide +kernel) (by decide +kernel)
set_option maxRecDepth 20000 in
theorem gL_law_X6_setDays : GoodIn wsL_law (wsV RL 25 RX6 yX6_setDays wsX6_setDays) := goodIn_app (goodIn_of _ (by decide +kernel)) ggL_law_X6_setDays
set_option maxRecDepth 20000 in
theorem ggL_law_X5_set : GoodIn wsL_law wsX5_set := goodIn_r _ [198, 15, 199, 200, 21, 201, 202, 2, 203, 103, 104, 105, 109, 110, 111, 20, 112, 74, 73, 72, 71, 113, 114, 115, 116, 117, 118, 119, 120, 14, 121, 32, 33, 34, 35, 36, 37, 41, 45, 46, 122, 123, 124, 125, 126, 127, 128, 129, 130, 131, 132, 133, 134, 135, 136, 40, 137, 51, 52, 53, 55, 56, 57, 138, 139, 140, 141, 142, 143, 44, 144, 62, 63, 64, 65, 145, 146, 701, 702, 703, 704, 705, 706, 720, 721, 722, 723, 724, 725, 726, 727, 728, 729, 730, 731, 732, 733, 734, 735, 736, 737, 738, 744, 745, 746, 747, 748, 749, 750, 751, 752, 753, 754, 755, 756] (by decide +kernel) (by decide +kernel)
set_option maxRecDepth 20000 in
theorem gL_law_X5_set : GoodIn wsL_law (wsV RL 26 RX5 yX5_set wsX5_set) := goodIn_app (goodIn_of _ (by decide +kernel)) ggL_law_X5_set
set_option maxRecDepth 20000 in
theorem ggL_law_X6_set : GoodIn wsL_law wsX6_set := goodIn_r _ [207, 94, 88, 154, 155, 5, 156, 164, 165, 166, 167, 168, 90, 707, 708, 709, 710, 711, 712, 713, 714, 715, 716, 717, 718, 719] (by decide +kernel) (by decide +kernel)
set_option maxRecDepth 20000 in
theorem gL_law_X6_set : GoodIn wsL_law (wsV RL 29 RX6 yX6_set wsX6_set) := goodIn_app (goodIn_of _ (by decide +kernel)) ggL_law_X6_set
set_option maxRecDepth 20000 in
theorem ggL_law_X5_cut : GoodIn wsL_law wsX5_cut := goodIn_r _ [211, 15, 212, 21, 106, 107, 2, 108, 103, 104, 105, 100, 101, 102, 213, 214, 215, 14, 216, 32, 41, 217, 218, 219, 220, 36, 35, 221, 222, 223, 40, 224, 138, 57, 225, 226, 227, 228, 229, 230, 34, 231, 232, 233, 234, 109, 110, 111, 20, 112, 74, 73, 72, 71, 113, 114, 115, 116, 117, 118, 119, 120, 121, 33, 37, 45, 46, 122, 123, 124, 125, 126, 127, 128, 129, 130, 131, 132, 133, 134, 135, 136, 137, 51, 52, 53, 55, 56, 139, 140, 141, 142, 143, 44, 144, 62, 63, 64, 65, 145, 146, 235, 236, 237, 238, 239, 240, 241, 242, 243, 244, 245, 246, 247, 701, 702, 703, 704, 705, 706, 720, 721, 722, 723, 724, 725, 726, 727, 728, 729, 730, 731, 732, 733, 744, 745, 746, 747, 748, 749, 750, 734, 735, 736, 737, 738, 751, 752, 753, 754, 755, 756] (by decide +kernel) (by decide +kernel)
set_option maxRecDepth 20000 in
theorem gL_law_X5_cut : GoodIn wsL_law (wsV RL 30 RX5 yX5_cut wsX5_cut) := goodIn_app (goodIn_of _ (by decide +kernel)) ggL_law_X5_cut
set_option maxRecDepth 20000 in
theorem ggL_law_X6_cut : GoodIn wsL_law wsX6_cut := goodIn_r _ [251, 94, 88, 157, 158, 5, 159, 154, 155, 156, 151, 152, 153, 252, 253, 254, 255, 187, 188, 189, 190, 160, 161, 162, 163, 256, 257, 258, 259, 164, 165, 166, 167, 168, 90, 191, 192, 193, 194, 260, 261, 262, 263, 264, 265, 266, 267, 707, 708, 709, 710, 711, 712, 713, 714, 715, 716, 717, 718, 719] (by decide +kernel) (by decide +kernel)
set_option maxRecDepth 20000 in
theorem gL_law_X6_cut : GoodIn wsL_law (wsV RL 33 RX6 yX6_cut wsX6_cut) := goodIn_app (goodIn_of _ (by decide +kernel)) ggL_law_X6_cut
set_option maxRecDepth 20000 in
theorem ggL_law_X5_turn : GoodIn wsL_law wsX5_turn := goodIn_r _ [271, 15, 212, 272, 273, 21, 274, 275, 276, 277, 40, 278, 138, 57, 104, 2, 105, 109, 110, 111, 20, 112, 74, 73, 72, 71, 113, 114, 115, 116, 117, 118, 119, 120, 14, 121, 32, 33, 34, 35, 36, 37, 41, 45, 46, 122, 123, 124, 125, 126, 127, 128, 129, 130, 131, 132, 133, 134, 135, 136, 137, 51, 52, 53, 55, 56, 139, 140, 141, 142, 143, 44, 144, 62, 63, 64, 65, 145, 146, 701, 702, 703, 704, 705, 706, 720, 721, 722, 723, 724, 725, 726, 727, 728, 729, 730, 731, 732, 733, 744, 745, 746, 747, 748, 749, 750, 734, 735, 736, 737, 738, 751, 752, 753, 754, 755, 756] (by decide +kernel) (by decide +kernel)
set_option maxRecDepth 20000 in
theorem gL_law_X5_turn : GoodIn wsL_law (wsV RL 34 RX5 yX5_turn wsX5_turn) := goodIn_app (goodIn_of _ (by decide +kernel)) ggL_law_X5_turn
set_option maxRecDepth 20000 in
theorem ggL_law_X6_turn : GoodIn wsL_law wsX6_turn := goodIn_r _ [282, 94, 283, 284, 285, 5, 286, 88, 287, 288, 289, 290, 164, 165, 166, 167, 168, 90, 260, 261, 262, 263, 707, 708, 709, 710, 711, 712, 713, 714, 715, 716, 717, 718, 719] (by decide +kernel) (by decide +kernel)
set_option maxRecDepth 20000 in
theorem gL_law_X6_turn : GoodIn wsL_law (wsV RL 38 RX6 yX6_turn wsX6_turn) := goodIn_app (goodIn_of _ (by decide +kernel)) ggL_law_X6_turn
set_option maxRecDepth 20000 in
theorem ggL_law_X5_stack : GoodIn wsL_law wsX5_stack := goodIn_r _ [294, 15, 212, 272, 21, 295, 275, 276, 277, 40, 278, 138, 57, 104, 2, 105, 296, 297, 298, 299, 53, 300, 109, 110, 111, 20, 112, 74, 73, 72, 71, 113, 114, 115, 116, 117, 118, 119, 120, 14, 121, 32, 33, 34, 35, 36, 37, 41, 45, 46, 122, 123, 124, 125, 126, 127, 128, 129, 130, 131, 132, 133, 134, 135, 136, 137, 51, 52, 55, 56, 139, 140, 141, 142, 143, 44, 144, 62, 63, 64, 65, 145, 146, 301, 302, 303, 304, 305, 306, 307, 308, 225, 226, 701, 702, 703, 704, 705, 706, 720, 721, 722, 723, 724, 725, 726, 727, 728, 729, 730, 731, 732, 733, 744, 745, 746, 747, 748, 749, 750, 734, 735, 736, 737, 738, 751, 752, 753, 754, 755, 756] (by decide +kernel) (by decide +kernel)
set_option maxRecDepth 20000 in
theorem gL_law_X5_stack : GoodIn wsL_law (wsV RL 39 RX5 yX5_stack wsX5_stack) := goodIn_app (goodIn_of _ (by decide +kernel)) ggL_law_X5_stack
set_option maxRecDepth 20000 in
theorem ggL_law_X6_stack : GoodIn wsL_law wsX6_stack := goodIn_r _ [312, 94, 283, 284, 285, 5, 286, 88, 287, 288, 289, 290, 164, 165, 166, 167, 168, 90, 260, 261, 262, 263, 313, 314, 315, 316, 707, 708, 709, 710, 711, 712, 713, 714, 715, 716, 717, 718, 719] (by decide +kernel) (by decide +kernel)
set_option maxRecDepth 20000 in
theorem gL_law_X6_stack : GoodIn wsL_law (wsV RL 42 RX6 yX6_stack wsX6_stack) := goodIn_app (goodIn_of _ (by decide +kernel)) ggL_law_X6_stack
set_option maxRecDepth 20000 in
theorem ggL_law_X5_pass : GoodIn wsL_law wsX5_pass := goodIn_r _ [320, 21, 15, 321, 322, 2, 323, 103, 104, 105, 109, 110, 111, 20, 112, 74, 73, 72, 71, 113, 114, 115, 116, 117, 118, 119, 120, 14, 121, 32, 33, 34, 35, 36, 37, 41, 45, 46, 122, 123, 124, 125, 126, 127, 128, 129, 130, 131, 132, 133, 134, 135, 136, 40, 137, 51, 52, 53, 55, 56, 57, 138, 139, 140, 141, 142, 143, 44, 144, 62, 63, 64, 65, 145, 146, 324, 325, 326, 327, 328, 329, 330, 331, 332, 333, 334, 335, 336, 337, 338, 339, 340, 341, 342, 343, 344, 345, 346, 347, 348, 349, 350, 351, 107, 108, 352, 276, 277, 278, 353, 354, 355, 356, 300, 701, 702, 703, 704, 705, 706, 734, 735, 736, 737, 738, 720, 721, 722, 723, 724, 725, 726, 727, 728, 729, 730, 731, 732, 733, 744, 745, 746, 747, 748, 749, 750, 751, 752, 753, 754, 755, 756] (by decide +kernel) (by decide +kernel)
set_option maxRecDepth 20000 in
theorem gL_law_X5_pass : GoodIn wsL_law (wsV RL 43 RX5 yX5_pass wsX5_pass) := goodIn_app (goodIn_of _ (by decide +kernel)) ggL_law_X5_pass
set_option maxRecDepth 20000 in
theorem ggL_law_X6_pass : GoodIn wsL_law wsX6_pass := goodIn_r _ [360, 94, 154, 155, 5, 156, 164, 165, 166, 167, 168, 90, 88, 361, 362, 363, 364, 365, 366, 367, 368, 287, 288, 289, 290, 369, 370, 371, 260, 261, 262, 263, 372, 373, 374, 375, 376, 377, 378, 379, 380, 381, 382, 383, 191, 192, 193, 194, 384, 385, 386, 387, 707, 708, 709, 710, 711, 712, 713, 714, 715, 716, 717, 718, 719] (by decide +kernel) (by decide +kernel)
set_option maxRecDepth 20000 in
theorem gL_law_X6_pass : GoodIn wsL_law (wsV RL 46 RX6 yX6_pass wsX6_pass) := goodIn_app (goodIn_of _ (by decide +kernel)) ggL_law_X6_pass
set_option maxRecDepth 20000 in
theorem ggL_law_X5_passAll : GoodIn wsL_law wsX5_passAll := goodIn_r _ [391, 25, 21, 15, 392, 393, 394, 395, 396, 397, 24, 398, 399, 400, 81, 83, 401, 402, 403, 404, 405, 406, 407, 408, 409, 410, 82, 411, 412, 413, 109, 110, 111, 20, 112, 74, 73, 72, 71, 113, 114, 115, 116, 117, 118, 119, 120, 14, 121, 32, 33, 34, 35, 36, 37, 41, 45, 46, 122, 123, 124, 125, 126, 127, 2, 128, 129, 130, 131, 132, 133, 134, 135, 136, 40, 137, 51, 52, 53, 55, 56, 57, 138, 139, 140, 141, 142, 143, 44, 144, 62, 63, 64, 65, 145, 146, 324, 325, 326, 327, 328, 329, 330, 331, 332, 333, 334, 335, 336, 337, 338, 339, 340, 341, 342, 343, 344, 345, 346, 347, 348, 349, 350, 351, 107, 108, 103, 104, 105, 352, 276, 277, 278, 353, 354, 355, 356, 300, 701, 702, 703, 704, 705, 706, 739, 740, 741, 742, 743, 734, 735, 736, 737, 738, 720, 721, 722, 723, 724, 725, 726, 727, 728, 729, 730, 731, 732, 733, 744, 745, 746, 747, 748, 749, 750, 751, 752, 753, 754, 755, 756] (by decide +kernel) (by decide +kernel)
set_option maxRecDepth 20000 in
theorem gL_law_X5_passAll : GoodIn wsL_law (wsV RL 47 RX5 yX5_passAll wsX5_passAll) := goodIn_app (goodIn_of _ (by decide +kernel)) ggL_law_X5_passAll
set_option maxRecDepth 20000 in
theorem ggL_law_X6_passAll : GoodIn wsL_law wsX6_passAll := goodIn_r _ [417, 94, 418, 93, 419, 420, 421, 5, 422, 423, 424, 425, 426, 427, 428, 429, 430, 431, 432, 433, 92, 434, 435, 436, 437, 154, 155, 156, 164, 165, 166, 167, 168, 90, 88, 361, 362, 363, 364, 365, 366, 367, 368, 287, 288, 289, 290, 369, 370, 371, 260, 261, 262, 263, 372, 373, 374, 375, 376, 377, 378, 379, 380, 381, 382, 383, 191, 192, 193, 194, 384, 385, 386, 387, 707, 708, 709, 710, 711, 712, 713, 714, 715, 716, 717, 718, 719] (by decide +kernel) (by decide +kernel)
set_option maxRecDepth 20000 in
theorem gL_law_X6_passAll : GoodIn wsL_law (wsV RL 51 RX6 yX6_passAll wsX6_passAll) := goodIn_app (goodIn_of _ (by decide +kernel)) ggL_law_X6_passAll
set_option maxRecDepth 20000 in
theorem ggL_law_X5_settle : GoodIn wsL_law wsX5_settle := goodIn_r _ [441, 15, 442, 21, 443, 444, 445, 44, 446, 146, 145, 109, 110, 111, 20, 112, 74, 73, 72, 71, 113, 114, 115, 116, 117, 118, 119, 120, 14, 121, 32, 33, 34, 35, 36, 37, 41, 45, 46, 122, 123, 124, 125, 126, 127, 2, 128, 129, 130, 131, 132, 133, 134, 135, 136, 40, 137, 51, 52, 53, 55, 56, 57, 138, 139, 140, 141, 142, 143, 144, 62, 63, 64, 65, 447, 448, 449, 450, 451, 452, 453, 454, 455, 456, 457, 458, 459, 460, 217, 218, 219, 220, 107, 108, 103, 104, 105, 352, 276, 277, 278, 461, 462, 463, 464, 465, 701, 702, 703, 704, 705, 706, 720, 721, 722, 723, 724, 725, 726, 727, 728, 729, 730, 731, 732, 733, 751, 752, 753, 754, 755, 756, 734, 735, 736, 737, 738, 744, 745, 746, 747, 748, 749, 750] (by decide +kernel) (by decide +kernel)
set_option maxRecDepth 20000 in
theorem gL_law_X5_settle : GoodIn wsL_law (wsV RL 52 RX5 yX5_settle wsX5_settle) := goodIn_app (goodIn_of _ (by decide +kernel)) ggL_law_X5_settle
set_option maxRecDepth 20000 in
theorem ggL_law_X6_settle : GoodIn wsL_law wsX6_settle := goodIn_r _ [469, 94, 88, 164, 165, 166, 5, 167, 168, 90, 470, 471, 472, 473, 283, 284, 285, 286, 287, 288, 289, 290, 474, 475, 476, 477, 187, 188, 189, 190, 191, 192, 193, 194, 260, 261, 262, 263, 707, 708, 709, 710, 711, 712, 713, 714, 715, 716, 717, 718, 719] (by decide +kernel) (by decide +kernel)
set_option maxRecDepth 20000 in
theorem gL_law_X6_settle : GoodIn wsL_law (wsV RL 55 RX6 yX6_settle wsX6_settle) := goodIn_app (goodIn_of _ (by decide +kernel)) ggL_law_X6_settle
set_option maxRecDepth 20000 in
theorem ggL_law_X5_endYear : GoodIn wsL_law wsX5_endYear := goodIn_r _ [481, 21, 15, 109, 110, 111, 20, 112, 74, 73, 72, 71, 113, 114, 115, 116, 117, 118, 119, 120, 14, 121, 32, 33, 34, 35, 36, 37, 41, 45, 46, 122, 123, 124, 125, 126, 127, 2, 128, 129, 130, 131, 132, 133, 134, 135, 136, 40, 137, 51, 52, 53, 55, 56, 57, 138, 139, 140, 141, 142, 143, 44, 144, 62, 63, 64, 65, 145, 146, 482, 483, 484, 485, 486, 451, 487, 488, 489, 490, 491, 222, 223, 224, 225, 226, 701, 702, 703, 704, 705, 706, 734, 735, 736, 737, 738, 720, 721, 722, 723, 724, 725, 726, 727, 728, 729, 730, 731, 732, 733, 744, 745, 746, 747, 748, 749, 750, 751, 752, 753, 754, 755, 756] (by decide +kernel) (by decide +kernel)
set_option maxRecDepth 20000 in
theorem gL_law_X5_endYear : GoodIn wsL_law (wsV RL 56 RX5 yX5_endYear wsX5_endYear) := goodIn_app (goodIn_of _ (by decide +kernel)) ggL_law_X5_endYear
set_option maxRecDepth 20000 in
theorem ggL_law_X6_endYear : GoodIn wsL_law wsX6_endYear := goodIn_r _ [495, 94, 88, 164, 165, 166, 5, 167, 168, 90, 160, 161, 162, 163, 707, 708, 709, 710, 711, 712, 713, 714, 715, 716, 717, 718, 719] (by decide +kernel) (by decide +kernel)
set_option maxRecDepth 20000 in
theorem gL_law_X6_endYear : GoodIn wsL_law (wsV RL 59 RX6 yX6_endYear wsX6_endYear) := goodIn_app (goodIn_of _ (by decide +kernel)) ggL_law_X6_endYear
set_option maxRecDepth 20000 in
theorem ggL_law_X5_type : GoodIn wsL_law wsX5_type := goodIn_r _ [499, 25, 500, 501, 502, 503, 24, 504, 400, 81, 701, 702, 703, 704, 705, 706, 739, 740, 741, 742, 743] (by decide +kernel) (by decide +kernel)
set_option maxRecDepth 20000 in
theorem gL_law_X5_type : GoodIn wsL_law (wsV RL 60 RX5 yX5_type wsX5_type) := goodIn_app (goodIn_of _ (by decide +kernel)) ggL_law_X5_type
set_option maxRecDepth 20000 in
theorem ggL_law_X6_type : GoodIn wsL_law wsX6_type := goodIn_r _ [508, 94, 425, 92, 707, 708, 709, 710, 711, 712, 713, 714, 715, 716, 717, 718, 719] (by decide +kernel) (by decide +kernel)
set_option maxRecDepth 20000 in
theorem gL_law_X6_type : GoodIn wsL_law (wsV RL 64 RX6 yX6_type wsX6_type) := goodIn_app (goodIn_of _ (by decide +kernel)) ggL_law_X6_type
set_option maxRecDepth 20000 in
theorem ggL_law_X5_clearText : GoodIn wsL_law wsX5_clearText := goodIn_r _ [512, 25, 500, 701, 702, 703, 704, 705, 706, 739, 740, 741, 742, 743] (by decide +kernel) (by decide +kernel)
set_option maxRecDepth 20000 in
theorem gL_law_X5_clearText : GoodIn wsL_law (wsV RL 65 RX5 yX5_clearText wsX5_clearText) := goodIn_app (goodIn_of _ (by decide +kernel)) ggL_law_X5_clearText
set_option maxRecDepth 20000 in
theorem ggL_law_X6_clearText : GoodIn wsL_law wsX6_clearText := goodIn_r _ [516, 94, 425, 707, 708, 709, 710, 711, 712, 713, 714, 715, 716, 717, 718, 719] (by decide +kernel) (by decide +kernel)
set_option maxRecDepth 20000 in
theorem gL_law_X6_clearText : GoodIn wsL_law (wsV RL 68 RX6 yX6_clearText wsX6_clearText) := goodIn_app (goodIn_of _ (by decide +kernel)) ggL_law_X6_clearText
set_option maxRecDepth 20000 in
theorem ggL_law_X5_undo : GoodIn wsL_law wsX5_undo := goodIn_r _ [520, 21, 521, 15, 522, 523, 524, 20, 525, 113, 71, 72, 73, 74, 118, 119, 120, 14, 121, 32, 33, 34, 35, 36, 37, 41, 45, 46, 122, 123, 124, 125, 126, 127, 2, 128, 129, 115, 116, 117, 130, 131, 132, 133, 134, 135, 136, 40, 137, 51, 52, 53, 55, 56, 57, 138, 139, 140, 141, 142, 143, 44, 144, 62, 63, 64, 65, 145, 146, 701, 702, 703, 704, 705, 706, 734, 735, 736, 737, 738, 720, 721, 722, 723, 724, 725, 726, 727, 728, 729, 730, 731, 732, 733, 744, 745, 746, 747, 748, 749, 750, 751, 752, 753, 754, 755, 756] (by decide +kernel) (by decide +kernel)
set_option maxRecDepth 20000 in
theorem gL_law_X5_undo : GoodIn wsL_law (wsV RL 69 RX5 yX5_undo wsX5_undo) := goodIn_app (goodIn_of _ (by decide +kernel)) ggL_law_X5_undo
set_option maxRecDepth 20000 in
theorem ggL_law_X6_undo : GoodIn wsL_law wsX6_undo := goodIn_r _ [529, 94, 168, 88, 90, 707, 708, 709, 710, 711, 712, 713, 714, 715, 716, 717, 718, 719] (by decide +kernel) (by decide +kernel)
set_option maxRecDepth 20000 in
theorem gL_law_X6_undo : GoodIn wsL_law (wsV RL 72 RX6 yX6_undo wsX6_undo) := goodIn_app (goodIn_of _ (by decide +kernel)) ggL_law_X6_undo
set_option maxRecDepth 20000 in
theorem ggL_law_X5_keep : GoodIn wsL_law wsX5_keep := goodIn_r _ [533, 16, 15, 26, 212, 534, 119, 120, 14, 121, 32, 33, 34, 35, 36, 37, 41, 45, 46, 122, 123, 124, 125, 126, 127, 2, 128, 129, 115, 116, 117, 130, 131, 132, 133, 134, 135, 136, 40, 137, 51, 52, 53, 55, 56, 57, 138, 139, 140, 141, 142, 143, 44, 144, 62, 63, 64, 65, 145, 146, 535, 222, 223, 224, 225, 226, 701, 702, 703, 704, 705, 706, 720, 721, 722, 723, 724, 725, 726, 727, 728, 729, 730, 731, 732, 733, 744, 745, 746, 747, 748, 749, 750, 751, 752, 753, 754, 755, 756] (by decide +kernel) (by decide +kernel)
set_option maxRecDepth 20000 in
theorem gL_law_X5_keep : GoodIn wsL_law (wsV RL 73 RX5 yX5_keep wsX5_keep) := goodIn_app (goodIn_of _ (by decide +kernel)) ggL_law_X5_keep
set_option maxRecDepth 20000 in
theorem ggL_law_X6_keep : GoodIn wsL_law wsX6_keep := goodIn_r _ [539, 94, 91, 88, 540, 707, 708, 709, 710, 711, 712, 713, 714, 715, 716, 717, 718, 719] (by decide +kernel) (by decide +kernel)
set_option maxRecDepth 20000 in
theorem gL_law_X6_keep : GoodIn wsL_law (wsV RL 76 RX6 yX6_keep wsX6_keep) := goodIn_app (goodIn_of _ (by decide +kernel)) ggL_law_X6_keep
set_option maxRecDepth 20000 in
theorem ggL_law_X5_restore : GoodIn wsL_law wsX5_restore := goodIn_r _ [544, 26, 21, 15, 16, 212, 109, 110, 111, 20, 112, 74, 73, 72, 71, 113, 114, 115, 116, 117, 118, 119, 120, 14, 121, 32, 33, 34, 35, 36, 37, 41, 45, 46, 122, 123, 124, 125, 126, 127, 2, 128, 129, 130, 131, 132, 133, 134, 135, 136, 40, 137, 51, 52, 53, 55, 56, 57, 138, 139, 140, 141, 142, 143, 44, 144, 62, 63, 64, 65, 145, 146, 534, 535, 222, 223, 224, 225, 226, 701, 702, 703, 704, 705, 706, 720, 721, 722, 723, 724, 725, 726, 727, 728, 729, 730, 731, 732, 733, 734, 735, 736, 737, 738, 744, 745, 746, 747, 748, 749, 750, 751, 752, 753, 754, 755, 756] (by decide +kernel) (by decide +kernel)
set_option maxRecDepth 20000 in
theorem gL_law_X5_restore : GoodIn wsL_law (wsV RL 77 RX5 yX5_restore wsX5_restore) := goodIn_app (goodIn_of _ (by decide +kernel)) ggL_law_X5_restore
set_option maxRecDepth 20000 in
theorem ggL_law_X6_restore : GoodIn wsL_law wsX6_restore := goodIn_r _ [548, 94, 540, 88, 91, 164, 165, 166, 5, 167, 168, 90, 707, 708, 709, 710, 711, 712, 713, 714, 715, 716, 717, 718, 719] (by decide +kernel) (by decide +kernel)
set_option maxRecDepth 20000 in
theorem gL_law_X6_restore : GoodIn wsL_law (wsV RL 80 RX6 yX6_restore wsX6_restore) := goodIn_app (goodIn_of _ (by decide +kernel)) ggL_law_X6_restore
set_option maxRecDepth 20000 in
theorem ggL_law_X5_commoner : GoodIn wsL_law wsX5_commoner := goodIn_r _ [552, 15, 182, 553, 554, 212, 173, 99, 442, 106, 107, 2, 108, 103, 104, 105, 555, 556, 557, 40, 558, 138, 559, 560, 561, 562, 51, 300, 276, 277, 278, 57, 225, 226, 301, 302, 303, 304, 305, 306, 307, 308, 56, 563, 564, 565, 566, 567, 568, 569, 44, 570, 145, 146, 62, 63, 701, 702, 703, 704, 705, 706, 720, 721, 722, 723, 724, 725, 726, 727, 728, 729, 730, 731, 732, 733, 744, 745, 746, 747, 748, 749, 750, 751, 752, 753, 754, 755, 756] (by decide +kernel) (by decide +kernel)
set_option maxRecDepth 20000 in
theorem gL_law_X5_commoner : GoodIn wsL_law (wsV RL 81 RX5 yX5_commoner wsX5_commoner) := goodIn_app (goodIn_of _ (by decide +kernel)) ggL_law_X5_commoner
set_option maxRecDepth 20000 in
theorem ggL_law_X6_commoner : GoodIn wsL_law wsX6_commoner := goodIn_r _ [574, 94, 157, 158, 5, 159, 154, 155, 156, 187, 188, 189, 190, 88, 313, 314, 315, 316, 287, 288, 289, 290, 575, 576, 577, 578, 160, 161, 162, 163, 579, 580, 581, 582, 470, 471, 472, 473, 707, 708, 709, 710, 711, 712, 713, 714, 715, 716, 717, 718, 719] (by decide +kernel) (by decide +kernel)
set_option maxRecDepth 20000 in
theorem gL_law_X6_commoner : GoodIn wsL_law (wsV RL 84 RX6 yX6_commoner wsX6_commoner) := goodIn_app (goodIn_of _ (by decide +kernel)) ggL_law_X6_commoner
set_option maxRecDepth 20000 in
theorem ggL_law_X5_plot : GoodIn wsL_law wsX5_plot := goodIn_r _ [586, 15, 587, 173, 99, 100, 101, 2, 102, 103, 104, 105, 566, 225, 226, 701, 702, 703, 704, 705, 706, 720, 721, 722, 723, 724, 725, 726, 727, 728, 729, 730, 731, 732, 733] (by decide +kernel) (by decide +kernel)
set_option maxRecDepth 20000 in
theorem gL_law_X5_plot : GoodIn wsL_law (wsV RL 85 RX5 yX5_plot wsX5_plot) := goodIn_app (goodIn_of _ (by decide +kernel)) ggL_law_X5_plot
set_option maxRecDepth 20000 in
theorem ggL_law_X6_plot : GoodIn wsL_law wsX6_plot := goodIn_r _ [591, 94, 151, 152, 5, 153, 154, 155, 156, 160, 161, 162, 163, 88, 707, 708, 709, 710, 711, 712, 713, 714, 715, 716, 717, 718, 719] (by decide +kernel) (by decide +kernel)
set_option maxRecDepth 20000 in
theorem gL_law_X6_plot : GoodIn wsL_law (wsV RL 88 RX6 yX6_plot wsX6_plot) := goodIn_app (goodIn_of _ (by decide +kernel)) ggL_law_X6_plot
set_option maxRecDepth 20000 in
theorem ggL_law_X5_row : GoodIn wsL_law wsX5_row := goodIn_r _ [595, 15, 212, 295, 596, 274, 273, 272, 275, 276, 277, 40, 278, 138, 57, 104, 2, 105, 566, 225, 226, 296, 297, 298, 299, 53, 300, 597, 354, 355, 356, 333, 334, 116, 335, 701, 702, 703, 704, 705, 706, 720, 721, 722, 723, 724, 725, 726, 727, 728, 729, 730, 731, 732, 733, 744, 745, 746, 747, 748, 749, 750] (by decide +kernel) (by decide +kernel)
set_option maxRecDepth 20000 in
theorem gL_law_X5_row : GoodIn wsL_law (wsV RL 89 RX5 yX5_row wsX5_row) := goodIn_app (goodIn_of _ (by decide +kernel)) ggL_law_X5_row
set_option maxRecDepth 20000 in
theorem ggL_law_X6_row : GoodIn wsL_law wsX6_row := goodIn_r _ [601, 94, 283, 284, 285, 5, 286, 88, 287, 288, 289, 290, 380, 381, 382, 383, 154, 155, 156, 707, 708, 709, 710, 711, 712, 713, 714, 715, 716, 717, 718, 719] (by decide +kernel) (by decide +kernel)
set_option maxRecDepth 20000 in
theorem gL_law_X6_row : GoodIn wsL_law (wsV RL 92 RX6 yX6_row wsX6_row) := goodIn_app (goodIn_of _ (by decide +kernel)) ggL_law_X6_row
set_option maxRecDepth 20000 in
theorem ggL_law_X5_driest : GoodIn wsL_law wsX5_driest := goodIn_r _ [605, 15, 212, 106, 107, 2, 108, 103, 104, 105, 606, 607, 608, 40, 609, 138, 559, 560, 561, 562, 51, 300, 276, 277, 278, 57, 610, 611, 612, 613, 614, 615, 616, 617, 53, 225, 226, 701, 702, 703, 704, 705, 706, 720, 721, 722, 723, 724, 725, 726, 727, 728, 729, 730, 731, 732, 733, 744, 745, 746, 747, 748, 749, 750] (by decide +kernel) (by decide +kernel)
set_option maxRecDepth 20000 in
theorem gL_law_X5_driest : GoodIn wsL_law (wsV RL 93 RX5 yX5_driest wsX5_driest) := goodIn_app (goodIn_of _ (by decide +kernel)) ggL_law_X5_driest
set_option maxRecDepth 20000 in
theorem ggL_law_X6_driest : GoodIn wsL_law wsX6_driest := goodIn_r _ [621, 94, 88, 157, 158, 5, 159, 154, 155, 156, 287, 288, 289, 290, 622, 623, 624, 625, 707, 708, 709, 710, 711, 712, 713, 714, 715, 716, 717, 718, 719] (by decide +kernel) (by decide +kernel)
set_option maxRecDepth 20000 in
theorem gL_law_X6_driest : GoodIn wsL_law (wsV RL 96 RX6 yX6_driest wsX6_driest) := goodIn_app (goodIn_of _ (by decide +kernel)) ggL_law_X6_driest
set_option maxRecDepth 20000 in
theorem ggL_law_X5_why : GoodIn wsL_law wsX5_why := goodIn_r _ [629, 15, 106, 107, 2, 108, 103, 104, 105, 100, 101, 102, 213, 214, 215, 14, 216, 32, 41, 217, 218, 219, 220, 36, 35, 221, 222, 223, 40, 224, 138, 57, 225, 226, 227, 228, 229, 230, 34, 701, 702, 703, 704, 705, 706, 720, 721, 722, 723, 724, 725, 726, 727, 728, 729, 730, 731, 732, 733, 744, 745, 746, 747, 748, 749, 750] (by decide +kernel) (by decide +kernel)
set_option maxRecDepth 20000 in
theorem gL_law_X5_why : GoodIn wsL_law (wsV RL 97 RX5 yX5_why wsX5_why) := goodIn_app (goodIn_of _ (by decide +kernel)) ggL_law_X5_why
set_option maxRecDepth 20000 in
theorem ggL_law_X6_why : GoodIn wsL_law wsX6_why := goodIn_r _ [633, 94, 157, 158, 5, 159, 154, 155, 156, 151, 152, 153, 252, 253, 254, 255, 88, 187, 188, 189, 190, 160, 161, 162, 163, 256, 257, 258, 259, 707, 708, 709, 710, 711, 712, 713, 714, 715, 716, 717, 718, 719] (by decide +kernel) (by decide +kernel)
set_option maxRecDepth 20000 in
theorem gL_law_X6_why : GoodIn wsL_law (wsV RL 100 RX6 yX6_why wsX6_why) := goodIn_app (goodIn_of _ (by decide +kernel)) ggL_law_X6_why
set_option maxRecDepth 20000 in
theorem ggL_law_X5_dispute : GoodIn wsL_law wsX5_dispute := goodIn_r _ [637, 15, 442, 638, 639, 640, 641, 642, 103, 104, 2, 105, 443, 444, 445, 44, 446, 146, 145, 701, 702, 703, 704, 705, 706, 720, 721, 722, 723, 724, 725, 726, 727, 728, 729, 730, 731, 732, 733, 751, 752, 753, 754, 755, 756] (by decide +kernel) (by decide +kernel)
set_option maxRecDepth 20000 in
theorem gL_law_X5_dispute : GoodIn wsL_law (wsV RL 101 RX5 yX5_dispute wsX5_dispute) := goodIn_app (goodIn_of _ (by decide +kernel)) ggL_law_X5_dispute
set_option maxRecDepth 20000 in
theorem ggL_law_X6_dispute : GoodIn wsL_law wsX6_dispute := goodIn_r _ [646, 94, 88, 154, 155, 5, 156, 470, 471, 472, 473, 707, 708, 709, 710, 711, 712, 713, 714, 715, 716, 717, 718, 719] (by decide +kernel) (by decide +kernel)
set_option maxRecDepth 20000 in
theorem gL_law_X6_dispute : GoodIn wsL_law (wsV RL 104 RX6 yX6_dispute wsX6_dispute) := goodIn_app (goodIn_of _ (by decide +kernel)) ggL_law_X6_dispute
set_option maxRecDepth 20000 in
theorem ggL_law_X5_cart : GoodIn wsL_law wsX5_cart := goodIn_r _ [650, 15, 103, 104, 2, 105, 651, 340, 341, 14, 342, 123, 701, 702, 703, 704, 705, 706, 720, 721, 722, 723, 724, 725, 726, 727, 728, 729, 730, 731, 732, 733] (by decide +kernel) (by decide +kernel)
set_option maxRecDepth 20000 in
theorem gL_law_X5_cart : GoodIn wsL_law (wsV RL 105 RX5 yX5_cart wsX5_cart) := goodIn_app (goodIn_of _ (by decide +kernel)) ggL_law_X5_cart
set_option maxRecDepth 20000 in
theorem ggL_law_X6_cart : GoodIn wsL_law wsX6_cart := goodIn_r _ [655, 94, 88, 154, 155, 5, 156, 707, 708, 709, 710, 711, 712, 713, 714, 715, 716, 717, 718, 719] (by decide +kernel) (by decide +kernel)
set_option maxRecDepth 20000 in
theorem gL_law_X6_cart : GoodIn wsL_law (wsV RL 108 RX6 yX6_cart wsX6_cart) := goodIn_app (goodIn_of _ (by decide +kernel)) ggL_law_X6_cart
set_option maxRecDepth 20000 in
theorem ggL_law_X5_would : GoodIn wsL_law wsX5_would := goodIn_r _ [659, 17, 15, 103, 104, 2, 105, 321, 322, 323, 534, 119, 120, 14, 121, 32, 33, 34, 35, 36, 37, 41, 45, 46, 122, 123, 124, 125, 126, 127, 128, 129, 115, 116, 117, 130, 131, 132, 133, 134, 135, 136, 40, 137, 51, 52, 53, 55, 56, 57, 138, 139, 140, 141, 142, 143, 44, 144, 62, 63, 64, 65, 145, 146, 324, 325, 326, 327, 328, 329, 330, 331, 332, 333, 334, 335, 336, 337, 338, 339, 340, 341, 342, 343, 344, 345, 346, 347, 348, 349, 350, 351, 107, 108, 352, 276, 277, 278, 353, 354, 355, 356, 300, 701, 702, 703, 704, 705, 706, 720, 721, 722, 723, 724, 725, 726, 727, 728, 729, 730, 731, 732, 733, 744, 745, 746, 747, 748, 749, 750, 751, 752, 753, 754, 755, 756] (by decide +kernel) (by decide +kernel)
set_option maxRecDepth 20000 in
theorem gL_law_X5_would : GoodIn wsL_law (wsV RL 109 RX5 yX5_would wsX5_would) := goodIn_app (goodIn_of _ (by decide +kernel)) ggL_law_X5_would
set_option maxRecDepth 20000 in
theorem ggL_law_X6_would : GoodIn wsL_law wsX6_would := goodIn_r _ [663, 94, 89, 88, 154, 155, 5, 156, 361, 362, 363, 364, 365, 366, 367, 368, 287, 288, 289, 290, 369, 370, 371, 260, 261, 262, 263, 372, 373, 374, 375, 376, 377, 378, 379, 380, 381, 382, 383, 191, 192, 193, 194, 384, 385, 386, 387, 707, 708, 709, 710, 711, 712, 713, 714, 715, 716, 717, 718, 719] (by decide +kernel) (by decide +kernel)
set_option maxRecDepth 20000 in
theorem gL_law_X6_would : GoodIn wsL_law (wsV RL 112 RX6 yX6_would wsX6_would) := goodIn_app (goodIn_of _ (by decide +kernel)) ggL_law_X6_would
set_option maxRecDepth 20000 in
theorem ggL_law_X5_count : GoodIn wsL_law wsX5_count := goodIn_r _ [667, 15, 668, 669, 212, 670, 671, 554, 587, 442, 672, 199, 200, 21, 521, 25, 500, 535, 222, 223, 40, 224, 138, 57, 225, 2, 226, 673, 674, 675, 676, 305, 306, 307, 308, 56, 300, 276, 277, 278, 104, 105, 677, 678, 679, 680, 681, 297, 298, 299, 53, 682, 683, 684, 443, 444, 445, 44, 446, 146, 145, 701, 702, 703, 704, 705, 706, 720, 721, 722, 723, 724, 725, 726, 727, 728, 729, 730, 731, 732, 733, 744, 745, 746, 747, 748, 749, 750, 751, 752, 753, 754, 755, 756, 734, 735, 736, 737, 738, 739, 740, 741, 742, 743] (by decide +kernel) (by decide +kernel)
set_option maxRecDepth 20000 in
theorem gL_law_X5_count : GoodIn wsL_law (wsV RL 113 RX5 yX5_count wsX5_count) := goodIn_app (goodIn_of _ (by decide +kernel)) ggL_law_X5_count
set_option maxRecDepth 20000 in
theorem ggL_law_X6_count : GoodIn wsL_law wsX6_count := goodIn_r _ [688, 94, 88, 168, 425, 689, 690, 691, 5, 692, 287, 288, 289, 290, 693, 694, 695, 696, 187, 188, 189, 190, 697, 698, 699, 700, 160, 161, 162, 163, 707, 708, 709, 710, 711, 712, 713, 714, 715, 716, 717, 718, 719] (by decide +kernel) (by decide +kernel)
set_option maxRecDepth 20000 in
theorem gL_law_X6_count : GoodIn wsL_law (wsV RL 116 RX6 yX6_count wsX6_count) := goodIn_app (goodIn_of _ (by decide +kernel)) ggL_law_X6_count
abbrev vwCl : List vw_C := [(RX0, TX0, 5), (RX1, TX1, 6), (RX2, TX2, 5), (RX3, TX3, 14), (RX4, TX4, 7), (RX5, TX5, 6), (RX6, TX6, 13)]
