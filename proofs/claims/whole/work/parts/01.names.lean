/-! names, field tables, words: laid by a program out of the listing and the tables -/
abbrev RX0 : String := "FillForecast$Bin"
def TX0 : u_T := fun k => match k with
  | 0 => ("FillForecast$Bin", "street", "I", true)
  | 1 => ("FillForecast$Bin", "room", "I", true)
  | 2 => ("FillForecast$Bin", "places", "[I", true)
  | 3 => ("FillForecast$Bin", "amounts", "[I", true)
  | 4 => ("FillForecast$Bin", "wrongs", "[Z", true)
  | 5 => ("FillForecast$Bin", "gains", "[I", true)
  | 6 => ("FillForecast$Bin", "pointCount", "I", false)
  | _ => ("FillForecast$Bin", "rowCount", "I", false)
def tyX0 : Nat → FieldType := fun k => match k with
  | 0 => .int
  | 1 => .int
  | 2 => .array .int
  | 3 => .array .int
  | 4 => .array .boolean
  | 5 => .array .int
  | 6 => .int
  | _ => .int
abbrev wsX00 : List Cond := u_ws RX0 TX0 8
theorem nmX0 : ∀ a, a < 8 → ∀ b, b < 8 → a ≠ b → (TX0 a).2.1 ≠ (TX0 b).2.1 := by decide +kernel
theorem tyX0_ok : ∀ k, k < 8 → parseFieldDescriptor (TX0 k).2.2.1 = some (tyX0 k) := by decide +kernel
abbrev RX1 : String := "FillForecast$Calendar"
def TX1 : u_T := fun k => match k with
  | _ => ("FillForecast$Calendar", "holidays", "[Z", true)
def tyX1 : Nat → FieldType := fun k => match k with
  | _ => .array .boolean
abbrev wsX10 : List Cond := u_ws RX1 TX1 1
theorem nmX1 : ∀ a, a < 1 → ∀ b, b < 1 → a ≠ b → (TX1 a).2.1 ≠ (TX1 b).2.1 := by decide +kernel
theorem tyX1_ok : ∀ k, k < 1 → parseFieldDescriptor (TX1 k).2.2.1 = some (tyX1 k) := by decide +kernel
abbrev RX2 : String := "FillForecast$Fading"
def TX2 : u_T := fun k => match k with
  | _ => ("FillForecast$Fading", "weights", "[I", true)
def tyX2 : Nat → FieldType := fun k => match k with
  | _ => .array .int
abbrev wsX20 : List Cond := u_ws RX2 TX2 1
theorem nmX2 : ∀ a, a < 1 → ∀ b, b < 1 → a ≠ b → (TX2 a).2.1 ≠ (TX2 b).2.1 := by decide +kernel
theorem tyX2_ok : ∀ k, k < 1 → parseFieldDescriptor (TX2 k).2.2.1 = some (tyX2 k) := by decide +kernel
abbrev RX3 : String := "FillForecast$Outlook"
def TX3 : u_T := fun k => match k with
  | 0 => ("FillForecast$Outlook", "rates", "[I", true)
  | _ => ("FillForecast$Outlook", "sums", "[I", true)
def tyX3 : Nat → FieldType := fun k => match k with
  | 0 => .array .int
  | _ => .array .int
abbrev wsX30 : List Cond := u_ws RX3 TX3 2
theorem nmX3 : ∀ a, a < 2 → ∀ b, b < 2 → a ≠ b → (TX3 a).2.1 ≠ (TX3 b).2.1 := by decide +kernel
theorem tyX3_ok : ∀ k, k < 2 → parseFieldDescriptor (TX3 k).2.2.1 = some (tyX3 k) := by decide +kernel
abbrev RX4 : String := "FillForecast"
def TX4 : u_T := fun k => match k with
  | 0 => ("FillForecast", "calendar", "LFillForecast$Calendar;", true)
  | 1 => ("FillForecast", "fading", "LFillForecast$Fading;", true)
  | 2 => ("FillForecast", "outlook", "LFillForecast$Outlook;", true)
  | 3 => ("FillForecast", "bins", "[LFillForecast$Bin;", true)
  | 4 => ("FillForecast", "binCount", "I", false)
  | 5 => ("FillForecast", "silence", "I", false)
  | 6 => ("FillForecast", "earlyCents", "I", false)
  | _ => ("FillForecast", "lateCents", "I", false)
def tyX4 : Nat → FieldType := fun k => match k with
  | 0 => .object "FillForecast$Calendar"
  | 1 => .object "FillForecast$Fading"
  | 2 => .object "FillForecast$Outlook"
  | 3 => .array (.object "FillForecast$Bin")
  | 4 => .int
  | 5 => .int
  | 6 => .int
  | _ => .int
abbrev wsX40 : List Cond := u_ws RX4 TX4 8
theorem nmX4 : ∀ a, a < 8 → ∀ b, b < 8 → a ≠ b → (TX4 a).2.1 ≠ (TX4 b).2.1 := by decide +kernel
theorem tyX4_ok : ∀ k, k < 8 → parseFieldDescriptor (TX4 k).2.2.1 = some (tyX4 k) := by decide +kernel
abbrev RX5 : String := "FillForecastModel"
def TX5 : u_T := fun k => match k with
  | 0 => ("FillForecastModel", "bins", "I", false)
  | 1 => ("FillForecastModel", "streets", "[I", true)
  | 2 => ("FillForecastModel", "rooms", "[I", true)
  | 3 => ("FillForecastModel", "rowCounts", "[I", true)
  | 4 => ("FillForecastModel", "rowHours", "[I", true)
  | 5 => ("FillForecastModel", "rowShares", "[I", true)
  | 6 => ("FillForecastModel", "emptyCounts", "[I", true)
  | 7 => ("FillForecastModel", "emptyHours", "[I", true)
  | 8 => ("FillForecastModel", "kilograms", "[I", true)
  | 9 => ("FillForecastModel", "over", "I", false)
  | 10 => ("FillForecastModel", "under", "I", false)
  | 11 => ("FillForecastModel", "isHoliday", "[Z", true)
  | 12 => ("FillForecastModel", "quiet", "I", false)
  | 13 => ("FillForecastModel", "early", "I", false)
  | 14 => ("FillForecastModel", "late", "I", false)
  | 15 => ("FillForecastModel", "points", "I", false)
  | 16 => ("FillForecastModel", "hours", "[I", true)
  | 17 => ("FillForecastModel", "shares", "[I", true)
  | 18 => ("FillForecastModel", "isEmptying", "[Z", true)
  | 19 => ("FillForecastModel", "isWrong", "[Z", true)
  | 20 => ("FillForecastModel", "gains", "[I", true)
  | 21 => ("FillForecastModel", "rates", "[I", true)
  | _ => ("FillForecastModel", "sums", "[J", true)
def tyX5 : Nat → FieldType := fun k => match k with
  | 0 => .int
  | 1 => .array .int
  | 2 => .array .int
  | 3 => .array .int
  | 4 => .array .int
  | 5 => .array .int
  | 6 => .array .int
  | 7 => .array .int
  | 8 => .array .int
  | 9 => .int
  | 10 => .int
  | 11 => .array .boolean
  | 12 => .int
  | 13 => .int
  | 14 => .int
  | 15 => .int
  | 16 => .array .int
  | 17 => .array .int
  | 18 => .array .boolean
  | 19 => .array .boolean
  | 20 => .array .int
  | 21 => .array .int
  | _ => .array .long
abbrev wsX50 : List Cond := u_ws RX5 TX5 23
theorem nmX5 : ∀ a, a < 23 → ∀ b, b < 23 → a ≠ b → (TX5 a).2.1 ≠ (TX5 b).2.1 := by decide +kernel
theorem tyX5_ok : ∀ k, k < 23 → parseFieldDescriptor (TX5 k).2.2.1 = some (tyX5 k) := by decide +kernel
abbrev RL : String := "FillForecastLaw"
abbrev cX4_init : ByteArray := prog_1_method_1_code
abbrev yX4_init : MethodName := ⟨RX4, "<init>", "()V"⟩
abbrev cX1_init : ByteArray := prog_3_method_1_code
abbrev yX1_init : MethodName := ⟨RX1, "<init>", "()V"⟩
abbrev cX2_init : ByteArray := prog_4_method_1_code
abbrev yX2_init : MethodName := ⟨RX2, "<init>", "()V"⟩
abbrev cX2_setTo : ByteArray := prog_4_method_2_code
abbrev yX2_setTo : MethodName := ⟨RX2, "setTo", "(II)V"⟩
abbrev cX3_init : ByteArray := prog_5_method_1_code
abbrev yX3_init : MethodName := ⟨RX3, "<init>", "()V"⟩
abbrev cX4_bin : ByteArray := prog_1_method_2_code
abbrev yX4_bin : MethodName := ⟨RX4, "bin", "(II)I"⟩
abbrev cX4_isWithin : ByteArray := prog_1_method_19_code
abbrev yX4_isWithin : MethodName := ⟨RX4, "isWithin", "(III)Z"⟩
abbrev cX0_init : ByteArray := prog_2_method_1_code
abbrev yX0_init : MethodName := ⟨RX0, "<init>", "(II)V"⟩
abbrev cX4_row : ByteArray := prog_1_method_3_code
abbrev yX4_row : MethodName := ⟨RX4, "row", "(III)I"⟩
abbrev cX4_binOf : ByteArray := prog_1_method_22_code
abbrev yX4_binOf : MethodName := ⟨RX4, "binOf", "(I)LFillForecast$Bin;"⟩
abbrev cX4_isHour : ByteArray := prog_1_method_20_code
abbrev yX4_isHour : MethodName := ⟨RX4, "isHour", "(I)Z"⟩
abbrev cX0_putRow : ByteArray := prog_2_method_10_code
abbrev yX0_putRow : MethodName := ⟨RX0, "putRow", "(II)I"⟩
abbrev cX0_placeOfRow : ByteArray := prog_2_method_2_code
abbrev yX0_placeOfRow : MethodName := ⟨RX0, "placeOfRow", "(I)I"⟩
abbrev cX0_indexFor : ByteArray := prog_2_method_18_code
abbrev yX0_indexFor : MethodName := ⟨RX0, "indexFor", "(I)I"⟩
abbrev cX0_isTaken : ByteArray := prog_2_method_19_code
abbrev yX0_isTaken : MethodName := ⟨RX0, "isTaken", "(II)Z"⟩
abbrev cX0_open : ByteArray := prog_2_method_20_code
abbrev yX0_open : MethodName := ⟨RX0, "open", "(II)V"⟩
abbrev cX0_judge : ByteArray := prog_2_method_21_code
abbrev yX0_judge : MethodName := ⟨RX0, "judge", "()V"⟩
abbrev cX0_isRow : ByteArray := prog_2_method_17_code
abbrev yX0_isRow : MethodName := ⟨RX0, "isRow", "(I)Z"⟩
abbrev cX0_shareAt : ByteArray := prog_2_method_9_code
abbrev yX0_shareAt : MethodName := ⟨RX0, "shareAt", "(I)I"⟩
abbrev cX0_gainFrom : ByteArray := prog_2_method_22_code
abbrev yX0_gainFrom : MethodName := ⟨RX0, "gainFrom", "(II)I"⟩
abbrev cX0_hourAt : ByteArray := prog_2_method_7_code
abbrev yX0_hourAt : MethodName := ⟨RX0, "hourAt", "(I)I"⟩
abbrev cX4_emptied : ByteArray := prog_1_method_4_code
abbrev yX4_emptied : MethodName := ⟨RX4, "emptied", "(III)I"⟩
abbrev cX0_putEmptying : ByteArray := prog_2_method_11_code
abbrev yX0_putEmptying : MethodName := ⟨RX0, "putEmptying", "(II)I"⟩
abbrev cX0_placeOfEmptying : ByteArray := prog_2_method_3_code
abbrev yX0_placeOfEmptying : MethodName := ⟨RX0, "placeOfEmptying", "(I)I"⟩
abbrev cX4_fade : ByteArray := prog_1_method_5_code
abbrev yX4_fade : MethodName := ⟨RX4, "fade", "(II)Z"⟩
abbrev cX4_holiday : ByteArray := prog_1_method_6_code
abbrev yX4_holiday : MethodName := ⟨RX4, "holiday", "(IZ)Z"⟩
abbrev cX4_isDay : ByteArray := prog_1_method_21_code
abbrev yX4_isDay : MethodName := ⟨RX4, "isDay", "(I)Z"⟩
abbrev cX1_mark : ByteArray := prog_3_method_2_code
abbrev yX1_mark : MethodName := ⟨RX1, "mark", "(IZ)V"⟩
abbrev cX4_mean : ByteArray := prog_1_method_7_code
abbrev yX4_mean : MethodName := ⟨RX4, "mean", "(II)I"⟩
abbrev cX0_meanOn : ByteArray := prog_2_method_16_code
abbrev yX0_meanOn : MethodName := ⟨RX0, "meanOn", "(ILFillForecast$Calendar;LFillForecast$Fading;)I"⟩
abbrev cX1_weekdayOf : ByteArray := prog_3_method_3_code
abbrev yX1_weekdayOf : MethodName := ⟨RX1, "weekdayOf", "(I)I"⟩
abbrev cX2_weightOf : ByteArray := prog_4_method_3_code
abbrev yX2_weightOf : MethodName := ⟨RX2, "weightOf", "(I)I"⟩
abbrev cX4_rate : ByteArray := prog_1_method_8_code
abbrev yX4_rate : MethodName := ⟨RX4, "rate", "(II)I"⟩
abbrev cX4_rateOn : ByteArray := prog_1_method_23_code
abbrev yX4_rateOn : MethodName := ⟨RX4, "rateOn", "(LFillForecast$Bin;I)I"⟩
abbrev cX0_streetNumber : ByteArray := prog_2_method_4_code
abbrev yX0_streetNumber : MethodName := ⟨RX0, "streetNumber", "()I"⟩
abbrev cX4_streetRateOn : ByteArray := prog_1_method_24_code
abbrev yX4_streetRateOn : MethodName := ⟨RX4, "streetRateOn", "(II)I"⟩
abbrev cX4_weight : ByteArray := prog_1_method_9_code
abbrev yX4_weight : MethodName := ⟨RX4, "weight", "(I)I"⟩
abbrev cX4_expected : ByteArray := prog_1_method_10_code
abbrev yX4_expected : MethodName := ⟨RX4, "expected", "(II)J"⟩
abbrev cX4_lookAhead : ByteArray := prog_1_method_25_code
abbrev yX4_lookAhead : MethodName := ⟨RX4, "lookAhead", "(LFillForecast$Bin;)V"⟩
abbrev cX3_setRate : ByteArray := prog_5_method_2_code
abbrev yX3_setRate : MethodName := ⟨RX3, "setRate", "(II)V"⟩
abbrev cX3_sumUp : ByteArray := prog_5_method_3_code
abbrev yX3_sumUp : MethodName := ⟨RX3, "sumUp", "(LFillForecast$Calendar;)V"⟩
abbrev cX3_shareAt : ByteArray := prog_5_method_4_code
abbrev yX3_shareAt : MethodName := ⟨RX3, "shareAt", "(LFillForecast$Bin;I)J"⟩
abbrev cX0_latestUpTo : ByteArray := prog_2_method_15_code
abbrev yX0_latestUpTo : MethodName := ⟨RX0, "latestUpTo", "(I)I"⟩
abbrev cX3_shareBy : ByteArray := prog_5_method_6_code
abbrev yX3_shareBy : MethodName := ⟨RX3, "shareBy", "(LFillForecast$Bin;II)J"⟩
abbrev cX3_gainUpTo : ByteArray := prog_5_method_7_code
abbrev yX3_gainUpTo : MethodName := ⟨RX3, "gainUpTo", "(I)J"⟩
abbrev cX4_wrong : ByteArray := prog_1_method_11_code
abbrev yX4_wrong : MethodName := ⟨RX4, "wrong", "(II)I"⟩
abbrev cX0_hourOfWrong : ByteArray := prog_2_method_12_code
abbrev yX0_hourOfWrong : MethodName := ⟨RX0, "hourOfWrong", "(I)I"⟩
abbrev cX4_quiet : ByteArray := prog_1_method_12_code
abbrev yX4_quiet : MethodName := ⟨RX4, "quiet", "(I)Z"⟩
abbrev cX4_silent : ByteArray := prog_1_method_13_code
abbrev yX4_silent : MethodName := ⟨RX4, "silent", "(II)I"⟩
abbrev cX0_hasRowWithin : ByteArray := prog_2_method_14_code
abbrev yX0_hasRowWithin : MethodName := ⟨RX0, "hasRowWithin", "(II)Z"⟩
abbrev cX4_over : ByteArray := prog_1_method_14_code
abbrev yX4_over : MethodName := ⟨RX4, "over", "(II)I"⟩
abbrev cX4_cost : ByteArray := prog_1_method_15_code
abbrev yX4_cost : MethodName := ⟨RX4, "cost", "(II)Z"⟩
abbrev cX4_costOf : ByteArray := prog_1_method_16_code
abbrev yX4_costOf : MethodName := ⟨RX4, "costOf", "(II)J"⟩
abbrev cX4_centsOn : ByteArray := prog_1_method_26_code
abbrev yX4_centsOn : MethodName := ⟨RX4, "centsOn", "(LFillForecast$Bin;I)J"⟩
abbrev cX4_day : ByteArray := prog_1_method_17_code
abbrev yX4_day : MethodName := ⟨RX4, "day", "(III)I"⟩
abbrev cX4_check : ByteArray := prog_1_method_18_code
abbrev yX4_check : MethodName := ⟨RX4, "check", "(II)J"⟩
abbrev cX0_indexOfEmptying : ByteArray := prog_2_method_13_code
abbrev yX0_indexOfEmptying : MethodName := ⟨RX0, "indexOfEmptying", "(I)I"⟩
abbrev cX3_shareBefore : ByteArray := prog_5_method_5_code
abbrev yX3_shareBefore : MethodName := ⟨RX3, "shareBefore", "(LFillForecast$Bin;I)J"⟩
abbrev cX0_placeAt : ByteArray := prog_2_method_6_code
abbrev yX0_placeAt : MethodName := ⟨RX0, "placeAt", "(I)I"⟩
abbrev cX0_amountAt : ByteArray := prog_2_method_8_code
abbrev yX0_amountAt : MethodName := ⟨RX0, "amountAt", "(I)I"⟩
abbrev cX0_roomInKilograms : ByteArray := prog_2_method_5_code
abbrev yX0_roomInKilograms : MethodName := ⟨RX0, "roomInKilograms", "()I"⟩
abbrev cX5_init : ByteArray := prog_7_method_1_code
abbrev yX5_init : MethodName := ⟨RX5, "<init>", "()V"⟩
abbrev cX5_bin : ByteArray := prog_7_method_7_code
abbrev yX5_bin : MethodName := ⟨RX5, "bin", "(II)I"⟩
abbrev cX5_isIn : ByteArray := prog_7_method_3_code
abbrev yX5_isIn : MethodName := ⟨RX5, "isIn", "(III)Z"⟩
abbrev cX5_row : ByteArray := prog_7_method_8_code
abbrev yX5_row : MethodName := ⟨RX5, "row", "(III)I"⟩
abbrev cX5_isBin : ByteArray := prog_7_method_4_code
abbrev yX5_isBin : MethodName := ⟨RX5, "isBin", "(I)Z"⟩
abbrev cX5_isHour : ByteArray := prog_7_method_5_code
abbrev yX5_isHour : MethodName := ⟨RX5, "isHour", "(I)Z"⟩
abbrev cX5_emptied : ByteArray := prog_7_method_9_code
abbrev yX5_emptied : MethodName := ⟨RX5, "emptied", "(III)I"⟩
abbrev cX5_fade : ByteArray := prog_7_method_10_code
abbrev yX5_fade : MethodName := ⟨RX5, "fade", "(II)Z"⟩
abbrev cX5_holiday : ByteArray := prog_7_method_11_code
abbrev yX5_holiday : MethodName := ⟨RX5, "holiday", "(IZ)Z"⟩
abbrev cX5_isDay : ByteArray := prog_7_method_6_code
abbrev yX5_isDay : MethodName := ⟨RX5, "isDay", "(I)Z"⟩
abbrev cX5_quiet : ByteArray := prog_7_method_12_code
abbrev yX5_quiet : MethodName := ⟨RX5, "quiet", "(I)Z"⟩
abbrev cX5_cost : ByteArray := prog_7_method_13_code
abbrev yX5_cost : MethodName := ⟨RX5, "cost", "(II)Z"⟩
abbrev cX5_weight : ByteArray := prog_7_method_18_code
abbrev yX5_weight : MethodName := ⟨RX5, "weight", "(I)I"⟩
abbrev cX5_weightOf : ByteArray := prog_7_method_17_code
abbrev yX5_weightOf : MethodName := ⟨RX5, "weightOf", "(I)I"⟩
abbrev cX5_mean : ByteArray := prog_7_method_20_code
abbrev yX5_mean : MethodName := ⟨RX5, "mean", "(II)I"⟩
abbrev cX5_meanOf : ByteArray := prog_7_method_19_code
abbrev yX5_meanOf : MethodName := ⟨RX5, "meanOf", "(II)I"⟩
abbrev cX5_layOut : ByteArray := prog_7_method_16_code
abbrev yX5_layOut : MethodName := ⟨RX5, "layOut", "(I)V"⟩
abbrev cX5_place : ByteArray := prog_7_method_15_code
abbrev yX5_place : MethodName := ⟨RX5, "place", "(IIZ)V"⟩
abbrev cX5_weekdayOf : ByteArray := prog_7_method_14_code
abbrev yX5_weekdayOf : MethodName := ⟨RX5, "weekdayOf", "(I)I"⟩
abbrev cX5_rate : ByteArray := prog_7_method_22_code
abbrev yX5_rate : MethodName := ⟨RX5, "rate", "(II)I"⟩
abbrev cX5_rateOf : ByteArray := prog_7_method_21_code
abbrev yX5_rateOf : MethodName := ⟨RX5, "rateOf", "(II)I"⟩
abbrev cX5_expected : ByteArray := prog_7_method_25_code
abbrev yX5_expected : MethodName := ⟨RX5, "expected", "(II)J"⟩
abbrev cX5_prepare : ByteArray := prog_7_method_23_code
abbrev yX5_prepare : MethodName := ⟨RX5, "prepare", "(I)V"⟩
abbrev cX5_expectedBy : ByteArray := prog_7_method_24_code
abbrev yX5_expectedBy : MethodName := ⟨RX5, "expectedBy", "(II)J"⟩
abbrev cX5_wrong : ByteArray := prog_7_method_26_code
abbrev yX5_wrong : MethodName := ⟨RX5, "wrong", "(II)I"⟩
abbrev cX5_silent : ByteArray := prog_7_method_28_code
abbrev yX5_silent : MethodName := ⟨RX5, "silent", "(II)I"⟩
abbrev cX5_isSilent : ByteArray := prog_7_method_27_code
abbrev yX5_isSilent : MethodName := ⟨RX5, "isSilent", "(II)Z"⟩
abbrev cX5_over : ByteArray := prog_7_method_29_code
abbrev yX5_over : MethodName := ⟨RX5, "over", "(II)I"⟩
abbrev cX5_costOf : ByteArray := prog_7_method_31_code
abbrev yX5_costOf : MethodName := ⟨RX5, "costOf", "(II)J"⟩
abbrev cX5_costOn : ByteArray := prog_7_method_30_code
abbrev yX5_costOn : MethodName := ⟨RX5, "costOn", "(I)J"⟩
abbrev cX5_day : ByteArray := prog_7_method_32_code
abbrev yX5_day : MethodName := ⟨RX5, "day", "(III)I"⟩
abbrev cX5_check : ByteArray := prog_7_method_33_code
abbrev yX5_check : MethodName := ⟨RX5, "check", "(II)J"⟩
abbrev cL_law : ByteArray := code
abbrev yL_law : MethodName := ⟨RL, "law", "([I)Z"⟩
abbrev vwCl : List vw_C := [(RX0, TX0, 8), (RX1, TX1, 1), (RX2, TX2, 1), (RX3, TX3, 2), (RX4, TX4, 8), (RX5, TX5, 23)]
/-- the words that calls keep -/
def BIG : List Cond := lw_tbl.filter goodWord
theorem mB {w : Cond} (i : Nat) (h : lw_tbl[i]? = some w) (hg : goodWord w = true) : w ∈ BIG := List.mem_filter.mpr ⟨List.mem_of_getElem? h, hg⟩
theorem BIG_in : ∀ w ∈ BIG, w ∈ lw_tbl := fun _ h => (List.mem_filter.mp h).1
theorem BIG_good : ∀ w ∈ BIG, goodWord w = true := fun _ h => (List.mem_filter.mp h).2
theorem gB {ws : List Cond} (h : ∀ w ∈ ws, w ∈ BIG) : GoodIn BIG ws := fun w hw => ⟨h w hw, good_of_word (BIG_good w (h w hw))⟩
theorem gBc {c : Cond} (h : c ∈ BIG) : ∀ w ∈ c :: BIG, w ∈ BIG := fun w hw => (List.mem_cons.mp hw).elim (fun e => e ▸ h) id
theorem gV {own C : String} {idx : Nat} {y : MethodName} {c : Cond} (h1 : Cond.methodLink own idx y ∈ BIG) (h2 : Cond.instanceMethod y ∈ BIG) (h3 : Cond.selects C y y ∈ BIG) (h4 : Cond.initialized C ∈ BIG) (h5 : c ∈ BIG) : GoodIn BIG (wsV own idx C y (c :: BIG)) := gB (fun w hw => by
  rcases List.mem_append.mp hw with h | h
  · simp only [List.mem_cons, List.not_mem_nil, or_false] at h
    rcases h with rfl | rfl | rfl | rfl <;> assumption
  · exact gBc h5 w h)
theorem gS {own : String} {idx : Nat} {y : MethodName} {c : Cond} (h1 : Cond.methodLink own idx y ∈ BIG) (h2 : Cond.static y ∈ BIG) (h3 : Cond.initialized y.cls ∈ BIG) (h5 : c ∈ BIG) : GoodIn BIG (va_wsS own idx y (c :: BIG)) := gB (fun w hw => by
  rcases List.mem_append.mp hw with h | h
  · simp only [List.mem_cons, List.not_mem_nil, or_false] at h
    rcases h with rfl | rfl | rfl <;> assumption
  · exact gBc h5 w h)
theorem gI0 {c : Cond} (h5 : c ∈ BIG) : GoodIn BIG (c :: BIG) := gB (gBc h5)
theorem w_sel_X4_binOf : Cond.selects "FillForecast" yX4_binOf yX4_binOf ∈ BIG := mB 0 (by decide +kernel) (by decide +kernel)
theorem w_sel_X0_indexFor : Cond.selects "FillForecast$Bin" yX0_indexFor yX0_indexFor ∈ BIG := mB 1 (by decide +kernel) (by decide +kernel)
theorem w_sel_X0_isTaken : Cond.selects "FillForecast$Bin" yX0_isTaken yX0_isTaken ∈ BIG := mB 2 (by decide +kernel) (by decide +kernel)
theorem w_sel_X0_open : Cond.selects "FillForecast$Bin" yX0_open yX0_open ∈ BIG := mB 3 (by decide +kernel) (by decide +kernel)
theorem w_sel_X0_judge : Cond.selects "FillForecast$Bin" yX0_judge yX0_judge ∈ BIG := mB 4 (by decide +kernel) (by decide +kernel)
theorem w_sel_X0_isRow : Cond.selects "FillForecast$Bin" yX0_isRow yX0_isRow ∈ BIG := mB 5 (by decide +kernel) (by decide +kernel)
theorem w_sel_X0_gainFrom : Cond.selects "FillForecast$Bin" yX0_gainFrom yX0_gainFrom ∈ BIG := mB 6 (by decide +kernel) (by decide +kernel)
theorem w_sel_X4_rateOn : Cond.selects "FillForecast" yX4_rateOn yX4_rateOn ∈ BIG := mB 7 (by decide +kernel) (by decide +kernel)
theorem w_sel_X4_streetRateOn : Cond.selects "FillForecast" yX4_streetRateOn yX4_streetRateOn ∈ BIG := mB 8 (by decide +kernel) (by decide +kernel)
theorem w_sel_X4_lookAhead : Cond.selects "FillForecast" yX4_lookAhead yX4_lookAhead ∈ BIG := mB 9 (by decide +kernel) (by decide +kernel)
theorem w_sel_X3_shareBy : Cond.selects "FillForecast$Outlook" yX3_shareBy yX3_shareBy ∈ BIG := mB 10 (by decide +kernel) (by decide +kernel)
theorem w_sel_X3_gainUpTo : Cond.selects "FillForecast$Outlook" yX3_gainUpTo yX3_gainUpTo ∈ BIG := mB 11 (by decide +kernel) (by decide +kernel)
theorem w_sel_X4_centsOn : Cond.selects "FillForecast" yX4_centsOn yX4_centsOn ∈ BIG := mB 12 (by decide +kernel) (by decide +kernel)
theorem w_sel_X5_isBin : Cond.selects "FillForecastModel" yX5_isBin yX5_isBin ∈ BIG := mB 13 (by decide +kernel) (by decide +kernel)
theorem w_sel_X5_weightOf : Cond.selects "FillForecastModel" yX5_weightOf yX5_weightOf ∈ BIG := mB 14 (by decide +kernel) (by decide +kernel)
theorem w_sel_X5_meanOf : Cond.selects "FillForecastModel" yX5_meanOf yX5_meanOf ∈ BIG := mB 15 (by decide +kernel) (by decide +kernel)
theorem w_sel_X5_layOut : Cond.selects "FillForecastModel" yX5_layOut yX5_layOut ∈ BIG := mB 16 (by decide +kernel) (by decide +kernel)
theorem w_sel_X5_place : Cond.selects "FillForecastModel" yX5_place yX5_place ∈ BIG := mB 17 (by decide +kernel) (by decide +kernel)
theorem w_sel_X5_weekdayOf : Cond.selects "FillForecastModel" yX5_weekdayOf yX5_weekdayOf ∈ BIG := mB 18 (by decide +kernel) (by decide +kernel)
theorem w_sel_X5_rateOf : Cond.selects "FillForecastModel" yX5_rateOf yX5_rateOf ∈ BIG := mB 19 (by decide +kernel) (by decide +kernel)
theorem w_sel_X5_prepare : Cond.selects "FillForecastModel" yX5_prepare yX5_prepare ∈ BIG := mB 20 (by decide +kernel) (by decide +kernel)
theorem w_sel_X5_expectedBy : Cond.selects "FillForecastModel" yX5_expectedBy yX5_expectedBy ∈ BIG := mB 21 (by decide +kernel) (by decide +kernel)
theorem w_sel_X5_isSilent : Cond.selects "FillForecastModel" yX5_isSilent yX5_isSilent ∈ BIG := mB 22 (by decide +kernel) (by decide +kernel)
theorem w_sel_X5_costOn : Cond.selects "FillForecastModel" yX5_costOn yX5_costOn ∈ BIG := mB 23 (by decide +kernel) (by decide +kernel)
theorem w_ini_L : Cond.initialized "FillForecastLaw" ∈ BIG := mB 24 (by decide +kernel) (by decide +kernel)
theorem w_ini_X4 : Cond.initialized "FillForecast" ∈ BIG := mB 25 (by decide +kernel) (by decide +kernel)
theorem w_ini_X1 : Cond.initialized "FillForecast$Calendar" ∈ BIG := mB 26 (by decide +kernel) (by decide +kernel)
theorem w_ini_X2 : Cond.initialized "FillForecast$Fading" ∈ BIG := mB 27 (by decide +kernel) (by decide +kernel)
theorem w_ini_X3 : Cond.initialized "FillForecast$Outlook" ∈ BIG := mB 28 (by decide +kernel) (by decide +kernel)
theorem w_ini_X5 : Cond.initialized "FillForecastModel" ∈ BIG := mB 29 (by decide +kernel) (by decide +kernel)
theorem w_ini_X0 : Cond.initialized "FillForecast$Bin" ∈ BIG := mB 30 (by decide +kernel) (by decide +kernel)
theorem w_cl_L_7 : Cond.classLink "FillForecastLaw" 7 "FillForecast" ∈ BIG := mB 31 (by decide +kernel) (by decide +kernel)
theorem w_ins_X4 : Cond.instantiable "FillForecast" 8 ∈ BIG := mB 32 (by decide +kernel) (by decide +kernel)
theorem w_ml_L_9 : Cond.methodLink "FillForecastLaw" 9 yX4_init ∈ BIG := mB 33 (by decide +kernel) (by decide +kernel)
theorem w_im_X4_init : Cond.instanceMethod yX4_init ∈ BIG := mB 34 (by decide +kernel) (by decide +kernel)
set_option maxRecDepth 20000 in
theorem w_co_X4_init : Cond.code yX4_init cX4_init 1 none ∈ BIG := mB 35 (by rfl) (by rfl)
theorem w_ml_X4_1 : Cond.methodLink "FillForecast" 1 objectInit ∈ BIG := mB 36 (by decide +kernel) (by decide +kernel)
theorem w_im_objectInit : Cond.instanceMethod objectInit ∈ BIG := mB 37 (by decide +kernel) (by decide +kernel)
set_option maxRecDepth 20000 in
theorem w_co_objectInit : Cond.code objectInit ⟨#[0xb1]⟩ 1 none ∈ BIG := mB 38 (by rfl) (by rfl)
theorem w_cl_X4_7 : Cond.classLink "FillForecast" 7 "FillForecast$Calendar" ∈ BIG := mB 39 (by decide +kernel) (by decide +kernel)
theorem w_ins_X1 : Cond.instantiable "FillForecast$Calendar" 1 ∈ BIG := mB 40 (by decide +kernel) (by decide +kernel)
theorem w_ml_X4_9 : Cond.methodLink "FillForecast" 9 yX1_init ∈ BIG := mB 41 (by decide +kernel) (by decide +kernel)
theorem w_im_X1_init : Cond.instanceMethod yX1_init ∈ BIG := mB 42 (by decide +kernel) (by decide +kernel)
set_option maxRecDepth 20000 in
theorem w_co_X1_init : Cond.code yX1_init cX1_init 1 none ∈ BIG := mB 43 (by rfl) (by rfl)
theorem w_ml_X1_3 : Cond.methodLink "FillForecast$Calendar" 3 objectInit ∈ BIG := mB 44 (by decide +kernel) (by decide +kernel)
theorem w_fl_X1_9 : Cond.fieldLink "FillForecast$Calendar" 9 "FillForecast$Calendar" "holidays" "[Z" ∈ BIG := mB 45 (by decide +kernel) (by decide +kernel)
theorem w_ac_boolean : Cond.arrayClass .boolean ∈ BIG := mB 49 (by decide +kernel) (by decide +kernel)
theorem w_cl_X4_16 : Cond.classLink "FillForecast" 16 "FillForecast$Fading" ∈ BIG := mB 50 (by decide +kernel) (by decide +kernel)
theorem w_ins_X2 : Cond.instantiable "FillForecast$Fading" 1 ∈ BIG := mB 51 (by decide +kernel) (by decide +kernel)
theorem w_ml_X4_18 : Cond.methodLink "FillForecast" 18 yX2_init ∈ BIG := mB 52 (by decide +kernel) (by decide +kernel)
theorem w_im_X2_init : Cond.instanceMethod yX2_init ∈ BIG := mB 53 (by decide +kernel) (by decide +kernel)
set_option maxRecDepth 20000 in
theorem w_co_X2_init : Cond.code yX2_init cX2_init 1 none ∈ BIG := mB 54 (by rfl) (by rfl)
theorem w_ml_X2_3 : Cond.methodLink "FillForecast$Fading" 3 objectInit ∈ BIG := mB 55 (by decide +kernel) (by decide +kernel)
theorem w_ml_X2_15 : Cond.methodLink "FillForecast$Fading" 15 yX2_setTo ∈ BIG := mB 56 (by decide +kernel) (by decide +kernel)
theorem w_im_X2_setTo : Cond.instanceMethod yX2_setTo ∈ BIG := mB 57 (by decide +kernel) (by decide +kernel)
theorem w_sel_X2_setTo : Cond.selects "FillForecast$Fading" yX2_setTo yX2_setTo ∈ BIG := mB 58 (by decide +kernel) (by decide +kernel)
set_option maxRecDepth 20000 in
theorem w_co_X2_setTo : Cond.code yX2_setTo cX2_setTo 6 none ∈ BIG := mB 59 (by rfl) (by rfl)
theorem w_fl_X2_9 : Cond.fieldLink "FillForecast$Fading" 9 "FillForecast$Fading" "weights" "[I" ∈ BIG := mB 60 (by decide +kernel) (by decide +kernel)
theorem w_ac_int : Cond.arrayClass .int ∈ BIG := mB 64 (by decide +kernel) (by decide +kernel)
theorem w_cl_X4_23 : Cond.classLink "FillForecast" 23 "FillForecast$Outlook" ∈ BIG := mB 65 (by decide +kernel) (by decide +kernel)
theorem w_ins_X3 : Cond.instantiable "FillForecast$Outlook" 2 ∈ BIG := mB 66 (by decide +kernel) (by decide +kernel)
theorem w_ml_X4_25 : Cond.methodLink "FillForecast" 25 yX3_init ∈ BIG := mB 67 (by decide +kernel) (by decide +kernel)
theorem w_im_X3_init : Cond.instanceMethod yX3_init ∈ BIG := mB 68 (by decide +kernel) (by decide +kernel)
set_option maxRecDepth 20000 in
theorem w_co_X3_init : Cond.code yX3_init cX3_init 1 none ∈ BIG := mB 69 (by rfl) (by rfl)
theorem w_ml_X3_3 : Cond.methodLink "FillForecast$Outlook" 3 objectInit ∈ BIG := mB 70 (by decide +kernel) (by decide +kernel)
theorem w_fl_X3_9 : Cond.fieldLink "FillForecast$Outlook" 9 "FillForecast$Outlook" "rates" "[I" ∈ BIG := mB 71 (by decide +kernel) (by decide +kernel)
theorem w_fl_X3_15 : Cond.fieldLink "FillForecast$Outlook" 15 "FillForecast$Outlook" "sums" "[I" ∈ BIG := mB 72 (by decide +kernel) (by decide +kernel)
theorem w_cl_X4_30 : Cond.classLink "FillForecast" 30 "FillForecast$Bin" ∈ BIG := mB 78 (by decide +kernel) (by decide +kernel)
theorem w_fl_X4_10 : Cond.fieldLink "FillForecast" 10 "FillForecast" "calendar" "LFillForecast$Calendar;" ∈ BIG := mB 80 (by decide +kernel) (by decide +kernel)
theorem w_fl_X4_19 : Cond.fieldLink "FillForecast" 19 "FillForecast" "fading" "LFillForecast$Fading;" ∈ BIG := mB 81 (by decide +kernel) (by decide +kernel)
theorem w_fl_X4_26 : Cond.fieldLink "FillForecast" 26 "FillForecast" "outlook" "LFillForecast$Outlook;" ∈ BIG := mB 82 (by decide +kernel) (by decide +kernel)
theorem w_fl_X4_32 : Cond.fieldLink "FillForecast" 32 "FillForecast" "bins" "[LFillForecast$Bin;" ∈ BIG := mB 83 (by decide +kernel) (by decide +kernel)
theorem w_fl_X4_36 : Cond.fieldLink "FillForecast" 36 "FillForecast" "binCount" "I" ∈ BIG := mB 84 (by decide +kernel) (by decide +kernel)
theorem w_fl_X4_40 : Cond.fieldLink "FillForecast" 40 "FillForecast" "silence" "I" ∈ BIG := mB 85 (by decide +kernel) (by decide +kernel)
theorem w_fl_X4_43 : Cond.fieldLink "FillForecast" 43 "FillForecast" "earlyCents" "I" ∈ BIG := mB 86 (by decide +kernel) (by decide +kernel)
theorem w_fl_X4_46 : Cond.fieldLink "FillForecast" 46 "FillForecast" "lateCents" "I" ∈ BIG := mB 87 (by decide +kernel) (by decide +kernel)
theorem w_ml_L_13 : Cond.methodLink "FillForecastLaw" 13 yX4_bin ∈ BIG := mB 105 (by decide +kernel) (by decide +kernel)
theorem w_im_X4_bin : Cond.instanceMethod yX4_bin ∈ BIG := mB 106 (by decide +kernel) (by decide +kernel)
theorem w_sel_X4_bin : Cond.selects "FillForecast" yX4_bin yX4_bin ∈ BIG := mB 107 (by decide +kernel) (by decide +kernel)
set_option maxRecDepth 20000 in
theorem w_co_X4_bin : Cond.code yX4_bin cX4_bin 3 (some .int) ∈ BIG := mB 108 (by rfl) (by rfl)
theorem w_ml_X4_49 : Cond.methodLink "FillForecast" 49 yX4_isWithin ∈ BIG := mB 109 (by decide +kernel) (by decide +kernel)
theorem w_sm_X4_isWithin : Cond.static yX4_isWithin ∈ BIG := mB 110 (by decide +kernel) (by decide +kernel)
set_option maxRecDepth 20000 in
theorem w_co_X4_isWithin : Cond.code yX4_isWithin cX4_isWithin 3 (some .boolean) ∈ BIG := mB 111 (by rfl) (by rfl)
theorem w_ins_X0 : Cond.instantiable "FillForecast$Bin" 8 ∈ BIG := mB 112 (by decide +kernel) (by decide +kernel)
theorem w_ml_X4_53 : Cond.methodLink "FillForecast" 53 yX0_init ∈ BIG := mB 113 (by decide +kernel) (by decide +kernel)
theorem w_im_X0_init : Cond.instanceMethod yX0_init ∈ BIG := mB 114 (by decide +kernel) (by decide +kernel)
set_option maxRecDepth 20000 in
theorem w_co_X0_init : Cond.code yX0_init cX0_init 3 none ∈ BIG := mB 115 (by rfl) (by rfl)
theorem w_ml_X0_5 : Cond.methodLink "FillForecast$Bin" 5 objectInit ∈ BIG := mB 116 (by decide +kernel) (by decide +kernel)
theorem w_fl_X0_11 : Cond.fieldLink "FillForecast$Bin" 11 "FillForecast$Bin" "street" "I" ∈ BIG := mB 117 (by decide +kernel) (by decide +kernel)
theorem w_fl_X0_15 : Cond.fieldLink "FillForecast$Bin" 15 "FillForecast$Bin" "room" "I" ∈ BIG := mB 118 (by decide +kernel) (by decide +kernel)
theorem w_fl_X0_18 : Cond.fieldLink "FillForecast$Bin" 18 "FillForecast$Bin" "places" "[I" ∈ BIG := mB 119 (by decide +kernel) (by decide +kernel)
theorem w_fl_X0_22 : Cond.fieldLink "FillForecast$Bin" 22 "FillForecast$Bin" "amounts" "[I" ∈ BIG := mB 120 (by decide +kernel) (by decide +kernel)
theorem w_fl_X0_25 : Cond.fieldLink "FillForecast$Bin" 25 "FillForecast$Bin" "wrongs" "[Z" ∈ BIG := mB 121 (by decide +kernel) (by decide +kernel)
theorem w_fl_X0_29 : Cond.fieldLink "FillForecast$Bin" 29 "FillForecast$Bin" "gains" "[I" ∈ BIG := mB 122 (by decide +kernel) (by decide +kernel)
theorem w_fl_X0_32 : Cond.fieldLink "FillForecast$Bin" 32 "FillForecast$Bin" "pointCount" "I" ∈ BIG := mB 123 (by decide +kernel) (by decide +kernel)
theorem w_fl_X0_35 : Cond.fieldLink "FillForecast$Bin" 35 "FillForecast$Bin" "rowCount" "I" ∈ BIG := mB 124 (by decide +kernel) (by decide +kernel)
theorem w_ml_L_18 : Cond.methodLink "FillForecastLaw" 18 yX4_row ∈ BIG := mB 142 (by decide +kernel) (by decide +kernel)
theorem w_im_X4_row : Cond.instanceMethod yX4_row ∈ BIG := mB 143 (by decide +kernel) (by decide +kernel)
theorem w_sel_X4_row : Cond.selects "FillForecast" yX4_row yX4_row ∈ BIG := mB 144 (by decide +kernel) (by decide +kernel)
set_option maxRecDepth 20000 in
theorem w_co_X4_row : Cond.code yX4_row cX4_row 5 (some .int) ∈ BIG := mB 145 (by rfl) (by rfl)
theorem w_ml_X4_56 : Cond.methodLink "FillForecast" 56 yX4_binOf ∈ BIG := mB 146 (by decide +kernel) (by decide +kernel)
theorem w_im_X4_binOf : Cond.instanceMethod yX4_binOf ∈ BIG := mB 148 (by decide +kernel) (by decide +kernel)
set_option maxRecDepth 20000 in
theorem w_co_X4_binOf : Cond.code yX4_binOf cX4_binOf 2 (some (.object "FillForecast$Bin")) ∈ BIG := mB 149 (by rfl) (by rfl)
theorem w_ml_X4_60 : Cond.methodLink "FillForecast" 60 yX4_isHour ∈ BIG := mB 150 (by decide +kernel) (by decide +kernel)
theorem w_sm_X4_isHour : Cond.static yX4_isHour ∈ BIG := mB 151 (by decide +kernel) (by decide +kernel)
set_option maxRecDepth 20000 in
theorem w_co_X4_isHour : Cond.code yX4_isHour cX4_isHour 1 (some .boolean) ∈ BIG := mB 152 (by rfl) (by rfl)
theorem w_ml_X4_64 : Cond.methodLink "FillForecast" 64 yX0_putRow ∈ BIG := mB 153 (by decide +kernel) (by decide +kernel)
theorem w_im_X0_putRow : Cond.instanceMethod yX0_putRow ∈ BIG := mB 154 (by decide +kernel) (by decide +kernel)
theorem w_sel_X0_putRow : Cond.selects "FillForecast$Bin" yX0_putRow yX0_putRow ∈ BIG := mB 155 (by decide +kernel) (by decide +kernel)
set_option maxRecDepth 20000 in
theorem w_co_X0_putRow : Cond.code yX0_putRow cX0_putRow 5 (some .int) ∈ BIG := mB 156 (by rfl) (by rfl)
theorem w_ml_X0_42 : Cond.methodLink "FillForecast$Bin" 42 yX0_placeOfRow ∈ BIG := mB 157 (by decide +kernel) (by decide +kernel)
theorem w_sm_X0_placeOfRow : Cond.static yX0_placeOfRow ∈ BIG := mB 158 (by decide +kernel) (by decide +kernel)
set_option maxRecDepth 20000 in
theorem w_co_X0_placeOfRow : Cond.code yX0_placeOfRow cX0_placeOfRow 1 (some .int) ∈ BIG := mB 159 (by rfl) (by rfl)
theorem w_ml_X0_46 : Cond.methodLink "FillForecast$Bin" 46 yX0_indexFor ∈ BIG := mB 160 (by decide +kernel) (by decide +kernel)
theorem w_im_X0_indexFor : Cond.instanceMethod yX0_indexFor ∈ BIG := mB 162 (by decide +kernel) (by decide +kernel)
set_option maxRecDepth 20000 in
theorem w_co_X0_indexFor : Cond.code yX0_indexFor cX0_indexFor 3 (some .int) ∈ BIG := mB 163 (by rfl) (by rfl)
theorem w_ml_X0_49 : Cond.methodLink "FillForecast$Bin" 49 yX0_isTaken ∈ BIG := mB 164 (by decide +kernel) (by decide +kernel)
theorem w_im_X0_isTaken : Cond.instanceMethod yX0_isTaken ∈ BIG := mB 166 (by decide +kernel) (by decide +kernel)
set_option maxRecDepth 20000 in
theorem w_co_X0_isTaken : Cond.code yX0_isTaken cX0_isTaken 3 (some .boolean) ∈ BIG := mB 167 (by rfl) (by rfl)
theorem w_ml_X0_53 : Cond.methodLink "FillForecast$Bin" 53 yX0_open ∈ BIG := mB 168 (by decide +kernel) (by decide +kernel)
theorem w_im_X0_open : Cond.instanceMethod yX0_open ∈ BIG := mB 170 (by decide +kernel) (by decide +kernel)
set_option maxRecDepth 20000 in
theorem w_co_X0_open : Cond.code yX0_open cX0_open 4 none ∈ BIG := mB 171 (by rfl) (by rfl)
theorem w_ml_X0_57 : Cond.methodLink "FillForecast$Bin" 57 yX0_judge ∈ BIG := mB 172 (by decide +kernel) (by decide +kernel)
theorem w_im_X0_judge : Cond.instanceMethod yX0_judge ∈ BIG := mB 174 (by decide +kernel) (by decide +kernel)
set_option maxRecDepth 20000 in
theorem w_co_X0_judge : Cond.code yX0_judge cX0_judge 4 none ∈ BIG := mB 175 (by rfl) (by rfl)
theorem w_ml_X0_38 : Cond.methodLink "FillForecast$Bin" 38 yX0_isRow ∈ BIG := mB 176 (by decide +kernel) (by decide +kernel)
theorem w_im_X0_isRow : Cond.instanceMethod yX0_isRow ∈ BIG := mB 178 (by decide +kernel) (by decide +kernel)
set_option maxRecDepth 20000 in
theorem w_co_X0_isRow : Cond.code yX0_isRow cX0_isRow 2 (some .boolean) ∈ BIG := mB 179 (by rfl) (by rfl)
theorem w_ml_X0_80 : Cond.methodLink "FillForecast$Bin" 80 yX0_shareAt ∈ BIG := mB 180 (by decide +kernel) (by decide +kernel)
theorem w_im_X0_shareAt : Cond.instanceMethod yX0_shareAt ∈ BIG := mB 181 (by decide +kernel) (by decide +kernel)
theorem w_sel_X0_shareAt : Cond.selects "FillForecast$Bin" yX0_shareAt yX0_shareAt ∈ BIG := mB 182 (by decide +kernel) (by decide +kernel)
set_option maxRecDepth 20000 in
theorem w_co_X0_shareAt : Cond.code yX0_shareAt cX0_shareAt 2 (some .int) ∈ BIG := mB 183 (by rfl) (by rfl)
theorem w_ml_X0_83 : Cond.methodLink "FillForecast$Bin" 83 yX0_gainFrom ∈ BIG := mB 184 (by decide +kernel) (by decide +kernel)
theorem w_im_X0_gainFrom : Cond.instanceMethod yX0_gainFrom ∈ BIG := mB 186 (by decide +kernel) (by decide +kernel)
set_option maxRecDepth 20000 in
theorem w_co_X0_gainFrom : Cond.code yX0_gainFrom cX0_gainFrom 4 (some .int) ∈ BIG := mB 187 (by rfl) (by rfl)
theorem w_ml_X0_63 : Cond.methodLink "FillForecast$Bin" 63 yX0_hourAt ∈ BIG := mB 188 (by decide +kernel) (by decide +kernel)
theorem w_im_X0_hourAt : Cond.instanceMethod yX0_hourAt ∈ BIG := mB 189 (by decide +kernel) (by decide +kernel)
theorem w_sel_X0_hourAt : Cond.selects "FillForecast$Bin" yX0_hourAt yX0_hourAt ∈ BIG := mB 190 (by decide +kernel) (by decide +kernel)
set_option maxRecDepth 20000 in
theorem w_co_X0_hourAt : Cond.code yX0_hourAt cX0_hourAt 2 (some .int) ∈ BIG := mB 191 (by rfl) (by rfl)
theorem w_ml_L_23 : Cond.methodLink "FillForecastLaw" 23 yX4_emptied ∈ BIG := mB 192 (by decide +kernel) (by decide +kernel)
theorem w_im_X4_emptied : Cond.instanceMethod yX4_emptied ∈ BIG := mB 193 (by decide +kernel) (by decide +kernel)
theorem w_sel_X4_emptied : Cond.selects "FillForecast" yX4_emptied yX4_emptied ∈ BIG := mB 194 (by decide +kernel) (by decide +kernel)
set_option maxRecDepth 20000 in
theorem w_co_X4_emptied : Cond.code yX4_emptied cX4_emptied 5 (some .int) ∈ BIG := mB 195 (by rfl) (by rfl)
theorem w_ct_X4_68 : Cond.constant "FillForecast" 68 100000 ∈ BIG := mB 196 (by decide +kernel) (by decide +kernel)
theorem w_ml_X4_69 : Cond.methodLink "FillForecast" 69 yX0_putEmptying ∈ BIG := mB 197 (by decide +kernel) (by decide +kernel)
theorem w_im_X0_putEmptying : Cond.instanceMethod yX0_putEmptying ∈ BIG := mB 198 (by decide +kernel) (by decide +kernel)
theorem w_sel_X0_putEmptying : Cond.selects "FillForecast$Bin" yX0_putEmptying yX0_putEmptying ∈ BIG := mB 199 (by decide +kernel) (by decide +kernel)
set_option maxRecDepth 20000 in
theorem w_co_X0_putEmptying : Cond.code yX0_putEmptying cX0_putEmptying 5 (some .int) ∈ BIG := mB 200 (by rfl) (by rfl)
theorem w_ml_X0_60 : Cond.methodLink "FillForecast$Bin" 60 yX0_placeOfEmptying ∈ BIG := mB 201 (by decide +kernel) (by decide +kernel)
theorem w_sm_X0_placeOfEmptying : Cond.static yX0_placeOfEmptying ∈ BIG := mB 202 (by decide +kernel) (by decide +kernel)
set_option maxRecDepth 20000 in
theorem w_co_X0_placeOfEmptying : Cond.code yX0_placeOfEmptying cX0_placeOfEmptying 1 (some .int) ∈ BIG := mB 203 (by rfl) (by rfl)
theorem w_ml_L_27 : Cond.methodLink "FillForecastLaw" 27 yX4_fade ∈ BIG := mB 204 (by decide +kernel) (by decide +kernel)
theorem w_im_X4_fade : Cond.instanceMethod yX4_fade ∈ BIG := mB 205 (by decide +kernel) (by decide +kernel)
theorem w_sel_X4_fade : Cond.selects "FillForecast" yX4_fade yX4_fade ∈ BIG := mB 206 (by decide +kernel) (by decide +kernel)
set_option maxRecDepth 20000 in
theorem w_co_X4_fade : Cond.code yX4_fade cX4_fade 3 (some .boolean) ∈ BIG := mB 207 (by rfl) (by rfl)
theorem w_ml_X4_72 : Cond.methodLink "FillForecast" 72 yX2_setTo ∈ BIG := mB 208 (by decide +kernel) (by decide +kernel)
theorem w_ml_L_32 : Cond.methodLink "FillForecastLaw" 32 yX4_holiday ∈ BIG := mB 209 (by decide +kernel) (by decide +kernel)
theorem w_im_X4_holiday : Cond.instanceMethod yX4_holiday ∈ BIG := mB 210 (by decide +kernel) (by decide +kernel)
theorem w_sel_X4_holiday : Cond.selects "FillForecast" yX4_holiday yX4_holiday ∈ BIG := mB 211 (by decide +kernel) (by decide +kernel)
set_option maxRecDepth 20000 in
theorem w_co_X4_holiday : Cond.code yX4_holiday cX4_holiday 3 (some .boolean) ∈ BIG := mB 212 (by rfl) (by rfl)
theorem w_ml_X4_75 : Cond.methodLink "FillForecast" 75 yX4_isDay ∈ BIG := mB 213 (by decide +kernel) (by decide +kernel)
theorem w_sm_X4_isDay : Cond.static yX4_isDay ∈ BIG := mB 214 (by decide +kernel) (by decide +kernel)
set_option maxRecDepth 20000 in
theorem w_co_X4_isDay : Cond.code yX4_isDay cX4_isDay 1 (some .boolean) ∈ BIG := mB 215 (by rfl) (by rfl)
theorem w_ml_X4_78 : Cond.methodLink "FillForecast" 78 yX1_mark ∈ BIG := mB 216 (by decide +kernel) (by decide +kernel)
theorem w_im_X1_mark : Cond.instanceMethod yX1_mark ∈ BIG := mB 217 (by decide +kernel) (by decide +kernel)
theorem w_sel_X1_mark : Cond.selects "FillForecast$Calendar" yX1_mark yX1_mark ∈ BIG := mB 218 (by decide +kernel) (by decide +kernel)
set_option maxRecDepth 20000 in
theorem w_co_X1_mark : Cond.code yX1_mark cX1_mark 3 none ∈ BIG := mB 219 (by rfl) (by rfl)
theorem w_ml_L_37 : Cond.methodLink "FillForecastLaw" 37 yX4_mean ∈ BIG := mB 220 (by decide +kernel) (by decide +kernel)
theorem w_im_X4_mean : Cond.instanceMethod yX4_mean ∈ BIG := mB 221 (by decide +kernel) (by decide +kernel)
theorem w_sel_X4_mean : Cond.selects "FillForecast" yX4_mean yX4_mean ∈ BIG := mB 222 (by decide +kernel) (by decide +kernel)
set_option maxRecDepth 20000 in
theorem w_co_X4_mean : Cond.code yX4_mean cX4_mean 4 (some .int) ∈ BIG := mB 223 (by rfl) (by rfl)
theorem w_ml_X4_82 : Cond.methodLink "FillForecast" 82 yX0_meanOn ∈ BIG := mB 224 (by decide +kernel) (by decide +kernel)
theorem w_im_X0_meanOn : Cond.instanceMethod yX0_meanOn ∈ BIG := mB 225 (by decide +kernel) (by decide +kernel)
theorem w_sel_X0_meanOn : Cond.selects "FillForecast$Bin" yX0_meanOn yX0_meanOn ∈ BIG := mB 226 (by decide +kernel) (by decide +kernel)
set_option maxRecDepth 20000 in
theorem w_co_X0_meanOn : Cond.code yX0_meanOn cX0_meanOn 12 (some .int) ∈ BIG := mB 227 (by rfl) (by rfl)
theorem w_ml_X0_70 : Cond.methodLink "FillForecast$Bin" 70 yX1_weekdayOf ∈ BIG := mB 228 (by decide +kernel) (by decide +kernel)
theorem w_im_X1_weekdayOf : Cond.instanceMethod yX1_weekdayOf ∈ BIG := mB 229 (by decide +kernel) (by decide +kernel)
theorem w_sel_X1_weekdayOf : Cond.selects "FillForecast$Calendar" yX1_weekdayOf yX1_weekdayOf ∈ BIG := mB 230 (by decide +kernel) (by decide +kernel)
set_option maxRecDepth 20000 in
theorem w_co_X1_weekdayOf : Cond.code yX1_weekdayOf cX1_weekdayOf 2 (some .int) ∈ BIG := mB 231 (by rfl) (by rfl)
theorem w_ml_X0_75 : Cond.methodLink "FillForecast$Bin" 75 yX2_weightOf ∈ BIG := mB 232 (by decide +kernel) (by decide +kernel)
theorem w_im_X2_weightOf : Cond.instanceMethod yX2_weightOf ∈ BIG := mB 233 (by decide +kernel) (by decide +kernel)
theorem w_sel_X2_weightOf : Cond.selects "FillForecast$Fading" yX2_weightOf yX2_weightOf ∈ BIG := mB 234 (by decide +kernel) (by decide +kernel)
set_option maxRecDepth 20000 in
theorem w_co_X2_weightOf : Cond.code yX2_weightOf cX2_weightOf 2 (some .int) ∈ BIG := mB 235 (by rfl) (by rfl)
theorem w_ml_L_41 : Cond.methodLink "FillForecastLaw" 41 yX4_rate ∈ BIG := mB 236 (by decide +kernel) (by decide +kernel)
theorem w_im_X4_rate : Cond.instanceMethod yX4_rate ∈ BIG := mB 237 (by decide +kernel) (by decide +kernel)
theorem w_sel_X4_rate : Cond.selects "FillForecast" yX4_rate yX4_rate ∈ BIG := mB 238 (by decide +kernel) (by decide +kernel)
set_option maxRecDepth 20000 in
theorem w_co_X4_rate : Cond.code yX4_rate cX4_rate 4 (some .int) ∈ BIG := mB 239 (by rfl) (by rfl)
theorem w_ml_X4_86 : Cond.methodLink "FillForecast" 86 yX1_weekdayOf ∈ BIG := mB 240 (by decide +kernel) (by decide +kernel)
theorem w_ml_X4_90 : Cond.methodLink "FillForecast" 90 yX4_rateOn ∈ BIG := mB 241 (by decide +kernel) (by decide +kernel)
theorem w_im_X4_rateOn : Cond.instanceMethod yX4_rateOn ∈ BIG := mB 243 (by decide +kernel) (by decide +kernel)
set_option maxRecDepth 20000 in
theorem w_co_X4_rateOn : Cond.code yX4_rateOn cX4_rateOn 4 (some .int) ∈ BIG := mB 244 (by rfl) (by rfl)
theorem w_ml_X4_136 : Cond.methodLink "FillForecast" 136 yX0_streetNumber ∈ BIG := mB 245 (by decide +kernel) (by decide +kernel)
theorem w_im_X0_streetNumber : Cond.instanceMethod yX0_streetNumber ∈ BIG := mB 246 (by decide +kernel) (by decide +kernel)
theorem w_sel_X0_streetNumber : Cond.selects "FillForecast$Bin" yX0_streetNumber yX0_streetNumber ∈ BIG := mB 247 (by decide +kernel) (by decide +kernel)
set_option maxRecDepth 20000 in
theorem w_co_X0_streetNumber : Cond.code yX0_streetNumber cX0_streetNumber 1 (some .int) ∈ BIG := mB 248 (by rfl) (by rfl)
theorem w_ml_X4_139 : Cond.methodLink "FillForecast" 139 yX4_streetRateOn ∈ BIG := mB 249 (by decide +kernel) (by decide +kernel)
theorem w_im_X4_streetRateOn : Cond.instanceMethod yX4_streetRateOn ∈ BIG := mB 251 (by decide +kernel) (by decide +kernel)
set_option maxRecDepth 20000 in
theorem w_co_X4_streetRateOn : Cond.code yX4_streetRateOn cX4_streetRateOn 8 (some .int) ∈ BIG := mB 252 (by rfl) (by rfl)
theorem w_ml_L_45 : Cond.methodLink "FillForecastLaw" 45 yX4_weight ∈ BIG := mB 253 (by decide +kernel) (by decide +kernel)
theorem w_im_X4_weight : Cond.instanceMethod yX4_weight ∈ BIG := mB 254 (by decide +kernel) (by decide +kernel)
theorem w_sel_X4_weight : Cond.selects "FillForecast" yX4_weight yX4_weight ∈ BIG := mB 255 (by decide +kernel) (by decide +kernel)
set_option maxRecDepth 20000 in
theorem w_co_X4_weight : Cond.code yX4_weight cX4_weight 2 (some .int) ∈ BIG := mB 256 (by rfl) (by rfl)
theorem w_ml_X4_94 : Cond.methodLink "FillForecast" 94 yX2_weightOf ∈ BIG := mB 257 (by decide +kernel) (by decide +kernel)
theorem w_ml_L_50 : Cond.methodLink "FillForecastLaw" 50 yX4_expected ∈ BIG := mB 258 (by decide +kernel) (by decide +kernel)
theorem w_im_X4_expected : Cond.instanceMethod yX4_expected ∈ BIG := mB 259 (by decide +kernel) (by decide +kernel)
theorem w_sel_X4_expected : Cond.selects "FillForecast" yX4_expected yX4_expected ∈ BIG := mB 260 (by decide +kernel) (by decide +kernel)
set_option maxRecDepth 20000 in
theorem w_co_X4_expected : Cond.code yX4_expected cX4_expected 4 (some .long) ∈ BIG := mB 261 (by rfl) (by rfl)
theorem w_ct_X4_97 : Cond.constantLong "FillForecast" 97 (-1) ∈ BIG := mB 262 (by decide +kernel) (by decide +kernel)
theorem w_ml_X4_99 : Cond.methodLink "FillForecast" 99 yX4_lookAhead ∈ BIG := mB 263 (by decide +kernel) (by decide +kernel)
theorem w_im_X4_lookAhead : Cond.instanceMethod yX4_lookAhead ∈ BIG := mB 265 (by decide +kernel) (by decide +kernel)
set_option maxRecDepth 20000 in
theorem w_co_X4_lookAhead : Cond.code yX4_lookAhead cX4_lookAhead 3 none ∈ BIG := mB 266 (by rfl) (by rfl)
theorem w_ml_X4_142 : Cond.methodLink "FillForecast" 142 yX3_setRate ∈ BIG := mB 267 (by decide +kernel) (by decide +kernel)
theorem w_im_X3_setRate : Cond.instanceMethod yX3_setRate ∈ BIG := mB 268 (by decide +kernel) (by decide +kernel)
theorem w_sel_X3_setRate : Cond.selects "FillForecast$Outlook" yX3_setRate yX3_setRate ∈ BIG := mB 269 (by decide +kernel) (by decide +kernel)
set_option maxRecDepth 20000 in
theorem w_co_X3_setRate : Cond.code yX3_setRate cX3_setRate 3 none ∈ BIG := mB 270 (by rfl) (by rfl)
theorem w_ml_X4_145 : Cond.methodLink "FillForecast" 145 yX3_sumUp ∈ BIG := mB 271 (by decide +kernel) (by decide +kernel)
theorem w_im_X3_sumUp : Cond.instanceMethod yX3_sumUp ∈ BIG := mB 272 (by decide +kernel) (by decide +kernel)
theorem w_sel_X3_sumUp : Cond.selects "FillForecast$Outlook" yX3_sumUp yX3_sumUp ∈ BIG := mB 273 (by decide +kernel) (by decide +kernel)
set_option maxRecDepth 20000 in
theorem w_co_X3_sumUp : Cond.code yX3_sumUp cX3_sumUp 3 none ∈ BIG := mB 274 (by rfl) (by rfl)
theorem w_ml_X3_18 : Cond.methodLink "FillForecast$Outlook" 18 yX1_weekdayOf ∈ BIG := mB 275 (by decide +kernel) (by decide +kernel)
theorem w_ml_X4_103 : Cond.methodLink "FillForecast" 103 yX3_shareAt ∈ BIG := mB 276 (by decide +kernel) (by decide +kernel)
theorem w_im_X3_shareAt : Cond.instanceMethod yX3_shareAt ∈ BIG := mB 277 (by decide +kernel) (by decide +kernel)
theorem w_sel_X3_shareAt : Cond.selects "FillForecast$Outlook" yX3_shareAt yX3_shareAt ∈ BIG := mB 278 (by decide +kernel) (by decide +kernel)
set_option maxRecDepth 20000 in
theorem w_co_X3_shareAt : Cond.code yX3_shareAt cX3_shareAt 3 (some .long) ∈ BIG := mB 279 (by rfl) (by rfl)
theorem w_ml_X3_24 : Cond.methodLink "FillForecast$Outlook" 24 yX0_placeOfEmptying ∈ BIG := mB 280 (by decide +kernel) (by decide +kernel)
theorem w_ml_X3_29 : Cond.methodLink "FillForecast$Outlook" 29 yX0_latestUpTo ∈ BIG := mB 281 (by decide +kernel) (by decide +kernel)
theorem w_im_X0_latestUpTo : Cond.instanceMethod yX0_latestUpTo ∈ BIG := mB 282 (by decide +kernel) (by decide +kernel)
theorem w_sel_X0_latestUpTo : Cond.selects "FillForecast$Bin" yX0_latestUpTo yX0_latestUpTo ∈ BIG := mB 283 (by decide +kernel) (by decide +kernel)
set_option maxRecDepth 20000 in
theorem w_co_X0_latestUpTo : Cond.code yX0_latestUpTo cX0_latestUpTo 3 (some .int) ∈ BIG := mB 284 (by rfl) (by rfl)
theorem w_ml_X3_32 : Cond.methodLink "FillForecast$Outlook" 32 yX3_shareBy ∈ BIG := mB 285 (by decide +kernel) (by decide +kernel)
theorem w_im_X3_shareBy : Cond.instanceMethod yX3_shareBy ∈ BIG := mB 287 (by decide +kernel) (by decide +kernel)
set_option maxRecDepth 20000 in
theorem w_co_X3_shareBy : Cond.code yX3_shareBy cX3_shareBy 7 (some .long) ∈ BIG := mB 288 (by rfl) (by rfl)
theorem w_ml_X3_39 : Cond.methodLink "FillForecast$Outlook" 39 yX0_hourAt ∈ BIG := mB 289 (by decide +kernel) (by decide +kernel)
theorem w_ml_X3_42 : Cond.methodLink "FillForecast$Outlook" 42 yX0_shareAt ∈ BIG := mB 290 (by decide +kernel) (by decide +kernel)
theorem w_ct_X3_45 : Cond.constantLong "FillForecast$Outlook" 45 24 ∈ BIG := mB 291 (by decide +kernel) (by decide +kernel)
theorem w_ml_X3_47 : Cond.methodLink "FillForecast$Outlook" 47 yX3_gainUpTo ∈ BIG := mB 292 (by decide +kernel) (by decide +kernel)
theorem w_im_X3_gainUpTo : Cond.instanceMethod yX3_gainUpTo ∈ BIG := mB 294 (by decide +kernel) (by decide +kernel)
set_option maxRecDepth 20000 in
theorem w_co_X3_gainUpTo : Cond.code yX3_gainUpTo cX3_gainUpTo 5 (some .long) ∈ BIG := mB 295 (by rfl) (by rfl)
theorem w_ml_L_55 : Cond.methodLink "FillForecastLaw" 55 yX4_wrong ∈ BIG := mB 296 (by decide +kernel) (by decide +kernel)
theorem w_im_X4_wrong : Cond.instanceMethod yX4_wrong ∈ BIG := mB 297 (by decide +kernel) (by decide +kernel)
theorem w_sel_X4_wrong : Cond.selects "FillForecast" yX4_wrong yX4_wrong ∈ BIG := mB 298 (by decide +kernel) (by decide +kernel)
set_option maxRecDepth 20000 in
theorem w_co_X4_wrong : Cond.code yX4_wrong cX4_wrong 4 (some .int) ∈ BIG := mB 299 (by rfl) (by rfl)
theorem w_ml_X4_107 : Cond.methodLink "FillForecast" 107 yX0_hourOfWrong ∈ BIG := mB 300 (by decide +kernel) (by decide +kernel)
theorem w_im_X0_hourOfWrong : Cond.instanceMethod yX0_hourOfWrong ∈ BIG := mB 301 (by decide +kernel) (by decide +kernel)
theorem w_sel_X0_hourOfWrong : Cond.selects "FillForecast$Bin" yX0_hourOfWrong yX0_hourOfWrong ∈ BIG := mB 302 (by decide +kernel) (by decide +kernel)
set_option maxRecDepth 20000 in
theorem w_co_X0_hourOfWrong : Cond.code yX0_hourOfWrong cX0_hourOfWrong 4 (some .int) ∈ BIG := mB 303 (by rfl) (by rfl)
theorem w_ml_L_59 : Cond.methodLink "FillForecastLaw" 59 yX4_quiet ∈ BIG := mB 304 (by decide +kernel) (by decide +kernel)
theorem w_im_X4_quiet : Cond.instanceMethod yX4_quiet ∈ BIG := mB 305 (by decide +kernel) (by decide +kernel)
theorem w_sel_X4_quiet : Cond.selects "FillForecast" yX4_quiet yX4_quiet ∈ BIG := mB 306 (by decide +kernel) (by decide +kernel)
set_option maxRecDepth 20000 in
theorem w_co_X4_quiet : Cond.code yX4_quiet cX4_quiet 2 (some .boolean) ∈ BIG := mB 307 (by rfl) (by rfl)
theorem w_ml_L_64 : Cond.methodLink "FillForecastLaw" 64 yX4_silent ∈ BIG := mB 308 (by decide +kernel) (by decide +kernel)
theorem w_im_X4_silent : Cond.instanceMethod yX4_silent ∈ BIG := mB 309 (by decide +kernel) (by decide +kernel)
theorem w_sel_X4_silent : Cond.selects "FillForecast" yX4_silent yX4_silent ∈ BIG := mB 310 (by decide +kernel) (by decide +kernel)
set_option maxRecDepth 20000 in
theorem w_co_X4_silent : Cond.code yX4_silent cX4_silent 5 (some .int) ∈ BIG := mB 311 (by rfl) (by rfl)
theorem w_ml_X4_110 : Cond.methodLink "FillForecast" 110 yX0_hasRowWithin ∈ BIG := mB 312 (by decide +kernel) (by decide +kernel)
theorem w_im_X0_hasRowWithin : Cond.instanceMethod yX0_hasRowWithin ∈ BIG := mB 313 (by decide +kernel) (by decide +kernel)
theorem w_sel_X0_hasRowWithin : Cond.selects "FillForecast$Bin" yX0_hasRowWithin yX0_hasRowWithin ∈ BIG := mB 314 (by decide +kernel) (by decide +kernel)
set_option maxRecDepth 20000 in
theorem w_co_X0_hasRowWithin : Cond.code yX0_hasRowWithin cX0_hasRowWithin 4 (some .boolean) ∈ BIG := mB 315 (by rfl) (by rfl)
theorem w_ml_L_68 : Cond.methodLink "FillForecastLaw" 68 yX4_over ∈ BIG := mB 317 (by decide +kernel) (by decide +kernel)
theorem w_im_X4_over : Cond.instanceMethod yX4_over ∈ BIG := mB 318 (by decide +kernel) (by decide +kernel)
theorem w_sel_X4_over : Cond.selects "FillForecast" yX4_over yX4_over ∈ BIG := mB 319 (by decide +kernel) (by decide +kernel)
set_option maxRecDepth 20000 in
theorem w_co_X4_over : Cond.code yX4_over cX4_over 5 (some .int) ∈ BIG := mB 320 (by rfl) (by rfl)
theorem w_ct_X4_114 : Cond.constantLong "FillForecast" 114 1000 ∈ BIG := mB 321 (by decide +kernel) (by decide +kernel)
theorem w_ml_L_72 : Cond.methodLink "FillForecastLaw" 72 yX4_cost ∈ BIG := mB 322 (by decide +kernel) (by decide +kernel)
theorem w_im_X4_cost : Cond.instanceMethod yX4_cost ∈ BIG := mB 323 (by decide +kernel) (by decide +kernel)
theorem w_sel_X4_cost : Cond.selects "FillForecast" yX4_cost yX4_cost ∈ BIG := mB 324 (by decide +kernel) (by decide +kernel)
set_option maxRecDepth 20000 in
theorem w_co_X4_cost : Cond.code yX4_cost cX4_cost 3 (some .boolean) ∈ BIG := mB 325 (by rfl) (by rfl)
theorem w_ml_L_76 : Cond.methodLink "FillForecastLaw" 76 yX4_costOf ∈ BIG := mB 326 (by decide +kernel) (by decide +kernel)
theorem w_im_X4_costOf : Cond.instanceMethod yX4_costOf ∈ BIG := mB 327 (by decide +kernel) (by decide +kernel)
theorem w_sel_X4_costOf : Cond.selects "FillForecast" yX4_costOf yX4_costOf ∈ BIG := mB 328 (by decide +kernel) (by decide +kernel)
set_option maxRecDepth 20000 in
theorem w_co_X4_costOf : Cond.code yX4_costOf cX4_costOf 4 (some .long) ∈ BIG := mB 329 (by rfl) (by rfl)
theorem w_ml_X4_116 : Cond.methodLink "FillForecast" 116 yX4_centsOn ∈ BIG := mB 330 (by decide +kernel) (by decide +kernel)
theorem w_im_X4_centsOn : Cond.instanceMethod yX4_centsOn ∈ BIG := mB 332 (by decide +kernel) (by decide +kernel)
set_option maxRecDepth 20000 in
theorem w_co_X4_centsOn : Cond.code yX4_centsOn cX4_centsOn 5 (some .long) ∈ BIG := mB 333 (by rfl) (by rfl)
theorem w_ml_L_80 : Cond.methodLink "FillForecastLaw" 80 yX4_day ∈ BIG := mB 334 (by decide +kernel) (by decide +kernel)
theorem w_im_X4_day : Cond.instanceMethod yX4_day ∈ BIG := mB 335 (by decide +kernel) (by decide +kernel)
theorem w_sel_X4_day : Cond.selects "FillForecast" yX4_day yX4_day ∈ BIG := mB 336 (by decide +kernel) (by decide +kernel)
set_option maxRecDepth 20000 in
theorem w_co_X4_day : Cond.code yX4_day cX4_day 11 (some .int) ∈ BIG := mB 337 (by rfl) (by rfl)
theorem w_ml_L_84 : Cond.methodLink "FillForecastLaw" 84 yX4_check ∈ BIG := mB 338 (by decide +kernel) (by decide +kernel)
theorem w_im_X4_check : Cond.instanceMethod yX4_check ∈ BIG := mB 339 (by decide +kernel) (by decide +kernel)
theorem w_sel_X4_check : Cond.selects "FillForecast" yX4_check yX4_check ∈ BIG := mB 340 (by decide +kernel) (by decide +kernel)
set_option maxRecDepth 20000 in
theorem w_co_X4_check : Cond.code yX4_check cX4_check 7 (some .long) ∈ BIG := mB 341 (by rfl) (by rfl)
theorem w_ml_X4_119 : Cond.methodLink "FillForecast" 119 yX0_indexOfEmptying ∈ BIG := mB 342 (by decide +kernel) (by decide +kernel)
theorem w_im_X0_indexOfEmptying : Cond.instanceMethod yX0_indexOfEmptying ∈ BIG := mB 343 (by decide +kernel) (by decide +kernel)
theorem w_sel_X0_indexOfEmptying : Cond.selects "FillForecast$Bin" yX0_indexOfEmptying yX0_indexOfEmptying ∈ BIG := mB 344 (by decide +kernel) (by decide +kernel)
set_option maxRecDepth 20000 in
theorem w_co_X0_indexOfEmptying : Cond.code yX0_indexOfEmptying cX0_indexOfEmptying 4 (some .int) ∈ BIG := mB 345 (by rfl) (by rfl)
theorem w_ct_X4_124 : Cond.constantLong "FillForecast" 124 (-9223372036854775808) ∈ BIG := mB 346 (by decide +kernel) (by decide +kernel)
theorem w_ml_X4_126 : Cond.methodLink "FillForecast" 126 yX3_shareBefore ∈ BIG := mB 347 (by decide +kernel) (by decide +kernel)
theorem w_im_X3_shareBefore : Cond.instanceMethod yX3_shareBefore ∈ BIG := mB 348 (by decide +kernel) (by decide +kernel)
theorem w_sel_X3_shareBefore : Cond.selects "FillForecast$Outlook" yX3_shareBefore yX3_shareBefore ∈ BIG := mB 349 (by decide +kernel) (by decide +kernel)
set_option maxRecDepth 20000 in
theorem w_co_X3_shareBefore : Cond.code yX3_shareBefore cX3_shareBefore 3 (some .long) ∈ BIG := mB 350 (by rfl) (by rfl)
theorem w_ml_X3_36 : Cond.methodLink "FillForecast$Outlook" 36 yX0_placeAt ∈ BIG := mB 351 (by decide +kernel) (by decide +kernel)
theorem w_im_X0_placeAt : Cond.instanceMethod yX0_placeAt ∈ BIG := mB 352 (by decide +kernel) (by decide +kernel)
theorem w_sel_X0_placeAt : Cond.selects "FillForecast$Bin" yX0_placeAt yX0_placeAt ∈ BIG := mB 353 (by decide +kernel) (by decide +kernel)
set_option maxRecDepth 20000 in
theorem w_co_X0_placeAt : Cond.code yX0_placeAt cX0_placeAt 2 (some .int) ∈ BIG := mB 354 (by rfl) (by rfl)
theorem w_ml_X4_129 : Cond.methodLink "FillForecast" 129 yX0_amountAt ∈ BIG := mB 355 (by decide +kernel) (by decide +kernel)
theorem w_im_X0_amountAt : Cond.instanceMethod yX0_amountAt ∈ BIG := mB 356 (by decide +kernel) (by decide +kernel)
theorem w_sel_X0_amountAt : Cond.selects "FillForecast$Bin" yX0_amountAt yX0_amountAt ∈ BIG := mB 357 (by decide +kernel) (by decide +kernel)
set_option maxRecDepth 20000 in
theorem w_co_X0_amountAt : Cond.code yX0_amountAt cX0_amountAt 2 (some .int) ∈ BIG := mB 358 (by rfl) (by rfl)
theorem w_ml_X4_132 : Cond.methodLink "FillForecast" 132 yX0_roomInKilograms ∈ BIG := mB 359 (by decide +kernel) (by decide +kernel)
theorem w_im_X0_roomInKilograms : Cond.instanceMethod yX0_roomInKilograms ∈ BIG := mB 360 (by decide +kernel) (by decide +kernel)
theorem w_sel_X0_roomInKilograms : Cond.selects "FillForecast$Bin" yX0_roomInKilograms yX0_roomInKilograms ∈ BIG := mB 361 (by decide +kernel) (by decide +kernel)
set_option maxRecDepth 20000 in
theorem w_co_X0_roomInKilograms : Cond.code yX0_roomInKilograms cX0_roomInKilograms 1 (some .int) ∈ BIG := mB 362 (by rfl) (by rfl)
theorem w_cl_L_10 : Cond.classLink "FillForecastLaw" 10 "FillForecastModel" ∈ BIG := mB 363 (by decide +kernel) (by decide +kernel)
theorem w_ins_X5 : Cond.instantiable "FillForecastModel" 23 ∈ BIG := mB 364 (by decide +kernel) (by decide +kernel)
theorem w_ml_L_12 : Cond.methodLink "FillForecastLaw" 12 yX5_init ∈ BIG := mB 365 (by decide +kernel) (by decide +kernel)
theorem w_im_X5_init : Cond.instanceMethod yX5_init ∈ BIG := mB 366 (by decide +kernel) (by decide +kernel)
set_option maxRecDepth 20000 in
theorem w_co_X5_init : Cond.code yX5_init cX5_init 1 none ∈ BIG := mB 367 (by rfl) (by rfl)
theorem w_ml_X5_1 : Cond.methodLink "FillForecastModel" 1 objectInit ∈ BIG := mB 368 (by decide +kernel) (by decide +kernel)
theorem w_fl_X5_76 : Cond.fieldLink "FillForecastModel" 76 "FillForecastModel" "bins" "I" ∈ BIG := mB 369 (by decide +kernel) (by decide +kernel)
theorem w_fl_X5_7 : Cond.fieldLink "FillForecastModel" 7 "FillForecastModel" "streets" "[I" ∈ BIG := mB 370 (by decide +kernel) (by decide +kernel)
theorem w_fl_X5_13 : Cond.fieldLink "FillForecastModel" 13 "FillForecastModel" "rooms" "[I" ∈ BIG := mB 371 (by decide +kernel) (by decide +kernel)
theorem w_fl_X5_16 : Cond.fieldLink "FillForecastModel" 16 "FillForecastModel" "rowCounts" "[I" ∈ BIG := mB 372 (by decide +kernel) (by decide +kernel)
theorem w_fl_X5_19 : Cond.fieldLink "FillForecastModel" 19 "FillForecastModel" "rowHours" "[I" ∈ BIG := mB 373 (by decide +kernel) (by decide +kernel)
theorem w_fl_X5_22 : Cond.fieldLink "FillForecastModel" 22 "FillForecastModel" "rowShares" "[I" ∈ BIG := mB 374 (by decide +kernel) (by decide +kernel)
theorem w_fl_X5_25 : Cond.fieldLink "FillForecastModel" 25 "FillForecastModel" "emptyCounts" "[I" ∈ BIG := mB 375 (by decide +kernel) (by decide +kernel)
theorem w_fl_X5_28 : Cond.fieldLink "FillForecastModel" 28 "FillForecastModel" "emptyHours" "[I" ∈ BIG := mB 376 (by decide +kernel) (by decide +kernel)
theorem w_fl_X5_31 : Cond.fieldLink "FillForecastModel" 31 "FillForecastModel" "kilograms" "[I" ∈ BIG := mB 377 (by decide +kernel) (by decide +kernel)
theorem w_fl_X5_34 : Cond.fieldLink "FillForecastModel" 34 "FillForecastModel" "over" "I" ∈ BIG := mB 378 (by decide +kernel) (by decide +kernel)
theorem w_fl_X5_38 : Cond.fieldLink "FillForecastModel" 38 "FillForecastModel" "under" "I" ∈ BIG := mB 379 (by decide +kernel) (by decide +kernel)
theorem w_fl_X5_41 : Cond.fieldLink "FillForecastModel" 41 "FillForecastModel" "isHoliday" "[Z" ∈ BIG := mB 380 (by decide +kernel) (by decide +kernel)
theorem w_fl_X5_45 : Cond.fieldLink "FillForecastModel" 45 "FillForecastModel" "quiet" "I" ∈ BIG := mB 381 (by decide +kernel) (by decide +kernel)
theorem w_fl_X5_48 : Cond.fieldLink "FillForecastModel" 48 "FillForecastModel" "early" "I" ∈ BIG := mB 382 (by decide +kernel) (by decide +kernel)
theorem w_fl_X5_51 : Cond.fieldLink "FillForecastModel" 51 "FillForecastModel" "late" "I" ∈ BIG := mB 383 (by decide +kernel) (by decide +kernel)
theorem w_fl_X5_94 : Cond.fieldLink "FillForecastModel" 94 "FillForecastModel" "points" "I" ∈ BIG := mB 384 (by decide +kernel) (by decide +kernel)
theorem w_fl_X5_54 : Cond.fieldLink "FillForecastModel" 54 "FillForecastModel" "hours" "[I" ∈ BIG := mB 385 (by decide +kernel) (by decide +kernel)
theorem w_fl_X5_57 : Cond.fieldLink "FillForecastModel" 57 "FillForecastModel" "shares" "[I" ∈ BIG := mB 386 (by decide +kernel) (by decide +kernel)
theorem w_fl_X5_60 : Cond.fieldLink "FillForecastModel" 60 "FillForecastModel" "isEmptying" "[Z" ∈ BIG := mB 387 (by decide +kernel) (by decide +kernel)
theorem w_fl_X5_63 : Cond.fieldLink "FillForecastModel" 63 "FillForecastModel" "isWrong" "[Z" ∈ BIG := mB 388 (by decide +kernel) (by decide +kernel)
theorem w_fl_X5_66 : Cond.fieldLink "FillForecastModel" 66 "FillForecastModel" "gains" "[I" ∈ BIG := mB 389 (by decide +kernel) (by decide +kernel)
theorem w_fl_X5_69 : Cond.fieldLink "FillForecastModel" 69 "FillForecastModel" "rates" "[I" ∈ BIG := mB 390 (by decide +kernel) (by decide +kernel)
theorem w_fl_X5_72 : Cond.fieldLink "FillForecastModel" 72 "FillForecastModel" "sums" "[J" ∈ BIG := mB 391 (by decide +kernel) (by decide +kernel)
theorem w_ac_long : Cond.arrayClass .long ∈ BIG := mB 439 (by decide +kernel) (by decide +kernel)
theorem w_ml_L_17 : Cond.methodLink "FillForecastLaw" 17 yX5_bin ∈ BIG := mB 440 (by decide +kernel) (by decide +kernel)
theorem w_im_X5_bin : Cond.instanceMethod yX5_bin ∈ BIG := mB 441 (by decide +kernel) (by decide +kernel)
theorem w_sel_X5_bin : Cond.selects "FillForecastModel" yX5_bin yX5_bin ∈ BIG := mB 442 (by decide +kernel) (by decide +kernel)
set_option maxRecDepth 20000 in
theorem w_co_X5_bin : Cond.code yX5_bin cX5_bin 3 (some .int) ∈ BIG := mB 443 (by rfl) (by rfl)
theorem w_ml_X5_79 : Cond.methodLink "FillForecastModel" 79 yX5_isIn ∈ BIG := mB 444 (by decide +kernel) (by decide +kernel)
theorem w_sm_X5_isIn : Cond.static yX5_isIn ∈ BIG := mB 445 (by decide +kernel) (by decide +kernel)
set_option maxRecDepth 20000 in
theorem w_co_X5_isIn : Cond.code yX5_isIn cX5_isIn 3 (some .boolean) ∈ BIG := mB 446 (by rfl) (by rfl)
theorem w_ml_L_22 : Cond.methodLink "FillForecastLaw" 22 yX5_row ∈ BIG := mB 447 (by decide +kernel) (by decide +kernel)
theorem w_im_X5_row : Cond.instanceMethod yX5_row ∈ BIG := mB 448 (by decide +kernel) (by decide +kernel)
theorem w_sel_X5_row : Cond.selects "FillForecastModel" yX5_row yX5_row ∈ BIG := mB 449 (by decide +kernel) (by decide +kernel)
set_option maxRecDepth 20000 in
theorem w_co_X5_row : Cond.code yX5_row cX5_row 5 (some .int) ∈ BIG := mB 450 (by rfl) (by rfl)
theorem w_ml_X5_83 : Cond.methodLink "FillForecastModel" 83 yX5_isBin ∈ BIG := mB 451 (by decide +kernel) (by decide +kernel)
theorem w_im_X5_isBin : Cond.instanceMethod yX5_isBin ∈ BIG := mB 453 (by decide +kernel) (by decide +kernel)
set_option maxRecDepth 20000 in
theorem w_co_X5_isBin : Cond.code yX5_isBin cX5_isBin 2 (some .boolean) ∈ BIG := mB 454 (by rfl) (by rfl)
theorem w_ml_X5_87 : Cond.methodLink "FillForecastModel" 87 yX5_isHour ∈ BIG := mB 455 (by decide +kernel) (by decide +kernel)
theorem w_sm_X5_isHour : Cond.static yX5_isHour ∈ BIG := mB 456 (by decide +kernel) (by decide +kernel)
set_option maxRecDepth 20000 in
theorem w_co_X5_isHour : Cond.code yX5_isHour cX5_isHour 1 (some .boolean) ∈ BIG := mB 457 (by rfl) (by rfl)
theorem w_ml_L_26 : Cond.methodLink "FillForecastLaw" 26 yX5_emptied ∈ BIG := mB 458 (by decide +kernel) (by decide +kernel)
theorem w_im_X5_emptied : Cond.instanceMethod yX5_emptied ∈ BIG := mB 459 (by decide +kernel) (by decide +kernel)
theorem w_sel_X5_emptied : Cond.selects "FillForecastModel" yX5_emptied yX5_emptied ∈ BIG := mB 460 (by decide +kernel) (by decide +kernel)
set_option maxRecDepth 20000 in
theorem w_co_X5_emptied : Cond.code yX5_emptied cX5_emptied 5 (some .int) ∈ BIG := mB 461 (by rfl) (by rfl)
theorem w_ct_X5_90 : Cond.constant "FillForecastModel" 90 100000 ∈ BIG := mB 462 (by decide +kernel) (by decide +kernel)
theorem w_ml_L_31 : Cond.methodLink "FillForecastLaw" 31 yX5_fade ∈ BIG := mB 463 (by decide +kernel) (by decide +kernel)
theorem w_im_X5_fade : Cond.instanceMethod yX5_fade ∈ BIG := mB 464 (by decide +kernel) (by decide +kernel)
theorem w_sel_X5_fade : Cond.selects "FillForecastModel" yX5_fade yX5_fade ∈ BIG := mB 465 (by decide +kernel) (by decide +kernel)
set_option maxRecDepth 20000 in
theorem w_co_X5_fade : Cond.code yX5_fade cX5_fade 3 (some .boolean) ∈ BIG := mB 466 (by rfl) (by rfl)
theorem w_ml_L_36 : Cond.methodLink "FillForecastLaw" 36 yX5_holiday ∈ BIG := mB 467 (by decide +kernel) (by decide +kernel)
theorem w_im_X5_holiday : Cond.instanceMethod yX5_holiday ∈ BIG := mB 468 (by decide +kernel) (by decide +kernel)
theorem w_sel_X5_holiday : Cond.selects "FillForecastModel" yX5_holiday yX5_holiday ∈ BIG := mB 469 (by decide +kernel) (by decide +kernel)
set_option maxRecDepth 20000 in
theorem w_co_X5_holiday : Cond.code yX5_holiday cX5_holiday 3 (some .boolean) ∈ BIG := mB 470 (by rfl) (by rfl)
theorem w_ml_X5_91 : Cond.methodLink "FillForecastModel" 91 yX5_isDay ∈ BIG := mB 471 (by decide +kernel) (by decide +kernel)
theorem w_sm_X5_isDay : Cond.static yX5_isDay ∈ BIG := mB 472 (by decide +kernel) (by decide +kernel)
set_option maxRecDepth 20000 in
theorem w_co_X5_isDay : Cond.code yX5_isDay cX5_isDay 1 (some .boolean) ∈ BIG := mB 473 (by rfl) (by rfl)
theorem w_ml_L_63 : Cond.methodLink "FillForecastLaw" 63 yX5_quiet ∈ BIG := mB 474 (by decide +kernel) (by decide +kernel)
theorem w_im_X5_quiet : Cond.instanceMethod yX5_quiet ∈ BIG := mB 475 (by decide +kernel) (by decide +kernel)
theorem w_sel_X5_quiet : Cond.selects "FillForecastModel" yX5_quiet yX5_quiet ∈ BIG := mB 476 (by decide +kernel) (by decide +kernel)
set_option maxRecDepth 20000 in
theorem w_co_X5_quiet : Cond.code yX5_quiet cX5_quiet 2 (some .boolean) ∈ BIG := mB 477 (by rfl) (by rfl)
theorem w_ml_L_75 : Cond.methodLink "FillForecastLaw" 75 yX5_cost ∈ BIG := mB 478 (by decide +kernel) (by decide +kernel)
theorem w_im_X5_cost : Cond.instanceMethod yX5_cost ∈ BIG := mB 479 (by decide +kernel) (by decide +kernel)
theorem w_sel_X5_cost : Cond.selects "FillForecastModel" yX5_cost yX5_cost ∈ BIG := mB 480 (by decide +kernel) (by decide +kernel)
set_option maxRecDepth 20000 in
theorem w_co_X5_cost : Cond.code yX5_cost cX5_cost 3 (some .boolean) ∈ BIG := mB 481 (by rfl) (by rfl)
theorem w_ml_L_49 : Cond.methodLink "FillForecastLaw" 49 yX5_weight ∈ BIG := mB 482 (by decide +kernel) (by decide +kernel)
theorem w_im_X5_weight : Cond.instanceMethod yX5_weight ∈ BIG := mB 483 (by decide +kernel) (by decide +kernel)
theorem w_sel_X5_weight : Cond.selects "FillForecastModel" yX5_weight yX5_weight ∈ BIG := mB 484 (by decide +kernel) (by decide +kernel)
set_option maxRecDepth 20000 in
theorem w_co_X5_weight : Cond.code yX5_weight cX5_weight 2 (some .int) ∈ BIG := mB 485 (by rfl) (by rfl)
theorem w_ml_X5_101 : Cond.methodLink "FillForecastModel" 101 yX5_weightOf ∈ BIG := mB 486 (by decide +kernel) (by decide +kernel)
theorem w_im_X5_weightOf : Cond.instanceMethod yX5_weightOf ∈ BIG := mB 488 (by decide +kernel) (by decide +kernel)
set_option maxRecDepth 20000 in
theorem w_co_X5_weightOf : Cond.code yX5_weightOf cX5_weightOf 4 (some .int) ∈ BIG := mB 489 (by rfl) (by rfl)
theorem w_ml_L_40 : Cond.methodLink "FillForecastLaw" 40 yX5_mean ∈ BIG := mB 490 (by decide +kernel) (by decide +kernel)
theorem w_im_X5_mean : Cond.instanceMethod yX5_mean ∈ BIG := mB 491 (by decide +kernel) (by decide +kernel)
theorem w_sel_X5_mean : Cond.selects "FillForecastModel" yX5_mean yX5_mean ∈ BIG := mB 492 (by decide +kernel) (by decide +kernel)
set_option maxRecDepth 20000 in
theorem w_co_X5_mean : Cond.code yX5_mean cX5_mean 3 (some .int) ∈ BIG := mB 493 (by rfl) (by rfl)
theorem w_ml_X5_112 : Cond.methodLink "FillForecastModel" 112 yX5_meanOf ∈ BIG := mB 494 (by decide +kernel) (by decide +kernel)
theorem w_im_X5_meanOf : Cond.instanceMethod yX5_meanOf ∈ BIG := mB 496 (by decide +kernel) (by decide +kernel)
set_option maxRecDepth 20000 in
theorem w_co_X5_meanOf : Cond.code yX5_meanOf cX5_meanOf 9 (some .int) ∈ BIG := mB 497 (by rfl) (by rfl)
theorem w_ml_X5_105 : Cond.methodLink "FillForecastModel" 105 yX5_layOut ∈ BIG := mB 498 (by decide +kernel) (by decide +kernel)
theorem w_im_X5_layOut : Cond.instanceMethod yX5_layOut ∈ BIG := mB 500 (by decide +kernel) (by decide +kernel)
set_option maxRecDepth 20000 in
theorem w_co_X5_layOut : Cond.code yX5_layOut cX5_layOut 5 none ∈ BIG := mB 501 (by rfl) (by rfl)
theorem w_ml_X5_97 : Cond.methodLink "FillForecastModel" 97 yX5_place ∈ BIG := mB 502 (by decide +kernel) (by decide +kernel)
theorem w_im_X5_place : Cond.instanceMethod yX5_place ∈ BIG := mB 504 (by decide +kernel) (by decide +kernel)
set_option maxRecDepth 20000 in
theorem w_co_X5_place : Cond.code yX5_place cX5_place 5 none ∈ BIG := mB 505 (by rfl) (by rfl)
theorem w_ml_X5_109 : Cond.methodLink "FillForecastModel" 109 yX5_weekdayOf ∈ BIG := mB 506 (by decide +kernel) (by decide +kernel)
theorem w_im_X5_weekdayOf : Cond.instanceMethod yX5_weekdayOf ∈ BIG := mB 508 (by decide +kernel) (by decide +kernel)
set_option maxRecDepth 20000 in
theorem w_co_X5_weekdayOf : Cond.code yX5_weekdayOf cX5_weekdayOf 2 (some .int) ∈ BIG := mB 509 (by rfl) (by rfl)
theorem w_ml_L_44 : Cond.methodLink "FillForecastLaw" 44 yX5_rate ∈ BIG := mB 510 (by decide +kernel) (by decide +kernel)
theorem w_im_X5_rate : Cond.instanceMethod yX5_rate ∈ BIG := mB 511 (by decide +kernel) (by decide +kernel)
theorem w_sel_X5_rate : Cond.selects "FillForecastModel" yX5_rate yX5_rate ∈ BIG := mB 512 (by decide +kernel) (by decide +kernel)
set_option maxRecDepth 20000 in
theorem w_co_X5_rate : Cond.code yX5_rate cX5_rate 3 (some .int) ∈ BIG := mB 513 (by rfl) (by rfl)
theorem w_ml_X5_116 : Cond.methodLink "FillForecastModel" 116 yX5_rateOf ∈ BIG := mB 514 (by decide +kernel) (by decide +kernel)
theorem w_im_X5_rateOf : Cond.instanceMethod yX5_rateOf ∈ BIG := mB 516 (by decide +kernel) (by decide +kernel)
set_option maxRecDepth 20000 in
theorem w_co_X5_rateOf : Cond.code yX5_rateOf cX5_rateOf 8 (some .int) ∈ BIG := mB 517 (by rfl) (by rfl)
theorem w_ml_L_54 : Cond.methodLink "FillForecastLaw" 54 yX5_expected ∈ BIG := mB 518 (by decide +kernel) (by decide +kernel)
theorem w_im_X5_expected : Cond.instanceMethod yX5_expected ∈ BIG := mB 519 (by decide +kernel) (by decide +kernel)
theorem w_sel_X5_expected : Cond.selects "FillForecastModel" yX5_expected yX5_expected ∈ BIG := mB 520 (by decide +kernel) (by decide +kernel)
set_option maxRecDepth 20000 in
theorem w_co_X5_expected : Cond.code yX5_expected cX5_expected 3 (some .long) ∈ BIG := mB 521 (by rfl) (by rfl)
theorem w_ct_X5_121 : Cond.constantLong "FillForecastModel" 121 (-1) ∈ BIG := mB 522 (by decide +kernel) (by decide +kernel)
theorem w_ml_X5_123 : Cond.methodLink "FillForecastModel" 123 yX5_prepare ∈ BIG := mB 523 (by decide +kernel) (by decide +kernel)
theorem w_im_X5_prepare : Cond.instanceMethod yX5_prepare ∈ BIG := mB 525 (by decide +kernel) (by decide +kernel)
set_option maxRecDepth 20000 in
theorem w_co_X5_prepare : Cond.code yX5_prepare cX5_prepare 3 none ∈ BIG := mB 526 (by rfl) (by rfl)
theorem w_ml_X5_126 : Cond.methodLink "FillForecastModel" 126 yX5_expectedBy ∈ BIG := mB 527 (by decide +kernel) (by decide +kernel)
theorem w_im_X5_expectedBy : Cond.instanceMethod yX5_expectedBy ∈ BIG := mB 529 (by decide +kernel) (by decide +kernel)
set_option maxRecDepth 20000 in
theorem w_co_X5_expectedBy : Cond.code yX5_expectedBy cX5_expectedBy 8 (some .long) ∈ BIG := mB 530 (by rfl) (by rfl)
theorem w_ct_X5_119 : Cond.constantLong "FillForecastModel" 119 24 ∈ BIG := mB 531 (by decide +kernel) (by decide +kernel)
theorem w_ml_L_58 : Cond.methodLink "FillForecastLaw" 58 yX5_wrong ∈ BIG := mB 532 (by decide +kernel) (by decide +kernel)
theorem w_im_X5_wrong : Cond.instanceMethod yX5_wrong ∈ BIG := mB 533 (by decide +kernel) (by decide +kernel)
theorem w_sel_X5_wrong : Cond.selects "FillForecastModel" yX5_wrong yX5_wrong ∈ BIG := mB 534 (by decide +kernel) (by decide +kernel)
set_option maxRecDepth 20000 in
theorem w_co_X5_wrong : Cond.code yX5_wrong cX5_wrong 5 (some .int) ∈ BIG := mB 535 (by rfl) (by rfl)
theorem w_ml_L_67 : Cond.methodLink "FillForecastLaw" 67 yX5_silent ∈ BIG := mB 536 (by decide +kernel) (by decide +kernel)
theorem w_im_X5_silent : Cond.instanceMethod yX5_silent ∈ BIG := mB 537 (by decide +kernel) (by decide +kernel)
theorem w_sel_X5_silent : Cond.selects "FillForecastModel" yX5_silent yX5_silent ∈ BIG := mB 538 (by decide +kernel) (by decide +kernel)
set_option maxRecDepth 20000 in
theorem w_co_X5_silent : Cond.code yX5_silent cX5_silent 5 (some .int) ∈ BIG := mB 539 (by rfl) (by rfl)
theorem w_ml_X5_130 : Cond.methodLink "FillForecastModel" 130 yX5_isSilent ∈ BIG := mB 540 (by decide +kernel) (by decide +kernel)
theorem w_im_X5_isSilent : Cond.instanceMethod yX5_isSilent ∈ BIG := mB 542 (by decide +kernel) (by decide +kernel)
set_option maxRecDepth 20000 in
theorem w_co_X5_isSilent : Cond.code yX5_isSilent cX5_isSilent 6 (some .boolean) ∈ BIG := mB 543 (by rfl) (by rfl)
theorem w_ml_L_71 : Cond.methodLink "FillForecastLaw" 71 yX5_over ∈ BIG := mB 544 (by decide +kernel) (by decide +kernel)
theorem w_im_X5_over : Cond.instanceMethod yX5_over ∈ BIG := mB 545 (by decide +kernel) (by decide +kernel)
theorem w_sel_X5_over : Cond.selects "FillForecastModel" yX5_over yX5_over ∈ BIG := mB 546 (by decide +kernel) (by decide +kernel)
set_option maxRecDepth 20000 in
theorem w_co_X5_over : Cond.code yX5_over cX5_over 5 (some .int) ∈ BIG := mB 547 (by rfl) (by rfl)
theorem w_ml_X5_134 : Cond.methodLink "FillForecastModel" 134 yX5_expected ∈ BIG := mB 548 (by decide +kernel) (by decide +kernel)
theorem w_ct_X5_137 : Cond.constantLong "FillForecastModel" 137 1000 ∈ BIG := mB 549 (by decide +kernel) (by decide +kernel)
theorem w_ml_L_79 : Cond.methodLink "FillForecastLaw" 79 yX5_costOf ∈ BIG := mB 550 (by decide +kernel) (by decide +kernel)
theorem w_im_X5_costOf : Cond.instanceMethod yX5_costOf ∈ BIG := mB 551 (by decide +kernel) (by decide +kernel)
theorem w_sel_X5_costOf : Cond.selects "FillForecastModel" yX5_costOf yX5_costOf ∈ BIG := mB 552 (by decide +kernel) (by decide +kernel)
set_option maxRecDepth 20000 in
theorem w_co_X5_costOf : Cond.code yX5_costOf cX5_costOf 3 (some .long) ∈ BIG := mB 553 (by rfl) (by rfl)
theorem w_ml_X5_139 : Cond.methodLink "FillForecastModel" 139 yX5_costOn ∈ BIG := mB 554 (by decide +kernel) (by decide +kernel)
theorem w_im_X5_costOn : Cond.instanceMethod yX5_costOn ∈ BIG := mB 556 (by decide +kernel) (by decide +kernel)
set_option maxRecDepth 20000 in
theorem w_co_X5_costOn : Cond.code yX5_costOn cX5_costOn 4 (some .long) ∈ BIG := mB 557 (by rfl) (by rfl)
theorem w_ml_L_83 : Cond.methodLink "FillForecastLaw" 83 yX5_day ∈ BIG := mB 558 (by decide +kernel) (by decide +kernel)
theorem w_im_X5_day : Cond.instanceMethod yX5_day ∈ BIG := mB 559 (by decide +kernel) (by decide +kernel)
theorem w_sel_X5_day : Cond.selects "FillForecastModel" yX5_day yX5_day ∈ BIG := mB 560 (by decide +kernel) (by decide +kernel)
set_option maxRecDepth 20000 in
theorem w_co_X5_day : Cond.code yX5_day cX5_day 6 (some .int) ∈ BIG := mB 561 (by rfl) (by rfl)
theorem w_ml_L_87 : Cond.methodLink "FillForecastLaw" 87 yX5_check ∈ BIG := mB 562 (by decide +kernel) (by decide +kernel)
theorem w_im_X5_check : Cond.instanceMethod yX5_check ∈ BIG := mB 563 (by decide +kernel) (by decide +kernel)
theorem w_sel_X5_check : Cond.selects "FillForecastModel" yX5_check yX5_check ∈ BIG := mB 564 (by decide +kernel) (by decide +kernel)
set_option maxRecDepth 20000 in
theorem w_co_X5_check : Cond.code yX5_check cX5_check 7 (some .long) ∈ BIG := mB 565 (by rfl) (by rfl)
theorem w_ct_X5_143 : Cond.constantLong "FillForecastModel" 143 (-9223372036854775808) ∈ BIG := mB 566 (by decide +kernel) (by decide +kernel)
theorem hiX0 : ∀ w ∈ wsX00, w ∈ BIG := by
  have h : ∀ w ∈ wsX00, w ∈ lw_tbl ∧ goodWord w = true := by decide +kernel
  exact fun w hw => List.mem_filter.mpr ⟨(h w hw).1, (h w hw).2⟩
theorem hiX1 : ∀ w ∈ wsX10, w ∈ BIG := by
  have h : ∀ w ∈ wsX10, w ∈ lw_tbl ∧ goodWord w = true := by decide +kernel
  exact fun w hw => List.mem_filter.mpr ⟨(h w hw).1, (h w hw).2⟩
theorem hiX2 : ∀ w ∈ wsX20, w ∈ BIG := by
  have h : ∀ w ∈ wsX20, w ∈ lw_tbl ∧ goodWord w = true := by decide +kernel
  exact fun w hw => List.mem_filter.mpr ⟨(h w hw).1, (h w hw).2⟩
theorem hiX3 : ∀ w ∈ wsX30, w ∈ BIG := by
  have h : ∀ w ∈ wsX30, w ∈ lw_tbl ∧ goodWord w = true := by decide +kernel
  exact fun w hw => List.mem_filter.mpr ⟨(h w hw).1, (h w hw).2⟩
theorem hiX4 : ∀ w ∈ wsX40, w ∈ BIG := by
  have h : ∀ w ∈ wsX40, w ∈ lw_tbl ∧ goodWord w = true := by decide +kernel
  exact fun w hw => List.mem_filter.mpr ⟨(h w hw).1, (h w hw).2⟩
theorem hiX5 : ∀ w ∈ wsX50, w ∈ BIG := by
  have h : ∀ w ∈ wsX50, w ∈ lw_tbl ∧ goodWord w = true := by decide +kernel
  exact fun w hw => List.mem_filter.mpr ⟨(h w hw).1, (h w hw).2⟩
abbrev wsX4_init : List Cond := .code yX4_init cX4_init 1 none :: BIG
abbrev wsX1_init : List Cond := .code yX1_init cX1_init 1 none :: BIG
abbrev wsX2_init : List Cond := .code yX2_init cX2_init 1 none :: BIG
abbrev wsX2_setTo : List Cond := .code yX2_setTo cX2_setTo 6 none :: BIG
abbrev wsX3_init : List Cond := .code yX3_init cX3_init 1 none :: BIG
abbrev wsX4_bin : List Cond := .code yX4_bin cX4_bin 3 (some .int) :: BIG
abbrev wsX4_isWithin : List Cond := .code yX4_isWithin cX4_isWithin 3 (some .boolean) :: BIG
abbrev wsX0_init : List Cond := .code yX0_init cX0_init 3 none :: BIG
abbrev wsX4_row : List Cond := .code yX4_row cX4_row 5 (some .int) :: BIG
abbrev wsX4_binOf : List Cond := .code yX4_binOf cX4_binOf 2 (some (.object "FillForecast$Bin")) :: BIG
abbrev wsX4_isHour : List Cond := .code yX4_isHour cX4_isHour 1 (some .boolean) :: BIG
abbrev wsX0_putRow : List Cond := .code yX0_putRow cX0_putRow 5 (some .int) :: BIG
abbrev wsX0_placeOfRow : List Cond := .code yX0_placeOfRow cX0_placeOfRow 1 (some .int) :: BIG
abbrev wsX0_indexFor : List Cond := .code yX0_indexFor cX0_indexFor 3 (some .int) :: BIG
abbrev wsX0_isTaken : List Cond := .code yX0_isTaken cX0_isTaken 3 (some .boolean) :: BIG
abbrev wsX0_open : List Cond := .code yX0_open cX0_open 4 none :: BIG
abbrev wsX0_judge : List Cond := .code yX0_judge cX0_judge 4 none :: BIG
abbrev wsX0_isRow : List Cond := .code yX0_isRow cX0_isRow 2 (some .boolean) :: BIG
abbrev wsX0_shareAt : List Cond := .code yX0_shareAt cX0_shareAt 2 (some .int) :: BIG
abbrev wsX0_gainFrom : List Cond := .code yX0_gainFrom cX0_gainFrom 4 (some .int) :: BIG
abbrev wsX0_hourAt : List Cond := .code yX0_hourAt cX0_hourAt 2 (some .int) :: BIG
abbrev wsX4_emptied : List Cond := .code yX4_emptied cX4_emptied 5 (some .int) :: BIG
abbrev wsX0_putEmptying : List Cond := .code yX0_putEmptying cX0_putEmptying 5 (some .int) :: BIG
abbrev wsX0_placeOfEmptying : List Cond := .code yX0_placeOfEmptying cX0_placeOfEmptying 1 (some .int) :: BIG
abbrev wsX4_fade : List Cond := .code yX4_fade cX4_fade 3 (some .boolean) :: BIG
abbrev wsX4_holiday : List Cond := .code yX4_holiday cX4_holiday 3 (some .boolean) :: BIG
abbrev wsX4_isDay : List Cond := .code yX4_isDay cX4_isDay 1 (some .boolean) :: BIG
abbrev wsX1_mark : List Cond := .code yX1_mark cX1_mark 3 none :: BIG
abbrev wsX4_mean : List Cond := .code yX4_mean cX4_mean 4 (some .int) :: BIG
abbrev wsX0_meanOn : List Cond := .code yX0_meanOn cX0_meanOn 12 (some .int) :: BIG
abbrev wsX1_weekdayOf : List Cond := .code yX1_weekdayOf cX1_weekdayOf 2 (some .int) :: BIG
abbrev wsX2_weightOf : List Cond := .code yX2_weightOf cX2_weightOf 2 (some .int) :: BIG
abbrev wsX4_rate : List Cond := .code yX4_rate cX4_rate 4 (some .int) :: BIG
abbrev wsX4_rateOn : List Cond := .code yX4_rateOn cX4_rateOn 4 (some .int) :: BIG
abbrev wsX0_streetNumber : List Cond := .code yX0_streetNumber cX0_streetNumber 1 (some .int) :: BIG
abbrev wsX4_streetRateOn : List Cond := .code yX4_streetRateOn cX4_streetRateOn 8 (some .int) :: BIG
abbrev wsX4_weight : List Cond := .code yX4_weight cX4_weight 2 (some .int) :: BIG
abbrev wsX4_expected : List Cond := .code yX4_expected cX4_expected 4 (some .long) :: BIG
abbrev wsX4_lookAhead : List Cond := .code yX4_lookAhead cX4_lookAhead 3 none :: BIG
abbrev wsX3_setRate : List Cond := .code yX3_setRate cX3_setRate 3 none :: BIG
abbrev wsX3_sumUp : List Cond := .code yX3_sumUp cX3_sumUp 3 none :: BIG
abbrev wsX3_shareAt : List Cond := .code yX3_shareAt cX3_shareAt 3 (some .long) :: BIG
abbrev wsX0_latestUpTo : List Cond := .code yX0_latestUpTo cX0_latestUpTo 3 (some .int) :: BIG
abbrev wsX3_shareBy : List Cond := .code yX3_shareBy cX3_shareBy 7 (some .long) :: BIG
abbrev wsX3_gainUpTo : List Cond := .code yX3_gainUpTo cX3_gainUpTo 5 (some .long) :: BIG
abbrev wsX4_wrong : List Cond := .code yX4_wrong cX4_wrong 4 (some .int) :: BIG
abbrev wsX0_hourOfWrong : List Cond := .code yX0_hourOfWrong cX0_hourOfWrong 4 (some .int) :: BIG
abbrev wsX4_quiet : List Cond := .code yX4_quiet cX4_quiet 2 (some .boolean) :: BIG
abbrev wsX4_silent : List Cond := .code yX4_silent cX4_silent 5 (some .int) :: BIG
abbrev wsX0_hasRowWithin : List Cond := .code yX0_hasRowWithin cX0_hasRowWithin 4 (some .boolean) :: BIG
abbrev wsX4_over : List Cond := .code yX4_over cX4_over 5 (some .int) :: BIG
abbrev wsX4_cost : List Cond := .code yX4_cost cX4_cost 3 (some .boolean) :: BIG
abbrev wsX4_costOf : List Cond := .code yX4_costOf cX4_costOf 4 (some .long) :: BIG
abbrev wsX4_centsOn : List Cond := .code yX4_centsOn cX4_centsOn 5 (some .long) :: BIG
abbrev wsX4_day : List Cond := .code yX4_day cX4_day 11 (some .int) :: BIG
abbrev wsX4_check : List Cond := .code yX4_check cX4_check 7 (some .long) :: BIG
abbrev wsX0_indexOfEmptying : List Cond := .code yX0_indexOfEmptying cX0_indexOfEmptying 4 (some .int) :: BIG
abbrev wsX3_shareBefore : List Cond := .code yX3_shareBefore cX3_shareBefore 3 (some .long) :: BIG
abbrev wsX0_placeAt : List Cond := .code yX0_placeAt cX0_placeAt 2 (some .int) :: BIG
abbrev wsX0_amountAt : List Cond := .code yX0_amountAt cX0_amountAt 2 (some .int) :: BIG
abbrev wsX0_roomInKilograms : List Cond := .code yX0_roomInKilograms cX0_roomInKilograms 1 (some .int) :: BIG
abbrev wsX5_init : List Cond := .code yX5_init cX5_init 1 none :: BIG
abbrev wsX5_bin : List Cond := .code yX5_bin cX5_bin 3 (some .int) :: BIG
abbrev wsX5_isIn : List Cond := .code yX5_isIn cX5_isIn 3 (some .boolean) :: BIG
abbrev wsX5_row : List Cond := .code yX5_row cX5_row 5 (some .int) :: BIG
abbrev wsX5_isBin : List Cond := .code yX5_isBin cX5_isBin 2 (some .boolean) :: BIG
abbrev wsX5_isHour : List Cond := .code yX5_isHour cX5_isHour 1 (some .boolean) :: BIG
abbrev wsX5_emptied : List Cond := .code yX5_emptied cX5_emptied 5 (some .int) :: BIG
abbrev wsX5_fade : List Cond := .code yX5_fade cX5_fade 3 (some .boolean) :: BIG
abbrev wsX5_holiday : List Cond := .code yX5_holiday cX5_holiday 3 (some .boolean) :: BIG
abbrev wsX5_isDay : List Cond := .code yX5_isDay cX5_isDay 1 (some .boolean) :: BIG
abbrev wsX5_quiet : List Cond := .code yX5_quiet cX5_quiet 2 (some .boolean) :: BIG
abbrev wsX5_cost : List Cond := .code yX5_cost cX5_cost 3 (some .boolean) :: BIG
abbrev wsX5_weight : List Cond := .code yX5_weight cX5_weight 2 (some .int) :: BIG
abbrev wsX5_weightOf : List Cond := .code yX5_weightOf cX5_weightOf 4 (some .int) :: BIG
abbrev wsX5_mean : List Cond := .code yX5_mean cX5_mean 3 (some .int) :: BIG
abbrev wsX5_meanOf : List Cond := .code yX5_meanOf cX5_meanOf 9 (some .int) :: BIG
abbrev wsX5_layOut : List Cond := .code yX5_layOut cX5_layOut 5 none :: BIG
abbrev wsX5_place : List Cond := .code yX5_place cX5_place 5 none :: BIG
abbrev wsX5_weekdayOf : List Cond := .code yX5_weekdayOf cX5_weekdayOf 2 (some .int) :: BIG
abbrev wsX5_rate : List Cond := .code yX5_rate cX5_rate 3 (some .int) :: BIG
abbrev wsX5_rateOf : List Cond := .code yX5_rateOf cX5_rateOf 8 (some .int) :: BIG
abbrev wsX5_expected : List Cond := .code yX5_expected cX5_expected 3 (some .long) :: BIG
abbrev wsX5_prepare : List Cond := .code yX5_prepare cX5_prepare 3 none :: BIG
abbrev wsX5_expectedBy : List Cond := .code yX5_expectedBy cX5_expectedBy 8 (some .long) :: BIG
abbrev wsX5_wrong : List Cond := .code yX5_wrong cX5_wrong 5 (some .int) :: BIG
abbrev wsX5_silent : List Cond := .code yX5_silent cX5_silent 5 (some .int) :: BIG
abbrev wsX5_isSilent : List Cond := .code yX5_isSilent cX5_isSilent 6 (some .boolean) :: BIG
abbrev wsX5_over : List Cond := .code yX5_over cX5_over 5 (some .int) :: BIG
abbrev wsX5_costOf : List Cond := .code yX5_costOf cX5_costOf 3 (some .long) :: BIG
abbrev wsX5_costOn : List Cond := .code yX5_costOn cX5_costOn 4 (some .long) :: BIG
abbrev wsX5_day : List Cond := .code yX5_day cX5_day 6 (some .int) :: BIG
abbrev wsX5_check : List Cond := .code yX5_check cX5_check 7 (some .long) :: BIG
